section
-- ===== PART A: goes FIRST, ahead of the names: the tables' words, and 'selects' of the private methods out of them =====
/-- a private method of a class that the tables say can be made, by its rows of tables_1 -/
def lw_okq (q : MethodName × Nat) : Prop := (q.1.cls ≠ "java/lang/invoke/MethodHandle" ∧ q.1.cls ≠ "java/lang/invoke/VarHandle") ∧ Cond.instantiable q.1.cls q.2 ∈ tables_1 ∧ Cond.privateMethod q.1 ∈ tables_1 ∧ Cond.instanceMethod q.1 ∈ tables_1
theorem lw_p0 : lw_okq (⟨"java/lang/Throwable", "fillInStackTrace", "(I)Ljava/lang/Throwable;"⟩, 6) := ⟨⟨by decide +kernel, by decide +kernel⟩, List.mem_of_getElem? (i := 420) (by decide +kernel), List.mem_of_getElem? (i := 418) (by decide +kernel), List.mem_of_getElem? (i := 419) (by decide +kernel)⟩
theorem lw_p1 : lw_okq (⟨"RuleCompletion$Renaming", "renameSide", "(LRuleCompletion$Term;)V"⟩, 2) := ⟨⟨by decide +kernel, by decide +kernel⟩, List.mem_of_getElem? (i := 142) (by decide +kernel), List.mem_of_getElem? (i := 526) (by decide +kernel), List.mem_of_getElem? (i := 527) (by decide +kernel)⟩
theorem lw_p2 : lw_okq (⟨"RuleCompletion$Renaming", "newName", "(I)C"⟩, 2) := ⟨⟨by decide +kernel, by decide +kernel⟩, List.mem_of_getElem? (i := 142) (by decide +kernel), List.mem_of_getElem? (i := 531) (by decide +kernel), List.mem_of_getElem? (i := 532) (by decide +kernel)⟩
theorem lw_p3 : lw_okq (⟨"RuleCompletion$Rewriter", "findRule", "(LRuleCompletion$Term;)I"⟩, 6) := ⟨⟨by decide +kernel, by decide +kernel⟩, List.mem_of_getElem? (i := 159) (by decide +kernel), List.mem_of_getElem? (i := 582) (by decide +kernel), List.mem_of_getElem? (i := 583) (by decide +kernel)⟩
theorem lw_p4 : lw_okq (⟨"RuleCompletion$Rewriter", "isInstance", "(LRuleCompletion$Term;ILRuleCompletion$Term;)Z"⟩, 6) := ⟨⟨by decide +kernel, by decide +kernel⟩, List.mem_of_getElem? (i := 159) (by decide +kernel), List.mem_of_getElem? (i := 591) (by decide +kernel), List.mem_of_getElem? (i := 592) (by decide +kernel)⟩
theorem lw_p5 : lw_okq (⟨"RuleCompletion$Rewriter", "replace", "(LRuleCompletion$Term;LRuleCompletion$Term;)V"⟩, 6) := ⟨⟨by decide +kernel, by decide +kernel⟩, List.mem_of_getElem? (i := 159) (by decide +kernel), List.mem_of_getElem? (i := 601) (by decide +kernel), List.mem_of_getElem? (i := 602) (by decide +kernel)⟩
theorem lw_p6 : lw_okq (⟨"RuleCompletion$PathOrder", "isAbove", "(LRuleCompletion$Term;LRuleCompletion$Term;)Z"⟩, 6) := ⟨⟨by decide +kernel, by decide +kernel⟩, List.mem_of_getElem? (i := 186) (by decide +kernel), List.mem_of_getElem? (i := 621) (by decide +kernel), List.mem_of_getElem? (i := 622) (by decide +kernel)⟩
theorem lw_p7 : lw_okq (⟨"RuleCompletion$PathOrder", "isAboveByTerm", "(II)Z"⟩, 6) := ⟨⟨by decide +kernel, by decide +kernel⟩, List.mem_of_getElem? (i := 186) (by decide +kernel), List.mem_of_getElem? (i := 627) (by decide +kernel), List.mem_of_getElem? (i := 628) (by decide +kernel)⟩
theorem lw_p8 : lw_okq (⟨"RuleCompletion$PathOrder", "isSameAt", "(II)Z"⟩, 6) := ⟨⟨by decide +kernel, by decide +kernel⟩, List.mem_of_getElem? (i := 186) (by decide +kernel), List.mem_of_getElem? (i := 632) (by decide +kernel), List.mem_of_getElem? (i := 633) (by decide +kernel)⟩
theorem lw_p9 : lw_okq (⟨"RuleCompletion$PathOrder", "isAboveByLetters", "(II)Z"⟩, 6) := ⟨⟨by decide +kernel, by decide +kernel⟩, List.mem_of_getElem? (i := 186) (by decide +kernel), List.mem_of_getElem? (i := 637) (by decide +kernel), List.mem_of_getElem? (i := 638) (by decide +kernel)⟩
theorem lw_p10 : lw_okq (⟨"RuleCompletion$PathOrder", "isAboveAllTerms", "(II)Z"⟩, 6) := ⟨⟨by decide +kernel, by decide +kernel⟩, List.mem_of_getElem? (i := 186) (by decide +kernel), List.mem_of_getElem? (i := 642) (by decide +kernel), List.mem_of_getElem? (i := 643) (by decide +kernel)⟩
theorem lw_p11 : lw_okq (⟨"RuleCompletion$PathOrder", "isAboveInFirstDifference", "(II)Z"⟩, 6) := ⟨⟨by decide +kernel, by decide +kernel⟩, List.mem_of_getElem? (i := 186) (by decide +kernel), List.mem_of_getElem? (i := 646) (by decide +kernel), List.mem_of_getElem? (i := 647) (by decide +kernel)⟩
theorem lw_p12 : lw_okq (⟨"RuleCompletion$Engine", "enterRule", "(I)V"⟩, 12) := ⟨⟨by decide +kernel, by decide +kernel⟩, List.mem_of_getElem? (i := 113) (by decide +kernel), List.mem_of_getElem? (i := 652) (by decide +kernel), List.mem_of_getElem? (i := 653) (by decide +kernel)⟩
theorem lw_p13 : lw_okq (⟨"RuleCompletion$Engine", "settleRightSides", "()Z"⟩, 12) := ⟨⟨by decide +kernel, by decide +kernel⟩, List.mem_of_getElem? (i := 113) (by decide +kernel), List.mem_of_getElem? (i := 664) (by decide +kernel), List.mem_of_getElem? (i := 665) (by decide +kernel)⟩
theorem lw_p14 : lw_okq (⟨"RuleCompletion$Engine", "addKept", "()Z"⟩, 12) := ⟨⟨by decide +kernel, by decide +kernel⟩, List.mem_of_getElem? (i := 113) (by decide +kernel), List.mem_of_getElem? (i := 669) (by decide +kernel), List.mem_of_getElem? (i := 670) (by decide +kernel)⟩
theorem lw_p15 : lw_okq (⟨"RuleCompletion$Engine", "addHand", "()Z"⟩, 12) := ⟨⟨by decide +kernel, by decide +kernel⟩, List.mem_of_getElem? (i := 113) (by decide +kernel), List.mem_of_getElem? (i := 673) (by decide +kernel), List.mem_of_getElem? (i := 674) (by decide +kernel)⟩
def lw_privs_1 : List (MethodName × Nat) := [(⟨"java/lang/Throwable", "fillInStackTrace", "(I)Ljava/lang/Throwable;"⟩, 6), (⟨"RuleCompletion$Renaming", "renameSide", "(LRuleCompletion$Term;)V"⟩, 2), (⟨"RuleCompletion$Renaming", "newName", "(I)C"⟩, 2), (⟨"RuleCompletion$Rewriter", "findRule", "(LRuleCompletion$Term;)I"⟩, 6), (⟨"RuleCompletion$Rewriter", "isInstance", "(LRuleCompletion$Term;ILRuleCompletion$Term;)Z"⟩, 6), (⟨"RuleCompletion$Rewriter", "replace", "(LRuleCompletion$Term;LRuleCompletion$Term;)V"⟩, 6), (⟨"RuleCompletion$PathOrder", "isAbove", "(LRuleCompletion$Term;LRuleCompletion$Term;)Z"⟩, 6), (⟨"RuleCompletion$PathOrder", "isAboveByTerm", "(II)Z"⟩, 6), (⟨"RuleCompletion$PathOrder", "isSameAt", "(II)Z"⟩, 6), (⟨"RuleCompletion$PathOrder", "isAboveByLetters", "(II)Z"⟩, 6), (⟨"RuleCompletion$PathOrder", "isAboveAllTerms", "(II)Z"⟩, 6), (⟨"RuleCompletion$PathOrder", "isAboveInFirstDifference", "(II)Z"⟩, 6), (⟨"RuleCompletion$Engine", "enterRule", "(I)V"⟩, 12), (⟨"RuleCompletion$Engine", "settleRightSides", "()Z"⟩, 12), (⟨"RuleCompletion$Engine", "addKept", "()Z"⟩, 12), (⟨"RuleCompletion$Engine", "addHand", "()Z"⟩, 12)]
theorem lw_r1 : ∀ q ∈ lw_privs_1, lw_okq q := List.forall_mem_cons.mpr ⟨lw_p0, List.forall_mem_cons.mpr ⟨lw_p1, List.forall_mem_cons.mpr ⟨lw_p2, List.forall_mem_cons.mpr ⟨lw_p3, List.forall_mem_cons.mpr ⟨lw_p4, List.forall_mem_cons.mpr ⟨lw_p5, List.forall_mem_cons.mpr ⟨lw_p6, List.forall_mem_cons.mpr ⟨lw_p7, List.forall_mem_cons.mpr ⟨lw_p8, List.forall_mem_cons.mpr ⟨lw_p9, List.forall_mem_cons.mpr ⟨lw_p10, List.forall_mem_cons.mpr ⟨lw_p11, List.forall_mem_cons.mpr ⟨lw_p12, List.forall_mem_cons.mpr ⟨lw_p13, List.forall_mem_cons.mpr ⟨lw_p14, List.forall_mem_cons.mpr ⟨lw_p15, fun _ h => absurd h List.not_mem_nil⟩⟩⟩⟩⟩⟩⟩⟩⟩⟩⟩⟩⟩⟩⟩⟩
theorem lw_p16 : lw_okq (⟨"RuleCompletion$Engine", "addOverlaps", "()Z"⟩, 12) := ⟨⟨by decide +kernel, by decide +kernel⟩, List.mem_of_getElem? (i := 113) (by decide +kernel), List.mem_of_getElem? (i := 687) (by decide +kernel), List.mem_of_getElem? (i := 688) (by decide +kernel)⟩
theorem lw_p17 : lw_okq (⟨"RuleCompletion$Overlap", "lay", "(LRuleCompletion$Term;II)I"⟩, 12) := ⟨⟨by decide +kernel, by decide +kernel⟩, List.mem_of_getElem? (i := 214) (by decide +kernel), List.mem_of_getElem? (i := 695) (by decide +kernel), List.mem_of_getElem? (i := 696) (by decide +kernel)⟩
theorem lw_p18 : lw_okq (⟨"RuleCompletion$Overlap", "canMerge", "(II)Z"⟩, 12) := ⟨⟨by decide +kernel, by decide +kernel⟩, List.mem_of_getElem? (i := 214) (by decide +kernel), List.mem_of_getElem? (i := 705) (by decide +kernel), List.mem_of_getElem? (i := 706) (by decide +kernel)⟩
theorem lw_p19 : lw_okq (⟨"RuleCompletion$Overlap", "pushBoth", "(II)V"⟩, 12) := ⟨⟨by decide +kernel, by decide +kernel⟩, List.mem_of_getElem? (i := 214) (by decide +kernel), List.mem_of_getElem? (i := 709) (by decide +kernel), List.mem_of_getElem? (i := 710) (by decide +kernel)⟩
theorem lw_p20 : lw_okq (⟨"RuleCompletion$Overlap", "classOf", "(I)I"⟩, 12) := ⟨⟨by decide +kernel, by decide +kernel⟩, List.mem_of_getElem? (i := 214) (by decide +kernel), List.mem_of_getElem? (i := 713) (by decide +kernel), List.mem_of_getElem? (i := 714) (by decide +kernel)⟩
theorem lw_p21 : lw_okq (⟨"RuleCompletion$Overlap", "canJoin", "(II)Z"⟩, 12) := ⟨⟨by decide +kernel, by decide +kernel⟩, List.mem_of_getElem? (i := 214) (by decide +kernel), List.mem_of_getElem? (i := 717) (by decide +kernel), List.mem_of_getElem? (i := 718) (by decide +kernel)⟩
theorem lw_p22 : lw_okq (⟨"RuleCompletion$Overlap", "pushTerms", "(II)V"⟩, 12) := ⟨⟨by decide +kernel, by decide +kernel⟩, List.mem_of_getElem? (i := 214) (by decide +kernel), List.mem_of_getElem? (i := 721) (by decide +kernel), List.mem_of_getElem? (i := 722) (by decide +kernel)⟩
theorem lw_p23 : lw_okq (⟨"RuleCompletion$Overlap", "isFinite", "(I)Z"⟩, 12) := ⟨⟨by decide +kernel, by decide +kernel⟩, List.mem_of_getElem? (i := 214) (by decide +kernel), List.mem_of_getElem? (i := 726) (by decide +kernel), List.mem_of_getElem? (i := 727) (by decide +kernel)⟩
theorem lw_p24 : lw_okq (⟨"RuleCompletion$Overlap", "settleMore", "(II)Z"⟩, 12) := ⟨⟨by decide +kernel, by decide +kernel⟩, List.mem_of_getElem? (i := 214) (by decide +kernel), List.mem_of_getElem? (i := 730) (by decide +kernel), List.mem_of_getElem? (i := 731) (by decide +kernel)⟩
theorem lw_p25 : lw_okq (⟨"RuleCompletion$Overlap", "hasSettledTerms", "(I)Z"⟩, 12) := ⟨⟨by decide +kernel, by decide +kernel⟩, List.mem_of_getElem? (i := 214) (by decide +kernel), List.mem_of_getElem? (i := 734) (by decide +kernel), List.mem_of_getElem? (i := 735) (by decide +kernel)⟩
theorem lw_p26 : lw_okq (⟨"RuleCompletion$Overlap", "appendTerms", "(IILRuleCompletion$Term;)V"⟩, 12) := ⟨⟨by decide +kernel, by decide +kernel⟩, List.mem_of_getElem? (i := 214) (by decide +kernel), List.mem_of_getElem? (i := 738) (by decide +kernel), List.mem_of_getElem? (i := 739) (by decide +kernel)⟩
theorem lw_p27 : lw_okq (⟨"RuleCompletion$Overlap", "appendTermOf", "(ILRuleCompletion$Term;)V"⟩, 12) := ⟨⟨by decide +kernel, by decide +kernel⟩, List.mem_of_getElem? (i := 214) (by decide +kernel), List.mem_of_getElem? (i := 742) (by decide +kernel), List.mem_of_getElem? (i := 743) (by decide +kernel)⟩
theorem lw_p28 : lw_okq (⟨"RuleCompletion$Overlap", "pushTermsBackwards", "(I)V"⟩, 12) := ⟨⟨by decide +kernel, by decide +kernel⟩, List.mem_of_getElem? (i := 214) (by decide +kernel), List.mem_of_getElem? (i := 747) (by decide +kernel), List.mem_of_getElem? (i := 748) (by decide +kernel)⟩
theorem lw_p29 : lw_okq (⟨"RuleCompletionModel", "refuses", "(ZZ)Z"⟩, 27) := ⟨⟨by decide +kernel, by decide +kernel⟩, List.mem_of_getElem? (i := 790) (by decide +kernel), List.mem_of_getElem? (i := 886) (by decide +kernel), List.mem_of_getElem? (i := 887) (by decide +kernel)⟩
theorem lw_p30 : lw_okq (⟨"RuleCompletionModel", "readsPair", "()Z"⟩, 27) := ⟨⟨by decide +kernel, by decide +kernel⟩, List.mem_of_getElem? (i := 790) (by decide +kernel), List.mem_of_getElem? (i := 910) (by decide +kernel), List.mem_of_getElem? (i := 911) (by decide +kernel)⟩
theorem lw_p31 : lw_okq (⟨"RuleCompletionModel", "reads", "(III)Z"⟩, 27) := ⟨⟨by decide +kernel, by decide +kernel⟩, List.mem_of_getElem? (i := 790) (by decide +kernel), List.mem_of_getElem? (i := 914) (by decide +kernel), List.mem_of_getElem? (i := 915) (by decide +kernel)⟩
def lw_privs_2 : List (MethodName × Nat) := [(⟨"RuleCompletion$Engine", "addOverlaps", "()Z"⟩, 12), (⟨"RuleCompletion$Overlap", "lay", "(LRuleCompletion$Term;II)I"⟩, 12), (⟨"RuleCompletion$Overlap", "canMerge", "(II)Z"⟩, 12), (⟨"RuleCompletion$Overlap", "pushBoth", "(II)V"⟩, 12), (⟨"RuleCompletion$Overlap", "classOf", "(I)I"⟩, 12), (⟨"RuleCompletion$Overlap", "canJoin", "(II)Z"⟩, 12), (⟨"RuleCompletion$Overlap", "pushTerms", "(II)V"⟩, 12), (⟨"RuleCompletion$Overlap", "isFinite", "(I)Z"⟩, 12), (⟨"RuleCompletion$Overlap", "settleMore", "(II)Z"⟩, 12), (⟨"RuleCompletion$Overlap", "hasSettledTerms", "(I)Z"⟩, 12), (⟨"RuleCompletion$Overlap", "appendTerms", "(IILRuleCompletion$Term;)V"⟩, 12), (⟨"RuleCompletion$Overlap", "appendTermOf", "(ILRuleCompletion$Term;)V"⟩, 12), (⟨"RuleCompletion$Overlap", "pushTermsBackwards", "(I)V"⟩, 12), (⟨"RuleCompletionModel", "refuses", "(ZZ)Z"⟩, 27), (⟨"RuleCompletionModel", "readsPair", "()Z"⟩, 27), (⟨"RuleCompletionModel", "reads", "(III)Z"⟩, 27)]
theorem lw_r2 : ∀ q ∈ lw_privs_2, lw_okq q := List.forall_mem_cons.mpr ⟨lw_p16, List.forall_mem_cons.mpr ⟨lw_p17, List.forall_mem_cons.mpr ⟨lw_p18, List.forall_mem_cons.mpr ⟨lw_p19, List.forall_mem_cons.mpr ⟨lw_p20, List.forall_mem_cons.mpr ⟨lw_p21, List.forall_mem_cons.mpr ⟨lw_p22, List.forall_mem_cons.mpr ⟨lw_p23, List.forall_mem_cons.mpr ⟨lw_p24, List.forall_mem_cons.mpr ⟨lw_p25, List.forall_mem_cons.mpr ⟨lw_p26, List.forall_mem_cons.mpr ⟨lw_p27, List.forall_mem_cons.mpr ⟨lw_p28, List.forall_mem_cons.mpr ⟨lw_p29, List.forall_mem_cons.mpr ⟨lw_p30, List.forall_mem_cons.mpr ⟨lw_p31, fun _ h => absurd h List.not_mem_nil⟩⟩⟩⟩⟩⟩⟩⟩⟩⟩⟩⟩⟩⟩⟩⟩
theorem lw_p32 : lw_okq (⟨"RuleCompletionModel", "code", "(I)I"⟩, 27) := ⟨⟨by decide +kernel, by decide +kernel⟩, List.mem_of_getElem? (i := 790) (by decide +kernel), List.mem_of_getElem? (i := 918) (by decide +kernel), List.mem_of_getElem? (i := 919) (by decide +kernel)⟩
theorem lw_p33 : lw_okq (⟨"RuleCompletionModel", "put", "(II)V"⟩, 27) := ⟨⟨by decide +kernel, by decide +kernel⟩, List.mem_of_getElem? (i := 790) (by decide +kernel), List.mem_of_getElem? (i := 922) (by decide +kernel), List.mem_of_getElem? (i := 923) (by decide +kernel)⟩
theorem lw_p34 : lw_okq (⟨"RuleCompletionModel", "placesOf", "(I)I"⟩, 27) := ⟨⟨by decide +kernel, by decide +kernel⟩, List.mem_of_getElem? (i := 790) (by decide +kernel), List.mem_of_getElem? (i := 926) (by decide +kernel), List.mem_of_getElem? (i := 927) (by decide +kernel)⟩
theorem lw_p35 : lw_okq (⟨"RuleCompletionModel", "rename", "()I"⟩, 27) := ⟨⟨by decide +kernel, by decide +kernel⟩, List.mem_of_getElem? (i := 790) (by decide +kernel), List.mem_of_getElem? (i := 930) (by decide +kernel), List.mem_of_getElem? (i := 931) (by decide +kernel)⟩
theorem lw_p36 : lw_okq (⟨"RuleCompletionModel", "setPair", "(I)V"⟩, 27) := ⟨⟨by decide +kernel, by decide +kernel⟩, List.mem_of_getElem? (i := 790) (by decide +kernel), List.mem_of_getElem? (i := 934) (by decide +kernel), List.mem_of_getElem? (i := 935) (by decide +kernel)⟩
theorem lw_p37 : lw_okq (⟨"RuleCompletionModel", "step", "()V"⟩, 27) := ⟨⟨by decide +kernel, by decide +kernel⟩, List.mem_of_getElem? (i := 790) (by decide +kernel), List.mem_of_getElem? (i := 942) (by decide +kernel), List.mem_of_getElem? (i := 943) (by decide +kernel)⟩
theorem lw_p38 : lw_okq (⟨"RuleCompletionModel", "lightest", "()I"⟩, 27) := ⟨⟨by decide +kernel, by decide +kernel⟩, List.mem_of_getElem? (i := 790) (by decide +kernel), List.mem_of_getElem? (i := 946) (by decide +kernel), List.mem_of_getElem? (i := 947) (by decide +kernel)⟩
theorem lw_p39 : lw_okq (⟨"RuleCompletionModel", "getPair", "(I)V"⟩, 27) := ⟨⟨by decide +kernel, by decide +kernel⟩, List.mem_of_getElem? (i := 790) (by decide +kernel), List.mem_of_getElem? (i := 950) (by decide +kernel), List.mem_of_getElem? (i := 951) (by decide +kernel)⟩
theorem lw_p40 : lw_okq (⟨"RuleCompletionModel", "dropWaiting", "(I)V"⟩, 27) := ⟨⟨by decide +kernel, by decide +kernel⟩, List.mem_of_getElem? (i := 790) (by decide +kernel), List.mem_of_getElem? (i := 954) (by decide +kernel), List.mem_of_getElem? (i := 955) (by decide +kernel)⟩
theorem lw_p41 : lw_okq (⟨"RuleCompletionModel", "normal", "(I)I"⟩, 27) := ⟨⟨by decide +kernel, by decide +kernel⟩, List.mem_of_getElem? (i := 790) (by decide +kernel), List.mem_of_getElem? (i := 958) (by decide +kernel), List.mem_of_getElem? (i := 959) (by decide +kernel)⟩
theorem lw_p42 : lw_okq (⟨"RuleCompletionModel", "rewrites", "(I)Z"⟩, 27) := ⟨⟨by decide +kernel, by decide +kernel⟩, List.mem_of_getElem? (i := 790) (by decide +kernel), List.mem_of_getElem? (i := 962) (by decide +kernel), List.mem_of_getElem? (i := 963) (by decide +kernel)⟩
theorem lw_p43 : lw_okq (⟨"RuleCompletionModel", "fits", "(III)Z"⟩, 27) := ⟨⟨by decide +kernel, by decide +kernel⟩, List.mem_of_getElem? (i := 790) (by decide +kernel), List.mem_of_getElem? (i := 966) (by decide +kernel), List.mem_of_getElem? (i := 967) (by decide +kernel)⟩
theorem lw_p44 : lw_okq (⟨"RuleCompletionModel", "end", "(II)I"⟩, 27) := ⟨⟨by decide +kernel, by decide +kernel⟩, List.mem_of_getElem? (i := 790) (by decide +kernel), List.mem_of_getElem? (i := 970) (by decide +kernel), List.mem_of_getElem? (i := 971) (by decide +kernel)⟩
theorem lw_p45 : lw_okq (⟨"RuleCompletionModel", "sameStretch", "(IIII)Z"⟩, 27) := ⟨⟨by decide +kernel, by decide +kernel⟩, List.mem_of_getElem? (i := 790) (by decide +kernel), List.mem_of_getElem? (i := 974) (by decide +kernel), List.mem_of_getElem? (i := 975) (by decide +kernel)⟩
theorem lw_p46 : lw_okq (⟨"RuleCompletionModel", "replace", "(III)V"⟩, 27) := ⟨⟨by decide +kernel, by decide +kernel⟩, List.mem_of_getElem? (i := 790) (by decide +kernel), List.mem_of_getElem? (i := 978) (by decide +kernel), List.mem_of_getElem? (i := 979) (by decide +kernel)⟩
theorem lw_p47 : lw_okq (⟨"RuleCompletionModel", "copy", "(II)V"⟩, 27) := ⟨⟨by decide +kernel, by decide +kernel⟩, List.mem_of_getElem? (i := 790) (by decide +kernel), List.mem_of_getElem? (i := 982) (by decide +kernel), List.mem_of_getElem? (i := 983) (by decide +kernel)⟩
def lw_privs_3 : List (MethodName × Nat) := [(⟨"RuleCompletionModel", "code", "(I)I"⟩, 27), (⟨"RuleCompletionModel", "put", "(II)V"⟩, 27), (⟨"RuleCompletionModel", "placesOf", "(I)I"⟩, 27), (⟨"RuleCompletionModel", "rename", "()I"⟩, 27), (⟨"RuleCompletionModel", "setPair", "(I)V"⟩, 27), (⟨"RuleCompletionModel", "step", "()V"⟩, 27), (⟨"RuleCompletionModel", "lightest", "()I"⟩, 27), (⟨"RuleCompletionModel", "getPair", "(I)V"⟩, 27), (⟨"RuleCompletionModel", "dropWaiting", "(I)V"⟩, 27), (⟨"RuleCompletionModel", "normal", "(I)I"⟩, 27), (⟨"RuleCompletionModel", "rewrites", "(I)Z"⟩, 27), (⟨"RuleCompletionModel", "fits", "(III)Z"⟩, 27), (⟨"RuleCompletionModel", "end", "(II)I"⟩, 27), (⟨"RuleCompletionModel", "sameStretch", "(IIII)Z"⟩, 27), (⟨"RuleCompletionModel", "replace", "(III)V"⟩, 27), (⟨"RuleCompletionModel", "copy", "(II)V"⟩, 27)]
theorem lw_r3 : ∀ q ∈ lw_privs_3, lw_okq q := List.forall_mem_cons.mpr ⟨lw_p32, List.forall_mem_cons.mpr ⟨lw_p33, List.forall_mem_cons.mpr ⟨lw_p34, List.forall_mem_cons.mpr ⟨lw_p35, List.forall_mem_cons.mpr ⟨lw_p36, List.forall_mem_cons.mpr ⟨lw_p37, List.forall_mem_cons.mpr ⟨lw_p38, List.forall_mem_cons.mpr ⟨lw_p39, List.forall_mem_cons.mpr ⟨lw_p40, List.forall_mem_cons.mpr ⟨lw_p41, List.forall_mem_cons.mpr ⟨lw_p42, List.forall_mem_cons.mpr ⟨lw_p43, List.forall_mem_cons.mpr ⟨lw_p44, List.forall_mem_cons.mpr ⟨lw_p45, List.forall_mem_cons.mpr ⟨lw_p46, List.forall_mem_cons.mpr ⟨lw_p47, fun _ h => absurd h List.not_mem_nil⟩⟩⟩⟩⟩⟩⟩⟩⟩⟩⟩⟩⟩⟩⟩⟩
theorem lw_p48 : lw_okq (⟨"RuleCompletionModel", "alike", "(II)Z"⟩, 27) := ⟨⟨by decide +kernel, by decide +kernel⟩, List.mem_of_getElem? (i := 790) (by decide +kernel), List.mem_of_getElem? (i := 986) (by decide +kernel), List.mem_of_getElem? (i := 987) (by decide +kernel)⟩
theorem lw_p49 : lw_okq (⟨"RuleCompletionModel", "isGreater", "(II)Z"⟩, 27) := ⟨⟨by decide +kernel, by decide +kernel⟩, List.mem_of_getElem? (i := 790) (by decide +kernel), List.mem_of_getElem? (i := 990) (by decide +kernel), List.mem_of_getElem? (i := 991) (by decide +kernel)⟩
theorem lw_p50 : lw_okq (⟨"RuleCompletionModel", "isAbove", "(IIII)Z"⟩, 27) := ⟨⟨by decide +kernel, by decide +kernel⟩, List.mem_of_getElem? (i := 790) (by decide +kernel), List.mem_of_getElem? (i := 994) (by decide +kernel), List.mem_of_getElem? (i := 995) (by decide +kernel)⟩
theorem lw_p51 : lw_okq (⟨"RuleCompletionModel", "comesIn", "(III)Z"⟩, 27) := ⟨⟨by decide +kernel, by decide +kernel⟩, List.mem_of_getElem? (i := 790) (by decide +kernel), List.mem_of_getElem? (i := 998) (by decide +kernel), List.mem_of_getElem? (i := 999) (by decide +kernel)⟩
theorem lw_p52 : lw_okq (⟨"RuleCompletionModel", "part", "(III)I"⟩, 27) := ⟨⟨by decide +kernel, by decide +kernel⟩, List.mem_of_getElem? (i := 790) (by decide +kernel), List.mem_of_getElem? (i := 1002) (by decide +kernel), List.mem_of_getElem? (i := 1003) (by decide +kernel)⟩
theorem lw_p53 : lw_okq (⟨"RuleCompletionModel", "sameParts", "(IIII)Z"⟩, 27) := ⟨⟨by decide +kernel, by decide +kernel⟩, List.mem_of_getElem? (i := 790) (by decide +kernel), List.mem_of_getElem? (i := 1006) (by decide +kernel), List.mem_of_getElem? (i := 1007) (by decide +kernel)⟩
theorem lw_p54 : lw_okq (⟨"RuleCompletionModel", "exchange", "()V"⟩, 27) := ⟨⟨by decide +kernel, by decide +kernel⟩, List.mem_of_getElem? (i := 790) (by decide +kernel), List.mem_of_getElem? (i := 1010) (by decide +kernel), List.mem_of_getElem? (i := 1011) (by decide +kernel)⟩
theorem lw_p55 : lw_okq (⟨"RuleCompletionModel", "enter", "()V"⟩, 27) := ⟨⟨by decide +kernel, by decide +kernel⟩, List.mem_of_getElem? (i := 790) (by decide +kernel), List.mem_of_getElem? (i := 1014) (by decide +kernel), List.mem_of_getElem? (i := 1015) (by decide +kernel)⟩
theorem lw_p56 : lw_okq (⟨"RuleCompletionModel", "setRule", "(I)V"⟩, 27) := ⟨⟨by decide +kernel, by decide +kernel⟩, List.mem_of_getElem? (i := 790) (by decide +kernel), List.mem_of_getElem? (i := 1018) (by decide +kernel), List.mem_of_getElem? (i := 1019) (by decide +kernel)⟩
theorem lw_p57 : lw_okq (⟨"RuleCompletionModel", "prune", "()V"⟩, 27) := ⟨⟨by decide +kernel, by decide +kernel⟩, List.mem_of_getElem? (i := 790) (by decide +kernel), List.mem_of_getElem? (i := 1022) (by decide +kernel), List.mem_of_getElem? (i := 1023) (by decide +kernel)⟩
theorem lw_p58 : lw_okq (⟨"RuleCompletionModel", "getRule", "(I)V"⟩, 27) := ⟨⟨by decide +kernel, by decide +kernel⟩, List.mem_of_getElem? (i := 790) (by decide +kernel), List.mem_of_getElem? (i := 1026) (by decide +kernel), List.mem_of_getElem? (i := 1027) (by decide +kernel)⟩
theorem lw_p59 : lw_okq (⟨"RuleCompletionModel", "dropRule", "(I)V"⟩, 27) := ⟨⟨by decide +kernel, by decide +kernel⟩, List.mem_of_getElem? (i := 790) (by decide +kernel), List.mem_of_getElem? (i := 1030) (by decide +kernel), List.mem_of_getElem? (i := 1031) (by decide +kernel)⟩
theorem lw_p60 : lw_okq (⟨"RuleCompletionModel", "reduceRights", "()V"⟩, 27) := ⟨⟨by decide +kernel, by decide +kernel⟩, List.mem_of_getElem? (i := 790) (by decide +kernel), List.mem_of_getElem? (i := 1034) (by decide +kernel), List.mem_of_getElem? (i := 1035) (by decide +kernel)⟩
theorem lw_p61 : lw_okq (⟨"RuleCompletionModel", "add", "()V"⟩, 27) := ⟨⟨by decide +kernel, by decide +kernel⟩, List.mem_of_getElem? (i := 790) (by decide +kernel), List.mem_of_getElem? (i := 1038) (by decide +kernel), List.mem_of_getElem? (i := 1039) (by decide +kernel)⟩
theorem lw_p62 : lw_okq (⟨"RuleCompletionModel", "isWaiting", "()Z"⟩, 27) := ⟨⟨by decide +kernel, by decide +kernel⟩, List.mem_of_getElem? (i := 790) (by decide +kernel), List.mem_of_getElem? (i := 1042) (by decide +kernel), List.mem_of_getElem? (i := 1043) (by decide +kernel)⟩
theorem lw_p63 : lw_okq (⟨"RuleCompletionModel", "isPair", "(I)Z"⟩, 27) := ⟨⟨by decide +kernel, by decide +kernel⟩, List.mem_of_getElem? (i := 790) (by decide +kernel), List.mem_of_getElem? (i := 1046) (by decide +kernel), List.mem_of_getElem? (i := 1047) (by decide +kernel)⟩
def lw_privs_4 : List (MethodName × Nat) := [(⟨"RuleCompletionModel", "alike", "(II)Z"⟩, 27), (⟨"RuleCompletionModel", "isGreater", "(II)Z"⟩, 27), (⟨"RuleCompletionModel", "isAbove", "(IIII)Z"⟩, 27), (⟨"RuleCompletionModel", "comesIn", "(III)Z"⟩, 27), (⟨"RuleCompletionModel", "part", "(III)I"⟩, 27), (⟨"RuleCompletionModel", "sameParts", "(IIII)Z"⟩, 27), (⟨"RuleCompletionModel", "exchange", "()V"⟩, 27), (⟨"RuleCompletionModel", "enter", "()V"⟩, 27), (⟨"RuleCompletionModel", "setRule", "(I)V"⟩, 27), (⟨"RuleCompletionModel", "prune", "()V"⟩, 27), (⟨"RuleCompletionModel", "getRule", "(I)V"⟩, 27), (⟨"RuleCompletionModel", "dropRule", "(I)V"⟩, 27), (⟨"RuleCompletionModel", "reduceRights", "()V"⟩, 27), (⟨"RuleCompletionModel", "add", "()V"⟩, 27), (⟨"RuleCompletionModel", "isWaiting", "()Z"⟩, 27), (⟨"RuleCompletionModel", "isPair", "(I)Z"⟩, 27)]
theorem lw_r4 : ∀ q ∈ lw_privs_4, lw_okq q := List.forall_mem_cons.mpr ⟨lw_p48, List.forall_mem_cons.mpr ⟨lw_p49, List.forall_mem_cons.mpr ⟨lw_p50, List.forall_mem_cons.mpr ⟨lw_p51, List.forall_mem_cons.mpr ⟨lw_p52, List.forall_mem_cons.mpr ⟨lw_p53, List.forall_mem_cons.mpr ⟨lw_p54, List.forall_mem_cons.mpr ⟨lw_p55, List.forall_mem_cons.mpr ⟨lw_p56, List.forall_mem_cons.mpr ⟨lw_p57, List.forall_mem_cons.mpr ⟨lw_p58, List.forall_mem_cons.mpr ⟨lw_p59, List.forall_mem_cons.mpr ⟨lw_p60, List.forall_mem_cons.mpr ⟨lw_p61, List.forall_mem_cons.mpr ⟨lw_p62, List.forall_mem_cons.mpr ⟨lw_p63, fun _ h => absurd h List.not_mem_nil⟩⟩⟩⟩⟩⟩⟩⟩⟩⟩⟩⟩⟩⟩⟩⟩
theorem lw_p64 : lw_okq (⟨"RuleCompletionModel", "overlap", "(II)V"⟩, 27) := ⟨⟨by decide +kernel, by decide +kernel⟩, List.mem_of_getElem? (i := 790) (by decide +kernel), List.mem_of_getElem? (i := 1050) (by decide +kernel), List.mem_of_getElem? (i := 1051) (by decide +kernel)⟩
theorem lw_p65 : lw_okq (⟨"RuleCompletionModel", "lay", "(II)V"⟩, 27) := ⟨⟨by decide +kernel, by decide +kernel⟩, List.mem_of_getElem? (i := 790) (by decide +kernel), List.mem_of_getElem? (i := 1054) (by decide +kernel), List.mem_of_getElem? (i := 1055) (by decide +kernel)⟩
theorem lw_p66 : lw_okq (⟨"RuleCompletionModel", "unite", "(II)Z"⟩, 27) := ⟨⟨by decide +kernel, by decide +kernel⟩, List.mem_of_getElem? (i := 790) (by decide +kernel), List.mem_of_getElem? (i := 1061) (by decide +kernel), List.mem_of_getElem? (i := 1062) (by decide +kernel)⟩
theorem lw_p67 : lw_okq (⟨"RuleCompletionModel", "follow", "(I)I"⟩, 27) := ⟨⟨by decide +kernel, by decide +kernel⟩, List.mem_of_getElem? (i := 790) (by decide +kernel), List.mem_of_getElem? (i := 1065) (by decide +kernel), List.mem_of_getElem? (i := 1066) (by decide +kernel)⟩
theorem lw_p68 : lw_okq (⟨"RuleCompletionModel", "occurs", "(II)Z"⟩, 27) := ⟨⟨by decide +kernel, by decide +kernel⟩, List.mem_of_getElem? (i := 790) (by decide +kernel), List.mem_of_getElem? (i := 1069) (by decide +kernel), List.mem_of_getElem? (i := 1070) (by decide +kernel)⟩
theorem lw_p69 : lw_okq (⟨"RuleCompletionModel", "endInCommon", "(I)I"⟩, 27) := ⟨⟨by decide +kernel, by decide +kernel⟩, List.mem_of_getElem? (i := 790) (by decide +kernel), List.mem_of_getElem? (i := 1073) (by decide +kernel), List.mem_of_getElem? (i := 1074) (by decide +kernel)⟩
theorem lw_p70 : lw_okq (⟨"RuleCompletionModel", "spell", "(III)V"⟩, 27) := ⟨⟨by decide +kernel, by decide +kernel⟩, List.mem_of_getElem? (i := 790) (by decide +kernel), List.mem_of_getElem? (i := 1077) (by decide +kernel), List.mem_of_getElem? (i := 1078) (by decide +kernel)⟩
theorem lw_p71 : lw_okq (⟨"RuleCompletionModel", "told", "(IC)C"⟩, 27) := ⟨⟨by decide +kernel, by decide +kernel⟩, List.mem_of_getElem? (i := 790) (by decide +kernel), List.mem_of_getElem? (i := 1097) (by decide +kernel), List.mem_of_getElem? (i := 1098) (by decide +kernel)⟩
def lw_privs_5 : List (MethodName × Nat) := [(⟨"RuleCompletionModel", "overlap", "(II)V"⟩, 27), (⟨"RuleCompletionModel", "lay", "(II)V"⟩, 27), (⟨"RuleCompletionModel", "unite", "(II)Z"⟩, 27), (⟨"RuleCompletionModel", "follow", "(I)I"⟩, 27), (⟨"RuleCompletionModel", "occurs", "(II)Z"⟩, 27), (⟨"RuleCompletionModel", "endInCommon", "(I)I"⟩, 27), (⟨"RuleCompletionModel", "spell", "(III)V"⟩, 27), (⟨"RuleCompletionModel", "told", "(IC)C"⟩, 27)]
theorem lw_r5 : ∀ q ∈ lw_privs_5, lw_okq q := List.forall_mem_cons.mpr ⟨lw_p64, List.forall_mem_cons.mpr ⟨lw_p65, List.forall_mem_cons.mpr ⟨lw_p66, List.forall_mem_cons.mpr ⟨lw_p67, List.forall_mem_cons.mpr ⟨lw_p68, List.forall_mem_cons.mpr ⟨lw_p69, List.forall_mem_cons.mpr ⟨lw_p70, List.forall_mem_cons.mpr ⟨lw_p71, fun _ h => absurd h List.not_mem_nil⟩⟩⟩⟩⟩⟩⟩⟩
def lw_privs : List (MethodName × Nat) := lw_privs_1 ++ (lw_privs_2 ++ (lw_privs_3 ++ (lw_privs_4 ++ (lw_privs_5))))
def lw_tbl : List Cond := k2_sels lw_privs ++ tables_1
theorem lw_privs_ok : ∀ q ∈ lw_privs, lw_okq q := by
  show ∀ q ∈ lw_privs_1 ++ (lw_privs_2 ++ (lw_privs_3 ++ (lw_privs_4 ++ (lw_privs_5)))), lw_okq q
  exact List.forall_mem_append.mpr ⟨lw_r1, List.forall_mem_append.mpr ⟨lw_r2, List.forall_mem_append.mpr ⟨lw_r3, List.forall_mem_append.mpr ⟨lw_r4, lw_r5⟩⟩⟩⟩
end
section
/-! Tables of this kind, by program: owners, kinds, fields, methods with their instructions, links. -/
/-- owner, name, code, locals, answer, instructions, handlers, throws, frames, words -/
abbrev ai_M : Type := Nat × MethodName × ByteArray × Nat × Option FieldType × List (Nat × Instr × Nat) × List (Nat × Nat × Nat × Nat × String) × List (Nat × String × Nat × Nat × Nat × String) × Nat × Nat
abbrev ai_oi (M : ai_M) := M.1
abbrev ai_y (M : ai_M) := M.2.1
abbrev ai_cc (M : ai_M) := M.2.2.1
abbrev ai_nL (M : ai_M) := M.2.2.2.1
abbrev ai_ret (M : ai_M) := M.2.2.2.2.1
abbrev ai_code (M : ai_M) := M.2.2.2.2.2.1
abbrev ai_ex (M : ai_M) := M.2.2.2.2.2.2.1
abbrev ai_thrL (M : ai_M) := M.2.2.2.2.2.2.2.1
abbrev ai_Fr (M : ai_M) := M.2.2.2.2.2.2.2.2.1
abbrev ai_Lc (M : ai_M) := M.2.2.2.2.2.2.2.2.2
def ai_own (oi : Nat) : String := match oi with
  | 0 => "RuleCompletion"
  | 1 => "RuleCompletion$Draft"
  | 2 => "RuleCompletion$Engine"
  | 3 => "RuleCompletion$Overlap"
  | 4 => "RuleCompletion$Pair"
  | 5 => "RuleCompletion$PairList"
  | 6 => "RuleCompletion$PathOrder"
  | 7 => "RuleCompletion$Renaming"
  | 8 => "RuleCompletion$Rewriter"
  | 9 => "RuleCompletion$Symbols"
  | 10 => "RuleCompletion$Term"
  | 11 => "RuleCompletionLaw"
  | 12 => "RuleCompletionModel"
  | 13 => "java/util/Arrays"
  | 99 => "RuleCompletionLaw"
  | _ => ""
def ai_host : String := "RuleCompletion"
def ai_pairN : String := "RuleCompletion$Pair"
def ai_pair : Nat := 3
def ai_T0 : u_T := fun k => match k with
  | 0 => ("RuleCompletion", "symbols", "LRuleCompletion$Symbols;", true)
  | 1 => ("RuleCompletion", "text", "LRuleCompletion$Draft;", true)
  | 2 => ("RuleCompletion", "typed", "LRuleCompletion$Pair;", true)
  | _ => ("RuleCompletion", "engine", "LRuleCompletion$Engine;", true)
def ai_ty0 : Nat → FieldType := fun k => match k with
  | 0 => .object "RuleCompletion$Symbols"
  | 1 => .object "RuleCompletion$Draft"
  | 2 => .object "RuleCompletion$Pair"
  | _ => .object "RuleCompletion$Engine"
def ai_T1 : u_T := fun k => match k with
  | 0 => ("RuleCompletion$Symbols", "places", "[I", true)
  | 1 => ("RuleCompletion$Symbols", "ranks", "[I", true)
  | _ => ("RuleCompletion$Symbols", "declared", "I", false)
def ai_ty1 : Nat → FieldType := fun k => match k with
  | 0 => .array .int
  | 1 => .array .int
  | _ => .int
def ai_T2 : u_T := fun k => match k with
  | 0 => ("RuleCompletion$Draft", "characters", "[C", true)
  | _ => ("RuleCompletion$Draft", "length", "I", false)
def ai_ty2 : Nat → FieldType := fun k => match k with
  | 0 => .array .char
  | _ => .int
def ai_T3 : u_T := fun k => match k with
  | 0 => ("RuleCompletion$Pair", "left", "LRuleCompletion$Term;", true)
  | _ => ("RuleCompletion$Pair", "right", "LRuleCompletion$Term;", true)
def ai_ty3 : Nat → FieldType := fun k => match k with
  | 0 => .object "RuleCompletion$Term"
  | _ => .object "RuleCompletion$Term"
def ai_T4 : u_T := fun k => match k with
  | 0 => ("RuleCompletion$Term", "letters", "[C", true)
  | _ => ("RuleCompletion$Term", "size", "I", false)
def ai_ty4 : Nat → FieldType := fun k => match k with
  | 0 => .array .char
  | _ => .int
def ai_T5 : u_T := fun k => match k with
  | 0 => ("RuleCompletion$Engine", "ruleList", "LRuleCompletion$PairList;", true)
  | 1 => ("RuleCompletion$Engine", "equations", "LRuleCompletion$PairList;", true)
  | 2 => ("RuleCompletion$Engine", "kept", "LRuleCompletion$PairList;", true)
  | 3 => ("RuleCompletion$Engine", "rewriter", "LRuleCompletion$Rewriter;", true)
  | 4 => ("RuleCompletion$Engine", "order", "LRuleCompletion$PathOrder;", true)
  | 5 => ("RuleCompletion$Engine", "overlap", "LRuleCompletion$Overlap;", true)
  | 6 => ("RuleCompletion$Engine", "renaming", "LRuleCompletion$Renaming;", true)
  | 7 => ("RuleCompletion$Engine", "hand", "LRuleCompletion$Pair;", true)
  | 8 => ("RuleCompletion$Engine", "turned", "LRuleCompletion$Pair;", true)
  | 9 => ("RuleCompletion$Engine", "side", "LRuleCompletion$Term;", true)
  | 10 => ("RuleCompletion$Engine", "state", "I", false)
  | _ => ("RuleCompletion$Engine", "stepsMade", "I", false)
def ai_ty5 : Nat → FieldType := fun k => match k with
  | 0 => .object "RuleCompletion$PairList"
  | 1 => .object "RuleCompletion$PairList"
  | 2 => .object "RuleCompletion$PairList"
  | 3 => .object "RuleCompletion$Rewriter"
  | 4 => .object "RuleCompletion$PathOrder"
  | 5 => .object "RuleCompletion$Overlap"
  | 6 => .object "RuleCompletion$Renaming"
  | 7 => .object "RuleCompletion$Pair"
  | 8 => .object "RuleCompletion$Pair"
  | 9 => .object "RuleCompletion$Term"
  | 10 => .int
  | _ => .int
def ai_T6 : u_T := fun k => match k with
  | 0 => ("RuleCompletion$PairList", "pairs", "[LRuleCompletion$Pair;", true)
  | _ => ("RuleCompletion$PairList", "count", "I", false)
def ai_ty6 : Nat → FieldType := fun k => match k with
  | 0 => .array (.object "RuleCompletion$Pair")
  | _ => .int
def ai_T7 : u_T := fun k => match k with
  | 0 => ("RuleCompletion$Renaming", "numbers", "[I", true)
  | _ => ("RuleCompletion$Renaming", "variables", "I", false)
def ai_ty7 : Nat → FieldType := fun k => match k with
  | 0 => .array .int
  | _ => .int
def ai_T8 : u_T := fun k => match k with
  | 0 => ("RuleCompletion$Rewriter", "symbols", "LRuleCompletion$Symbols;", true)
  | 1 => ("RuleCompletion$Rewriter", "ruleList", "LRuleCompletion$PairList;", true)
  | 2 => ("RuleCompletion$Rewriter", "ends", "[I", true)
  | 3 => ("RuleCompletion$Rewriter", "begins", "[I", true)
  | 4 => ("RuleCompletion$Rewriter", "result", "LRuleCompletion$Term;", true)
  | _ => ("RuleCompletion$Rewriter", "place", "I", false)
def ai_ty8 : Nat → FieldType := fun k => match k with
  | 0 => .object "RuleCompletion$Symbols"
  | 1 => .object "RuleCompletion$PairList"
  | 2 => .array .int
  | 3 => .array .int
  | 4 => .object "RuleCompletion$Term"
  | _ => .int
def ai_T9 : u_T := fun k => match k with
  | 0 => ("RuleCompletion$PathOrder", "symbols", "LRuleCompletion$Symbols;", true)
  | 1 => ("RuleCompletion$PathOrder", "upper", "LRuleCompletion$Term;", true)
  | 2 => ("RuleCompletion$PathOrder", "lower", "LRuleCompletion$Term;", true)
  | 3 => ("RuleCompletion$PathOrder", "upperEnds", "[I", true)
  | 4 => ("RuleCompletion$PathOrder", "lowerEnds", "[I", true)
  | _ => ("RuleCompletion$PathOrder", "table", "[Z", true)
def ai_ty9 : Nat → FieldType := fun k => match k with
  | 0 => .object "RuleCompletion$Symbols"
  | 1 => .object "RuleCompletion$Term"
  | 2 => .object "RuleCompletion$Term"
  | 3 => .array .int
  | 4 => .array .int
  | _ => .array .boolean
def ai_T10 : u_T := fun k => match k with
  | 0 => ("RuleCompletion$Overlap", "symbols", "LRuleCompletion$Symbols;", true)
  | 1 => ("RuleCompletion$Overlap", "letters", "[C", true)
  | 2 => ("RuleCompletion$Overlap", "ends", "[I", true)
  | 3 => ("RuleCompletion$Overlap", "nodes", "[I", true)
  | 4 => ("RuleCompletion$Overlap", "parents", "[I", true)
  | 5 => ("RuleCompletion$Overlap", "settled", "[Z", true)
  | 6 => ("RuleCompletion$Overlap", "stack", "[I", true)
  | 7 => ("RuleCompletion$Overlap", "depth", "I", false)
  | 8 => ("RuleCompletion$Overlap", "upperLeftEnd", "I", false)
  | 9 => ("RuleCompletion$Overlap", "upperRightEnd", "I", false)
  | 10 => ("RuleCompletion$Overlap", "lowerLeftEnd", "I", false)
  | _ => ("RuleCompletion$Overlap", "lowerRightEnd", "I", false)
def ai_ty10 : Nat → FieldType := fun k => match k with
  | 0 => .object "RuleCompletion$Symbols"
  | 1 => .array .char
  | 2 => .array .int
  | 3 => .array .int
  | 4 => .array .int
  | 5 => .array .boolean
  | 6 => .array .int
  | 7 => .int
  | 8 => .int
  | 9 => .int
  | 10 => .int
  | _ => .int
def ai_T11 : u_T := fun k => match k with
  | 0 => ("RuleCompletionModel", "thrown", "I", false)
  | 1 => ("RuleCompletionModel", "places", "[I", true)
  | 2 => ("RuleCompletionModel", "ranks", "[I", true)
  | 3 => ("RuleCompletionModel", "declared", "I", false)
  | 4 => ("RuleCompletionModel", "draftSize", "I", false)
  | 5 => ("RuleCompletionModel", "letters", "[I", true)
  | 6 => ("RuleCompletionModel", "ruleCount", "I", false)
  | 7 => ("RuleCompletionModel", "rules", "[I", true)
  | 8 => ("RuleCompletionModel", "ruleLeft", "[I", true)
  | 9 => ("RuleCompletionModel", "ruleRight", "[I", true)
  | 10 => ("RuleCompletionModel", "waits", "I", false)
  | 11 => ("RuleCompletionModel", "kept", "I", false)
  | 12 => ("RuleCompletionModel", "pairs", "[I", true)
  | 13 => ("RuleCompletionModel", "pairLeft", "[I", true)
  | 14 => ("RuleCompletionModel", "pairRight", "[I", true)
  | 15 => ("RuleCompletionModel", "state", "I", false)
  | 16 => ("RuleCompletionModel", "stepCount", "I", false)
  | 17 => ("RuleCompletionModel", "term", "[I", true)
  | 18 => ("RuleCompletionModel", "size", "[I", true)
  | 19 => ("RuleCompletionModel", "from", "[I", true)
  | 20 => ("RuleCompletionModel", "to", "[I", true)
  | 21 => ("RuleCompletionModel", "common", "[I", true)
  | 22 => ("RuleCompletionModel", "leads", "[I", true)
  | 23 => ("RuleCompletionModel", "ones", "[I", true)
  | 24 => ("RuleCompletionModel", "others", "[I", true)
  | 25 => ("RuleCompletionModel", "names", "[I", true)
  | _ => ("RuleCompletionModel", "above", "[Z", true)
def ai_ty11 : Nat → FieldType := fun k => match k with
  | 0 => .int
  | 1 => .array .int
  | 2 => .array .int
  | 3 => .int
  | 4 => .int
  | 5 => .array .int
  | 6 => .int
  | 7 => .array .int
  | 8 => .array .int
  | 9 => .array .int
  | 10 => .int
  | 11 => .int
  | 12 => .array .int
  | 13 => .array .int
  | 14 => .array .int
  | 15 => .int
  | 16 => .int
  | 17 => .array .int
  | 18 => .array .int
  | 19 => .array .int
  | 20 => .array .int
  | 21 => .array .int
  | 22 => .array .int
  | 23 => .array .int
  | 24 => .array .int
  | 25 => .array .int
  | _ => .array .boolean
def ai_cl : List vw_C := [("RuleCompletion", ai_T0, 4), ("RuleCompletion$Symbols", ai_T1, 3), ("RuleCompletion$Draft", ai_T2, 2), ("RuleCompletion$Pair", ai_T3, 2), ("RuleCompletion$Term", ai_T4, 2), ("RuleCompletion$Engine", ai_T5, 12), ("RuleCompletion$PairList", ai_T6, 2), ("RuleCompletion$Renaming", ai_T7, 2), ("RuleCompletion$Rewriter", ai_T8, 6), ("RuleCompletion$PathOrder", ai_T9, 6), ("RuleCompletion$Overlap", ai_T10, 12), ("RuleCompletionModel", ai_T11, 27)]
def ai_ty (c : Nat) : Nat → FieldType := match c with
  | 0 => ai_ty0
  | 1 => ai_ty1
  | 2 => ai_ty2
  | 3 => ai_ty3
  | 4 => ai_ty4
  | 5 => ai_ty5
  | 6 => ai_ty6
  | 7 => ai_ty7
  | 8 => ai_ty8
  | 9 => ai_ty9
  | 10 => ai_ty10
  | 11 => ai_ty11
  | _ => fun _ => .int
def ai_i0 : List (Nat × Instr × Nat) := [(0, .aload_n 0, 1), (1, .invokespecial 3, 3), (4, .new 9, 3), (7, .dup, 1), (8, .invokespecial 11, 3), (11, .astore_n 1, 1), (12, .aload_n 0, 1), (13, .aload_n 1, 1), (14, .putfield 12, 3), (17, .aload_n 0, 1), (18, .new 16, 3), (21, .dup, 1), (22, .invokespecial 18, 3), (25, .putfield 19, 3), (28, .aload_n 0, 1), (29, .new 23, 3), (32, .dup, 1), (33, .invokespecial 25, 3), (36, .putfield 26, 3), (39, .aload_n 0, 1), (40, .new 30, 3), (43, .dup, 1), (44, .aload_n 1, 1), (45, .new 32, 3), (48, .dup, 1), (49, .bipush 14, 2), (51, .invokespecial 34, 3), (54, .invokespecial 37, 3), (57, .putfield 40, 3), (60, .return_, 1)]
/-- RuleCompletion.<init>()V -/
def ai_m0 : ai_M := (0, ⟨"RuleCompletion", "<init>", "()V"⟩, prog_1_method_1_code, 2, none, ai_i0, [], [], 5, 104)
def ai_i1 : List (Nat × Instr × Nat) := [(0, .aload_n 0, 1), (1, .getfield 19, 3), (4, .lload_n 1, 1), (5, .invokevirtual 64, 3), (8, .ireturn, 1)]
/-- RuleCompletion.write(J)Z -/
def ai_m1 : ai_M := (0, ⟨"RuleCompletion", "write", "(J)Z"⟩, prog_1_method_3_code, 3, (some .boolean), ai_i1, [], [], 2, 46)
def ai_i2 : List (Nat × Instr × Nat) := [(0, .aload_n 0, 1), (1, .getfield 19, 3), (4, .iconst 0, 1), (5, .putfield 68, 3), (8, .return_, 1)]
/-- RuleCompletion.wipe()V -/
def ai_m2 : ai_M := (0, ⟨"RuleCompletion", "wipe", "()V"⟩, prog_1_method_4_code, 1, none, ai_i2, [], [], 0, 0)
def ai_i3 : List (Nat × Instr × Nat) := [(0, .aload_n 0, 1), (1, .getfield 40, 3), (4, .getfield 106, 3), (7, .ireturn, 1)]
/-- RuleCompletion.steps()I -/
def ai_m3 : ai_M := (0, ⟨"RuleCompletion", "steps", "()I"⟩, prog_1_method_7_code, 1, (some .int), ai_i3, [], [], 0, 0)
def ai_i4 : List (Nat × Instr × Nat) := [(0, .aload_n 0, 1), (1, .getfield 40, 3), (4, .getfield 109, 3), (7, .getfield 95, 3), (10, .ireturn, 1)]
/-- RuleCompletion.rules()I -/
def ai_m4 : ai_M := (0, ⟨"RuleCompletion", "rules", "()I"⟩, prog_1_method_8_code, 1, (some .int), ai_i4, [], [], 0, 0)
def ai_i5 : List (Nat × Instr × Nat) := [(0, .aload_n 0, 1), (1, .getfield 40, 3), (4, .getfield 81, 3), (7, .getfield 95, 3), (10, .ireturn, 1)]
/-- RuleCompletion.waiting()I -/
def ai_m5 : ai_M := (0, ⟨"RuleCompletion", "waiting", "()I"⟩, prog_1_method_9_code, 1, (some .int), ai_i5, [], [], 0, 0)
def ai_i6 : List (Nat × Instr × Nat) := [(0, .aload_n 0, 1), (1, .getfield 40, 3), (4, .getfield 109, 3), (7, .iload_n 1, 1), (8, .iload_n 2, 1), (9, .bipush 62, 2), (11, .invokevirtual 112, 3), (14, .ireturn, 1)]
/-- RuleCompletion.rule(II)C -/
def ai_m6 : ai_M := (0, ⟨"RuleCompletion", "rule", "(II)C"⟩, prog_1_method_10_code, 3, (some .char), ai_i6, [], [], 3, 65)
def ai_i7 : List (Nat × Instr × Nat) := [(0, .aload_n 0, 1), (1, .getfield 40, 3), (4, .getfield 81, 3), (7, .iload_n 1, 1), (8, .iload_n 2, 1), (9, .bipush 61, 2), (11, .invokevirtual 112, 3), (14, .ireturn, 1)]
/-- RuleCompletion.equationAt(II)C -/
def ai_m7 : ai_M := (0, ⟨"RuleCompletion", "equationAt", "(II)C"⟩, prog_1_method_11_code, 3, (some .char), ai_i7, [], [], 3, 65)
def ai_i8 : List (Nat × Instr × Nat) := [(0, .iload_n 1, 1), (1, .ifCond .lt 26, 3), (4, .iload_n 1, 1), (5, .aload_n 0, 1), (6, .getfield 19, 3), (9, .getfield 68, 3), (12, .if_icmp .ge 15, 3), (15, .aload_n 0, 1), (16, .getfield 19, 3), (19, .getfield 158, 3), (22, .iload_n 1, 1), (23, .caload, 1), (24, .goto 4, 3), (27, .iconst 0, 1), (28, .ireturn, 1)]
/-- RuleCompletion.draft(I)C -/
def ai_m8 : ai_M := (0, ⟨"RuleCompletion", "draft", "(I)C"⟩, prog_1_method_14_code, 2, (some .char), ai_i8, [], [], 0, 0)
def ai_i9 : List (Nat × Instr × Nat) := [(0, .aload_n 0, 1), (1, .getfield 40, 3), (4, .invokevirtual 162, 3), (7, .return_, 1)]
/-- RuleCompletion.clear()V -/
def ai_m9 : ai_M := (0, ⟨"RuleCompletion", "clear", "()V"⟩, prog_1_method_15_code, 1, none, ai_i9, [], [], 1, 20)
def ai_i10 : List (Nat × Instr × Nat) := [(0, .iload_n 1, 1), (1, .bipush 97, 2), (3, .if_icmp .lt 18, 3), (6, .iload_n 1, 1), (7, .bipush 104, 2), (9, .if_icmp .gt 12, 3), (12, .iload_n 2, 1), (13, .ifCond .lt 8, 3), (16, .iload_n 2, 1), (17, .iconst 2, 1), (18, .if_icmp .le 13, 3), (21, .new 44, 3), (24, .dup, 1), (25, .ldc 46, 2), (27, .invokespecial 48, 3), (30, .athrow, 1), (31, .aload_n 0, 1), (32, .getfield 12, 3), (35, .iload_n 1, 1), (36, .invokevirtual 51, 3), (39, .ifCond .eq 13, 3), (42, .new 55, 3), (45, .dup, 1), (46, .ldc 57, 2), (48, .invokespecial 59, 3), (51, .athrow, 1), (52, .aload_n 0, 1), (53, .getfield 12, 3), (56, .iload_n 1, 1), (57, .iload_n 2, 1), (58, .invokevirtual 60, 3), (61, .return_, 1)]
/-- RuleCompletion.declare(CI)V -/
def ai_m10 : ai_M := (0, ⟨"RuleCompletion", "declare", "(CI)V"⟩, prog_1_method_2_code, 3, none, ai_i10, [], [(21, "java/lang/IllegalArgumentException", 44, 46, 48, "a symbol is one of a .. h and has 0 .. 2 places"), (42, "java/lang/IllegalStateException", 55, 57, 59, "the symbol is declared already")], 6, 90)
def ai_i11 : List (Nat × Instr × Nat) := [(0, .aload_n 0, 1), (1, .getfield 19, 3), (4, .aload_n 0, 1), (5, .getfield 12, 3), (8, .aload_n 0, 1), (9, .getfield 26, 3), (12, .invokevirtual 72, 3), (15, .ifCond .ne 13, 3), (18, .new 44, 3), (21, .dup, 1), (22, .ldc 76, 2), (24, .invokespecial 48, 3), (27, .athrow, 1), (28, .aload_n 0, 1), (29, .getfield 40, 3), (32, .getfield 78, 3), (35, .ifCond .ne 16, 3), (38, .aload_n 0, 1), (39, .getfield 40, 3), (42, .getfield 81, 3), (45, .invokevirtual 85, 3), (48, .ifCond .eq 13, 3), (51, .new 55, 3), (54, .dup, 1), (55, .ldc 89, 2), (57, .invokespecial 59, 3), (60, .athrow, 1), (61, .aload_n 0, 1), (62, .getfield 40, 3), (65, .aload_n 0, 1), (66, .getfield 26, 3), (69, .invokevirtual 91, 3), (72, .aload_n 0, 1), (73, .getfield 40, 3), (76, .getfield 81, 3), (79, .getfield 95, 3), (82, .ireturn, 1)]
/-- RuleCompletion.equation()I -/
def ai_m11 : ai_M := (0, ⟨"RuleCompletion", "equation", "()I"⟩, prog_1_method_5_code, 1, (some .int), ai_i11, [], [(18, "java/lang/IllegalArgumentException", 44, 76, 48, "the draft is not two terms with = between them"), (51, "java/lang/IllegalStateException", 55, 89, 59, "no equation can come any more")], 6, 152)
def ai_i12 : List (Nat × Instr × Nat) := [(0, .iload_n 0, 1), (1, .bipush 117, 2), (3, .if_icmp .lt 7, 3), (6, .iconst 1, 1), (7, .goto 4, 3), (10, .iconst 0, 1), (11, .ireturn, 1)]
/-- RuleCompletion.isVariable(C)Z -/
def ai_m12 : ai_M := (0, ⟨"RuleCompletion", "isVariable", "(C)Z"⟩, prog_1_method_16_code, 1, (some .boolean), ai_i12, [], [], 0, 0)
def ai_i13 : List (Nat × Instr × Nat) := [(0, .iload_n 1, 1), (1, .ifCond .lt 9, 3), (4, .iload_n 1, 1), (5, .bipush 20, 2), (7, .if_icmp .le 13, 3), (10, .new 44, 3), (13, .dup, 1), (14, .ldc 98, 2), (16, .invokespecial 48, 3), (19, .athrow, 1), (20, .iconst 0, 1), (21, .istore_n 2, 1), (22, .iload_n 2, 1), (23, .iload_n 1, 1), (24, .if_icmp .ge 26, 3), (27, .aload_n 0, 1), (28, .getfield 40, 3), (31, .invokevirtual 100, 3), (34, .ifCond .eq 16, 3), (37, .aload_n 0, 1), (38, .getfield 40, 3), (41, .invokevirtual 103, 3), (44, .iinc 2 1, 3), (47, .goto (-25), 3), (50, .aload_n 0, 1), (51, .getfield 40, 3), (54, .getfield 78, 3), (57, .ifCond .eq 11, 3), (60, .aload_n 0, 1), (61, .getfield 40, 3), (64, .getfield 78, 3), (67, .ireturn, 1), (68, .aload_n 0, 1), (69, .getfield 40, 3), (72, .getfield 81, 3), (75, .getfield 95, 3), (78, .ifCond .le 7, 3), (81, .iconst 0, 1), (82, .goto 4, 3), (85, .iconst 1, 1), (86, .ireturn, 1)]
/-- RuleCompletion.complete(I)I -/
def ai_m13 : ai_M := (0, ⟨"RuleCompletion", "complete", "(I)I"⟩, prog_1_method_6_code, 3, (some .int), ai_i13, [], [(10, "java/lang/IllegalArgumentException", 44, 98, 48, "the number of steps is not 0 .. 20")], 7, 204)
def ai_i14 : List (Nat × Instr × Nat) := [(0, .aload_n 0, 1), (1, .getfield 26, 3), (4, .getfield 116, 3), (7, .astore_n 1, 1), (8, .aload_n 0, 1), (9, .getfield 19, 3), (12, .aload_n 0, 1), (13, .getfield 12, 3), (16, .iconst 0, 1), (17, .aload_n 0, 1), (18, .getfield 19, 3), (21, .getfield 68, 3), (24, .aload_n 1, 1), (25, .invokevirtual 120, 3), (28, .ifCond .ne 13, 3), (31, .new 44, 3), (34, .dup, 1), (35, .ldc 124, 2), (37, .invokespecial 48, 3), (40, .athrow, 1), (41, .aload_n 0, 1), (42, .getfield 40, 3), (45, .getfield 126, 3), (48, .aload_n 1, 1), (49, .invokevirtual 130, 3), (52, .istore_n 2, 1), (53, .iload_n 2, 1), (54, .iconst (-1), 1), (55, .if_icmp .ne 13, 3), (58, .new 136, 3), (61, .dup, 1), (62, .ldc 138, 2), (64, .invokespecial 140, 3), (67, .athrow, 1), (68, .aload_n 0, 1), (69, .getfield 19, 3), (72, .aload_n 1, 1), (73, .invokevirtual 141, 3), (76, .iload_n 2, 1), (77, .ireturn, 1)]
/-- RuleCompletion.normalize()I -/
def ai_m14 : ai_M := (0, ⟨"RuleCompletion", "normalize", "()I"⟩, prog_1_method_12_code, 3, (some .int), ai_i14, [], [(31, "java/lang/IllegalArgumentException", 44, 124, 48, "the draft is not a term"), (58, "java/lang/UnsupportedOperationException", 136, 138, 140, "the term is out of bounds")], 6, 137)
def ai_i15 : List (Nat × Instr × Nat) := [(0, .aload_n 0, 1), (1, .getfield 19, 3), (4, .aload_n 0, 1), (5, .getfield 12, 3), (8, .aload_n 0, 1), (9, .getfield 26, 3), (12, .invokevirtual 72, 3), (15, .ifCond .ne 13, 3), (18, .new 44, 3), (21, .dup, 1), (22, .ldc 76, 2), (24, .invokespecial 48, 3), (27, .athrow, 1), (28, .aload_n 0, 1), (29, .getfield 40, 3), (32, .getfield 145, 3), (35, .aload_n 0, 1), (36, .getfield 26, 3), (39, .getfield 116, 3), (42, .aload_n 0, 1), (43, .getfield 26, 3), (46, .getfield 149, 3), (49, .invokevirtual 152, 3), (52, .ireturn, 1)]
/-- RuleCompletion.compare()I -/
def ai_m15 : ai_M := (0, ⟨"RuleCompletion", "compare", "()I"⟩, prog_1_method_13_code, 1, (some .int), ai_i15, [], [(18, "java/lang/IllegalArgumentException", 44, 76, 48, "the draft is not two terms with = between them")], 6, 143)
def ai_i16 : List (Nat × Instr × Nat) := [(0, .aload_n 0, 1), (1, .invokespecial 3, 3), (4, .aload_n 0, 1), (5, .bipush 60, 2), (7, .newarray .char, 2), (9, .putfield 9, 3), (12, .aload_n 0, 1), (13, .iconst 0, 1), (14, .putfield 15, 3), (17, .return_, 1)]
/-- RuleCompletion$Draft.<init>()V -/
def ai_m16 : ai_M := (1, ⟨"RuleCompletion$Draft", "<init>", "()V"⟩, prog_2_method_1_code, 1, none, ai_i16, [], [], 1, 20)
def ai_i17 : List (Nat × Instr × Nat) := [(0, .iconst 0, 1), (1, .istore_n 3, 1), (2, .iconst 0, 1), (3, .istore 4, 2), (5, .iload 4, 2), (7, .bipush 64, 2), (9, .if_icmp .ge 26, 3), (12, .iload_n 3, 1), (13, .lload_n 1, 1), (14, .iload 4, 2), (16, .invokestatic 19, 3), (19, .ifCond .eq 7, 3), (22, .iconst 1, 1), (23, .goto 4, 3), (26, .iconst 0, 1), (27, .iadd, 1), (28, .istore_n 3, 1), (29, .iinc 4 8, 3), (32, .goto (-27), 3), (35, .aload_n 0, 1), (36, .getfield 15, 3), (39, .iload_n 3, 1), (40, .iadd, 1), (41, .bipush 60, 2), (43, .if_icmp .le 5, 3), (46, .iconst 0, 1), (47, .ireturn, 1), (48, .iconst 0, 1), (49, .istore 4, 2), (51, .iload 4, 2), (53, .bipush 64, 2), (55, .if_icmp .ge 43, 3), (58, .lload_n 1, 1), (59, .iload 4, 2), (61, .invokestatic 19, 3), (64, .ifCond .eq 28, 3), (67, .aload_n 0, 1), (68, .getfield 9, 3), (71, .aload_n 0, 1), (72, .getfield 15, 3), (75, .lload_n 1, 1), (76, .iload 4, 2), (78, .invokestatic 19, 3), (81, .castore, 1), (82, .aload_n 0, 1), (83, .dup, 1), (84, .getfield 15, 3), (87, .iconst 1, 1), (88, .iadd, 1), (89, .putfield 15, 3), (92, .iinc 4 8, 3), (95, .goto (-44), 3), (98, .iconst 1, 1), (99, .ireturn, 1)]
/-- RuleCompletion$Draft.append(J)Z -/
def ai_m17 : ai_M := (1, ⟨"RuleCompletion$Draft", "append", "(J)Z"⟩, prog_2_method_2_code, 5, (some .boolean), ai_i17, [], [], 1, 22)
def ai_i18 : List (Nat × Instr × Nat) := [(0, .lload_n 0, 1), (1, .iload_n 2, 1), (2, .lushr, 1), (3, .ldc2_w 23, 3), (6, .land, 1), (7, .l2i, 1), (8, .i2c, 1), (9, .ireturn, 1)]
/-- RuleCompletion$Draft.byteAt(JI)C -/
def ai_m18 : ai_M := (1, ⟨"RuleCompletion$Draft", "byteAt", "(JI)C"⟩, prog_2_method_3_code, 3, (some .char), ai_i18, [], [], 0, 0)
def ai_i19 : List (Nat × Instr × Nat) := [(0, .iconst 0, 1), (1, .istore_n 3, 1), (2, .iload_n 3, 1), (3, .aload_n 0, 1), (4, .getfield 15, 3), (7, .if_icmp .ge 20, 3), (10, .aload_n 0, 1), (11, .getfield 9, 3), (14, .iload_n 3, 1), (15, .caload, 1), (16, .bipush 61, 2), (18, .if_icmp .eq 9, 3), (21, .iinc 3 1, 3), (24, .goto (-22), 3), (27, .aload_n 0, 1), (28, .aload_n 1, 1), (29, .iconst 0, 1), (30, .iload_n 3, 1), (31, .aload_n 2, 1), (32, .getfield 33, 3), (35, .invokevirtual 39, 3), (38, .ifCond .eq 26, 3), (41, .aload_n 0, 1), (42, .aload_n 1, 1), (43, .iload_n 3, 1), (44, .iconst 1, 1), (45, .iadd, 1), (46, .aload_n 0, 1), (47, .getfield 15, 3), (50, .aload_n 2, 1), (51, .getfield 43, 3), (54, .invokevirtual 39, 3), (57, .ifCond .eq 7, 3), (60, .iconst 1, 1), (61, .goto 4, 3), (64, .iconst 0, 1), (65, .ireturn, 1)]
/-- RuleCompletion$Draft.readPair(LRuleCompletion$Symbols;LRuleCompletion$Pair;)Z -/
def ai_m19 : ai_M := (1, ⟨"RuleCompletion$Draft", "readPair", "(LRuleCompletion$Symbols;LRuleCompletion$Pair;)Z"⟩, prog_2_method_5_code, 4, (some .boolean), ai_i19, [], [], 3, 70)
def ai_i20 : List (Nat × Instr × Nat) := [(0, .aload 4, 2), (2, .iconst 0, 1), (3, .putfield 25, 3), (6, .iconst 1, 1), (7, .istore 5, 2), (9, .iload_n 2, 1), (10, .istore 6, 2), (12, .iload 6, 2), (14, .iload_n 3, 1), (15, .if_icmp .ge 81, 3), (18, .aload_n 0, 1), (19, .getfield 9, 3), (22, .iload 6, 2), (24, .caload, 1), (25, .istore 7, 2), (27, .aload_n 1, 1), (28, .iload 7, 2), (30, .invokevirtual 46, 3), (33, .ifCond .ne 18, 3), (36, .iload 7, 2), (38, .invokestatic 52, 3), (41, .ifCond .eq 14, 3), (44, .iload 7, 2), (46, .bipush 122, 2), (48, .if_icmp .gt 7, 3), (51, .iconst 1, 1), (52, .goto 4, 3), (55, .iconst 0, 1), (56, .istore 8, 2), (58, .iload 8, 2), (60, .ifCond .eq 8, 3), (63, .iload 5, 2), (65, .ifCond .ne 5, 3), (68, .iconst 0, 1), (69, .ireturn, 1), (70, .iload 5, 2), (72, .aload_n 1, 1), (73, .iload 7, 2), (75, .invokevirtual 55, 3), (78, .iconst 1, 1), (79, .isub, 1), (80, .iadd, 1), (81, .istore 5, 2), (83, .aload 4, 2), (85, .iload 7, 2), (87, .invokevirtual 59, 3), (90, .iinc 6 1, 3), (93, .goto (-81), 3), (96, .iload 5, 2), (98, .ifCond .ne 15, 3), (101, .aload 4, 2), (103, .invokevirtual 63, 3), (106, .ifCond .ne 7, 3), (109, .iconst 1, 1), (110, .goto 4, 3), (113, .iconst 0, 1), (114, .ireturn, 1)]
/-- RuleCompletion$Draft.readTerm(LRuleCompletion$Symbols;IILRuleCompletion$Term;)Z -/
def ai_m20 : ai_M := (1, ⟨"RuleCompletion$Draft", "readTerm", "(LRuleCompletion$Symbols;IILRuleCompletion$Term;)Z"⟩, prog_2_method_6_code, 9, (some .boolean), ai_i20, [], [], 2, 42)
def ai_i21 : List (Nat × Instr × Nat) := [(0, .iconst 0, 1), (1, .istore_n 2, 1), (2, .iload_n 2, 1), (3, .aload_n 1, 1), (4, .getfield 25, 3), (7, .if_icmp .ge 27, 3), (10, .iload_n 2, 1), (11, .bipush 24, 2), (13, .if_icmp .ge 21, 3), (16, .aload_n 0, 1), (17, .getfield 9, 3), (20, .iload_n 2, 1), (21, .aload_n 1, 1), (22, .getfield 30, 3), (25, .iload_n 2, 1), (26, .caload, 1), (27, .castore, 1), (28, .iinc 2 1, 3), (31, .goto (-29), 3), (34, .aload_n 0, 1), (35, .aload_n 1, 1), (36, .getfield 25, 3), (39, .putfield 15, 3), (42, .return_, 1)]
/-- RuleCompletion$Draft.become(LRuleCompletion$Term;)V -/
def ai_m21 : ai_M := (1, ⟨"RuleCompletion$Draft", "become", "(LRuleCompletion$Term;)V"⟩, prog_2_method_4_code, 3, none, ai_i21, [], [], 0, 0)
def ai_i22 : List (Nat × Instr × Nat) := [(0, .aload_n 0, 1), (1, .invokespecial 3, 3), (4, .aload_n 0, 1), (5, .new 9, 3), (8, .dup, 1), (9, .bipush 48, 2), (11, .invokespecial 11, 3), (14, .putfield 14, 3), (17, .aload_n 0, 1), (18, .new 9, 3), (21, .dup, 1), (22, .bipush 14, 2), (24, .invokespecial 11, 3), (27, .putfield 20, 3), (30, .aload_n 0, 1), (31, .new 23, 3), (34, .dup, 1), (35, .invokespecial 25, 3), (38, .putfield 26, 3), (41, .aload_n 0, 1), (42, .new 30, 3), (45, .dup, 1), (46, .invokespecial 32, 3), (49, .putfield 33, 3), (52, .aload_n 0, 1), (53, .new 30, 3), (56, .dup, 1), (57, .invokespecial 32, 3), (60, .putfield 37, 3), (63, .aload_n 0, 1), (64, .new 40, 3), (67, .dup, 1), (68, .invokespecial 42, 3), (71, .putfield 43, 3), (74, .aload_n 0, 1), (75, .iconst 0, 1), (76, .putfield 47, 3), (79, .aload_n 0, 1), (80, .iconst 0, 1), (81, .putfield 51, 3), (84, .aload_n 0, 1), (85, .aload_n 2, 1), (86, .putfield 54, 3), (89, .aload_n 0, 1), (90, .new 57, 3), (93, .dup, 1), (94, .aload_n 1, 1), (95, .aload_n 2, 1), (96, .invokespecial 59, 3), (99, .putfield 62, 3), (102, .aload_n 0, 1), (103, .new 66, 3), (106, .dup, 1), (107, .aload_n 1, 1), (108, .invokespecial 68, 3), (111, .putfield 71, 3), (114, .aload_n 0, 1), (115, .new 75, 3), (118, .dup, 1), (119, .aload_n 1, 1), (120, .invokespecial 77, 3), (123, .putfield 78, 3), (126, .return_, 1)]
/-- RuleCompletion$Engine.<init>(LRuleCompletion$Symbols;LRuleCompletion$PairList;)V -/
def ai_m22 : ai_M := (2, ⟨"RuleCompletion$Engine", "<init>", "(LRuleCompletion$Symbols;LRuleCompletion$PairList;)V"⟩, prog_3_method_1_code, 3, none, ai_i22, [], [], 4, 82)
def ai_i23 : List (Nat × Instr × Nat) := [(0, .aload_n 0, 1), (1, .getfield 54, 3), (4, .iconst 0, 1), (5, .putfield 82, 3), (8, .aload_n 0, 1), (9, .getfield 14, 3), (12, .iconst 0, 1), (13, .putfield 82, 3), (16, .aload_n 0, 1), (17, .iconst 0, 1), (18, .putfield 47, 3), (21, .aload_n 0, 1), (22, .iconst 0, 1), (23, .putfield 51, 3), (26, .return_, 1)]
/-- RuleCompletion$Engine.forget()V -/
def ai_m23 : ai_M := (2, ⟨"RuleCompletion$Engine", "forget", "()V"⟩, prog_3_method_2_code, 1, none, ai_i23, [], [], 0, 0)
def ai_i24 : List (Nat × Instr × Nat) := [(0, .aload_n 0, 1), (1, .getfield 26, 3), (4, .aload_n 1, 1), (5, .invokevirtual 85, 3), (8, .pop, 1), (9, .aload_n 0, 1), (10, .getfield 14, 3), (13, .aload_n 1, 1), (14, .invokevirtual 89, 3), (17, .return_, 1)]
/-- RuleCompletion$Engine.accept(LRuleCompletion$Pair;)V -/
def ai_m24 : ai_M := (2, ⟨"RuleCompletion$Engine", "accept", "(LRuleCompletion$Pair;)V"⟩, prog_3_method_3_code, 2, none, ai_i24, [], [], 4, 131)
def ai_i25 : List (Nat × Instr × Nat) := [(0, .aload_n 0, 1), (1, .getfield 47, 3), (4, .ifCond .ne 17, 3), (7, .aload_n 0, 1), (8, .getfield 14, 3), (11, .getfield 82, 3), (14, .ifCond .le 7, 3), (17, .iconst 1, 1), (18, .goto 4, 3), (21, .iconst 0, 1), (22, .ireturn, 1)]
/-- RuleCompletion$Engine.canStep()Z -/
def ai_m25 : ai_M := (2, ⟨"RuleCompletion$Engine", "canStep", "()Z"⟩, prog_3_method_4_code, 1, (some .boolean), ai_i25, [], [], 0, 0)
def ai_i26 : List (Nat × Instr × Nat) := [(0, .aload_n 0, 1), (1, .dup, 1), (2, .getfield 51, 3), (5, .iconst 1, 1), (6, .iadd, 1), (7, .putfield 51, 3), (10, .aload_n 0, 1), (11, .getfield 14, 3), (14, .invokevirtual 93, 3), (17, .istore_n 1, 1), (18, .aload_n 0, 1), (19, .getfield 33, 3), (22, .aload_n 0, 1), (23, .getfield 14, 3), (26, .getfield 97, 3), (29, .iload_n 1, 1), (30, .aaload, 1), (31, .invokevirtual 101, 3), (34, .aload_n 0, 1), (35, .getfield 14, 3), (38, .iload_n 1, 1), (39, .invokevirtual 104, 3), (42, .aload_n 0, 1), (43, .getfield 62, 3), (46, .aload_n 0, 1), (47, .getfield 33, 3), (50, .getfield 107, 3), (53, .invokevirtual 110, 3), (56, .iconst (-1), 1), (57, .if_icmp .eq 21, 3), (60, .aload_n 0, 1), (61, .getfield 62, 3), (64, .aload_n 0, 1), (65, .getfield 33, 3), (68, .getfield 114, 3), (71, .invokevirtual 110, 3), (74, .iconst (-1), 1), (75, .if_icmp .ne 9, 3), (78, .aload_n 0, 1), (79, .iconst 3, 1), (80, .putfield 47, 3), (83, .return_, 1), (84, .aload_n 0, 1), (85, .getfield 71, 3), (88, .aload_n 0, 1), (89, .getfield 33, 3), (92, .getfield 107, 3), (95, .aload_n 0, 1), (96, .getfield 33, 3), (99, .getfield 114, 3), (102, .invokevirtual 117, 3), (105, .istore_n 2, 1), (106, .iload_n 2, 1), (107, .ifCond .ne 4, 3), (110, .return_, 1), (111, .iload_n 2, 1), (112, .iconst 2, 1), (113, .if_icmp .ne 9, 3), (116, .aload_n 0, 1), (117, .iconst 2, 1), (118, .putfield 47, 3), (121, .return_, 1), (122, .aload_n 0, 1), (123, .getfield 54, 3), (126, .invokevirtual 121, 3), (129, .ifCond .eq 9, 3), (132, .aload_n 0, 1), (133, .iconst 3, 1), (134, .putfield 47, 3), (137, .return_, 1), (138, .aload_n 0, 1), (139, .iload_n 2, 1), (140, .invokevirtual 125, 3), (143, .aload_n 0, 1), (144, .invokevirtual 128, 3), (147, .ifCond .eq 17, 3), (150, .aload_n 0, 1), (151, .invokevirtual 131, 3), (154, .ifCond .eq 10, 3), (157, .aload_n 0, 1), (158, .invokevirtual 134, 3), (161, .ifCond .ne 8, 3), (164, .aload_n 0, 1), (165, .iconst 3, 1), (166, .putfield 47, 3), (169, .return_, 1)]
/-- RuleCompletion$Engine.step()V -/
def ai_m26 : ai_M := (2, ⟨"RuleCompletion$Engine", "step", "()V"⟩, prog_3_method_5_code, 3, none, ai_i26, [], [], 6, 182)
def ai_i27 : List (Nat × Instr × Nat) := [(0, .iload_n 1, 1), (1, .iconst 1, 1), (2, .if_icmp .ne 17, 3), (5, .aload_n 0, 1), (6, .getfield 37, 3), (9, .aload_n 0, 1), (10, .getfield 33, 3), (13, .invokevirtual 101, 3), (16, .goto 14, 3), (19, .aload_n 0, 1), (20, .getfield 37, 3), (23, .aload_n 0, 1), (24, .getfield 33, 3), (27, .invokevirtual 137, 3), (30, .aload_n 0, 1), (31, .getfield 26, 3), (34, .aload_n 0, 1), (35, .getfield 37, 3), (38, .invokevirtual 85, 3), (41, .pop, 1), (42, .aload_n 0, 1), (43, .getfield 20, 3), (46, .iconst 0, 1), (47, .putfield 82, 3), (50, .iconst 0, 1), (51, .istore_n 2, 1), (52, .aload_n 0, 1), (53, .getfield 54, 3), (56, .getfield 82, 3), (59, .istore_n 3, 1), (60, .iload_n 3, 1), (61, .ifCond .le 68, 3), (64, .aload_n 0, 1), (65, .getfield 62, 3), (68, .aload_n 0, 1), (69, .getfield 54, 3), (72, .getfield 97, 3), (75, .iload_n 2, 1), (76, .aaload, 1), (77, .getfield 107, 3), (80, .aload_n 0, 1), (81, .getfield 37, 3), (84, .getfield 107, 3), (87, .invokevirtual 140, 3), (90, .ifCond .eq 30, 3), (93, .aload_n 0, 1), (94, .getfield 20, 3), (97, .aload_n 0, 1), (98, .getfield 54, 3), (101, .getfield 97, 3), (104, .iload_n 2, 1), (105, .aaload, 1), (106, .invokevirtual 89, 3), (109, .aload_n 0, 1), (110, .getfield 54, 3), (113, .iload_n 2, 1), (114, .invokevirtual 104, 3), (117, .goto 6, 3), (120, .iinc 2 1, 3), (123, .iinc 3 (-1), 3), (126, .goto (-66), 3), (129, .aload_n 0, 1), (130, .getfield 54, 3), (133, .aload_n 0, 1), (134, .getfield 37, 3), (137, .invokevirtual 89, 3), (140, .return_, 1)]
/-- RuleCompletion$Engine.enterRule(I)V -/
def ai_m27 : ai_M := (2, ⟨"RuleCompletion$Engine", "enterRule", "(I)V"⟩, prog_3_method_6_code, 4, none, ai_i27, [], [], 4, 131)
def ai_i28 : List (Nat × Instr × Nat) := [(0, .iconst 0, 1), (1, .istore_n 1, 1), (2, .iload_n 1, 1), (3, .aload_n 0, 1), (4, .getfield 54, 3), (7, .getfield 82, 3), (10, .iconst 1, 1), (11, .isub, 1), (12, .if_icmp .ge 64, 3), (15, .aload_n 0, 1), (16, .getfield 43, 3), (19, .aload_n 0, 1), (20, .getfield 54, 3), (23, .getfield 97, 3), (26, .iload_n 1, 1), (27, .aaload, 1), (28, .getfield 114, 3), (31, .invokevirtual 144, 3), (34, .aload_n 0, 1), (35, .getfield 62, 3), (38, .aload_n 0, 1), (39, .getfield 43, 3), (42, .invokevirtual 110, 3), (45, .iconst (-1), 1), (46, .if_icmp .ne 5, 3), (49, .iconst 0, 1), (50, .ireturn, 1), (51, .aload_n 0, 1), (52, .getfield 54, 3), (55, .getfield 97, 3), (58, .iload_n 1, 1), (59, .aaload, 1), (60, .getfield 114, 3), (63, .aload_n 0, 1), (64, .getfield 43, 3), (67, .invokevirtual 144, 3), (70, .iinc 1 1, 3), (73, .goto (-71), 3), (76, .iconst 1, 1), (77, .ireturn, 1)]
/-- RuleCompletion$Engine.settleRightSides()Z -/
def ai_m28 : ai_M := (2, ⟨"RuleCompletion$Engine", "settleRightSides", "()Z"⟩, prog_3_method_7_code, 2, (some .boolean), ai_i28, [], [], 4, 137)
def ai_i29 : List (Nat × Instr × Nat) := [(0, .iconst 0, 1), (1, .istore_n 1, 1), (2, .iload_n 1, 1), (3, .aload_n 0, 1), (4, .getfield 20, 3), (7, .getfield 82, 3), (10, .if_icmp .ge 34, 3), (13, .aload_n 0, 1), (14, .getfield 33, 3), (17, .aload_n 0, 1), (18, .getfield 20, 3), (21, .getfield 97, 3), (24, .iload_n 1, 1), (25, .aaload, 1), (26, .invokevirtual 101, 3), (29, .aload_n 0, 1), (30, .invokevirtual 147, 3), (33, .ifCond .ne 5, 3), (36, .iconst 0, 1), (37, .ireturn, 1), (38, .iinc 1 1, 3), (41, .goto (-39), 3), (44, .iconst 1, 1), (45, .ireturn, 1)]
/-- RuleCompletion$Engine.addKept()Z -/
def ai_m29 : ai_M := (2, ⟨"RuleCompletion$Engine", "addKept", "()Z"⟩, prog_3_method_8_code, 2, (some .boolean), ai_i29, [], [], 5, 157)
def ai_i30 : List (Nat × Instr × Nat) := [(0, .aload_n 0, 1), (1, .getfield 62, 3), (4, .aload_n 0, 1), (5, .getfield 33, 3), (8, .getfield 107, 3), (11, .invokevirtual 110, 3), (14, .iconst (-1), 1), (15, .if_icmp .eq 21, 3), (18, .aload_n 0, 1), (19, .getfield 62, 3), (22, .aload_n 0, 1), (23, .getfield 33, 3), (26, .getfield 114, 3), (29, .invokevirtual 110, 3), (32, .iconst (-1), 1), (33, .if_icmp .ne 5, 3), (36, .iconst 0, 1), (37, .ireturn, 1), (38, .aload_n 0, 1), (39, .getfield 33, 3), (42, .getfield 107, 3), (45, .aload_n 0, 1), (46, .getfield 33, 3), (49, .getfield 114, 3), (52, .invokevirtual 158, 3), (55, .ifCond .eq 5, 3), (58, .iconst 1, 1), (59, .ireturn, 1), (60, .aload_n 0, 1), (61, .getfield 26, 3), (64, .aload_n 0, 1), (65, .getfield 33, 3), (68, .invokevirtual 85, 3), (71, .bipush 6, 2), (73, .if_icmp .le 5, 3), (76, .iconst 0, 1), (77, .ireturn, 1), (78, .aload_n 0, 1), (79, .getfield 37, 3), (82, .aload_n 0, 1), (83, .getfield 33, 3), (86, .invokevirtual 137, 3), (89, .aload_n 0, 1), (90, .getfield 26, 3), (93, .aload_n 0, 1), (94, .getfield 37, 3), (97, .invokevirtual 85, 3), (100, .pop, 1), (101, .aload_n 0, 1), (102, .getfield 14, 3), (105, .aload_n 0, 1), (106, .getfield 33, 3), (109, .invokevirtual 162, 3), (112, .ifCond .ne 17, 3), (115, .aload_n 0, 1), (116, .getfield 14, 3), (119, .aload_n 0, 1), (120, .getfield 37, 3), (123, .invokevirtual 162, 3), (126, .ifCond .eq 5, 3), (129, .iconst 1, 1), (130, .ireturn, 1), (131, .aload_n 0, 1), (132, .getfield 14, 3), (135, .invokevirtual 121, 3), (138, .ifCond .eq 5, 3), (141, .iconst 0, 1), (142, .ireturn, 1), (143, .aload_n 0, 1), (144, .getfield 14, 3), (147, .aload_n 0, 1), (148, .getfield 33, 3), (151, .invokevirtual 89, 3), (154, .iconst 1, 1), (155, .ireturn, 1)]
/-- RuleCompletion$Engine.addHand()Z -/
def ai_m30 : ai_M := (2, ⟨"RuleCompletion$Engine", "addHand", "()Z"⟩, prog_3_method_10_code, 1, (some .boolean), ai_i30, [], [], 4, 137)
def ai_i31 : List (Nat × Instr × Nat) := [(0, .aload_n 0, 1), (1, .getfield 54, 3), (4, .getfield 82, 3), (7, .iconst 1, 1), (8, .isub, 1), (9, .istore_n 1, 1), (10, .iconst 0, 1), (11, .istore_n 2, 1), (12, .iload_n 2, 1), (13, .iconst 2, 1), (14, .iload_n 1, 1), (15, .imul, 1), (16, .if_icmp .gt 115, 3), (19, .iload_n 2, 1), (20, .iconst 2, 1), (21, .irem, 1), (22, .ifCond .ne 7, 3), (25, .iload_n 1, 1), (26, .goto 6, 3), (29, .iload_n 2, 1), (30, .iconst 2, 1), (31, .idiv, 1), (32, .istore_n 3, 1), (33, .iload_n 2, 1), (34, .iconst 2, 1), (35, .irem, 1), (36, .ifCond .ne 9, 3), (39, .iload_n 2, 1), (40, .iconst 2, 1), (41, .idiv, 1), (42, .goto 4, 3), (45, .iload_n 1, 1), (46, .istore 4, 2), (48, .aload_n 0, 1), (49, .getfield 78, 3), (52, .aload_n 0, 1), (53, .getfield 54, 3), (56, .getfield 97, 3), (59, .iload_n 3, 1), (60, .aaload, 1), (61, .aload_n 0, 1), (62, .getfield 54, 3), (65, .getfield 97, 3), (68, .iload 4, 2), (70, .aaload, 1), (71, .invokevirtual 150, 3), (74, .iload_n 3, 1), (75, .iload 4, 2), (77, .if_icmp .ne 7, 3), (80, .iconst 1, 1), (81, .goto 4, 3), (84, .iconst 0, 1), (85, .istore 5, 2), (87, .iload 5, 2), (89, .bipush 24, 2), (91, .if_icmp .ge 34, 3), (94, .aload_n 0, 1), (95, .getfield 78, 3), (98, .iload 5, 2), (100, .aload_n 0, 1), (101, .getfield 33, 3), (104, .invokevirtual 154, 3), (107, .ifCond .eq 12, 3), (110, .aload_n 0, 1), (111, .invokevirtual 147, 3), (114, .ifCond .ne 5, 3), (117, .iconst 0, 1), (118, .ireturn, 1), (119, .iinc 5 1, 3), (122, .goto (-35), 3), (125, .iinc 2 1, 3), (128, .goto (-116), 3), (131, .iconst 1, 1), (132, .ireturn, 1)]
/-- RuleCompletion$Engine.addOverlaps()Z -/
def ai_m31 : ai_M := (2, ⟨"RuleCompletion$Engine", "addOverlaps", "()Z"⟩, prog_3_method_9_code, 6, (some .boolean), ai_i31, [], [], 5, 157)
def ai_i32 : List (Nat × Instr × Nat) := [(0, .aload_n 0, 1), (1, .invokespecial 5, 3), (4, .aload_n 0, 1), (5, .bipush 96, 2), (7, .newarray .char, 2), (9, .putfield 11, 3), (12, .aload_n 0, 1), (13, .bipush 96, 2), (15, .newarray .int, 2), (17, .putfield 15, 3), (20, .aload_n 0, 1), (21, .bipush 96, 2), (23, .newarray .int, 2), (25, .putfield 19, 3), (28, .aload_n 0, 1), (29, .bipush 108, 2), (31, .newarray .int, 2), (33, .putfield 22, 3), (36, .aload_n 0, 1), (37, .bipush 108, 2), (39, .newarray .boolean, 2), (41, .putfield 25, 3), (44, .aload_n 0, 1), (45, .sipush 216, 3), (48, .newarray .int, 2), (50, .putfield 29, 3), (53, .aload_n 0, 1), (54, .iconst 0, 1), (55, .putfield 32, 3), (58, .aload_n 0, 1), (59, .iconst 0, 1), (60, .putfield 36, 3), (63, .aload_n 0, 1), (64, .iconst 0, 1), (65, .putfield 39, 3), (68, .aload_n 0, 1), (69, .iconst 0, 1), (70, .putfield 42, 3), (73, .aload_n 0, 1), (74, .iconst 0, 1), (75, .putfield 45, 3), (78, .aload_n 0, 1), (79, .aload_n 1, 1), (80, .putfield 48, 3), (83, .return_, 1)]
/-- RuleCompletion$Overlap.<init>(LRuleCompletion$Symbols;)V -/
def ai_m32 : ai_M := (3, ⟨"RuleCompletion$Overlap", "<init>", "(LRuleCompletion$Symbols;)V"⟩, prog_4_method_1_code, 2, none, ai_i32, [], [], 1, 20)
def ai_i33 : List (Nat × Instr × Nat) := [(0, .aload_n 0, 1), (1, .aload_n 0, 1), (2, .aload_n 1, 1), (3, .getfield 52, 3), (6, .iconst 0, 1), (7, .iconst 0, 1), (8, .invokevirtual 58, 3), (11, .putfield 36, 3), (14, .aload_n 0, 1), (15, .aload_n 0, 1), (16, .aload_n 1, 1), (17, .getfield 62, 3), (20, .bipush 24, 2), (22, .iconst 0, 1), (23, .invokevirtual 58, 3), (26, .putfield 39, 3), (29, .aload_n 0, 1), (30, .aload_n 0, 1), (31, .aload_n 2, 1), (32, .getfield 52, 3), (35, .bipush 48, 2), (37, .bipush 6, 2), (39, .invokevirtual 58, 3), (42, .putfield 42, 3), (45, .aload_n 0, 1), (46, .aload_n 0, 1), (47, .aload_n 2, 1), (48, .getfield 62, 3), (51, .bipush 72, 2), (53, .bipush 6, 2), (55, .invokevirtual 58, 3), (58, .putfield 45, 3), (61, .return_, 1)]
/-- RuleCompletion$Overlap.begin(LRuleCompletion$Pair;LRuleCompletion$Pair;)V -/
def ai_m33 : ai_M := (3, ⟨"RuleCompletion$Overlap", "begin", "(LRuleCompletion$Pair;LRuleCompletion$Pair;)V"⟩, prog_4_method_2_code, 3, none, ai_i33, [], [], 3, 74)
def ai_i34 : List (Nat × Instr × Nat) := [(0, .iload_n 2, 1), (1, .aload_n 1, 1), (2, .getfield 65, 3), (5, .iadd, 1), (6, .istore 4, 2), (8, .iload_n 2, 1), (9, .istore 5, 2), (11, .iload 5, 2), (13, .iload 4, 2), (15, .if_icmp .ge 59, 3), (18, .aload_n 1, 1), (19, .getfield 70, 3), (22, .iload 5, 2), (24, .iload_n 2, 1), (25, .isub, 1), (26, .caload, 1), (27, .istore 6, 2), (29, .aload_n 0, 1), (30, .getfield 11, 3), (33, .iload 5, 2), (35, .iload 6, 2), (37, .castore, 1), (38, .aload_n 0, 1), (39, .getfield 19, 3), (42, .iload 5, 2), (44, .iload 6, 2), (46, .invokestatic 71, 3), (49, .ifCond .eq 16, 3), (52, .bipush 96, 2), (54, .iload_n 3, 1), (55, .iadd, 1), (56, .iload 6, 2), (58, .iadd, 1), (59, .bipush 117, 2), (61, .isub, 1), (62, .goto 5, 3), (65, .iload 5, 2), (67, .iastore, 1), (68, .iinc 5 1, 3), (71, .goto (-60), 3), (74, .aload_n 0, 1), (75, .getfield 48, 3), (78, .aload_n 0, 1), (79, .getfield 11, 3), (82, .iload_n 2, 1), (83, .iload 4, 2), (85, .aload_n 0, 1), (86, .getfield 15, 3), (89, .invokevirtual 75, 3), (92, .iload 4, 2), (94, .ireturn, 1)]
/-- RuleCompletion$Overlap.lay(LRuleCompletion$Term;II)I -/
def ai_m34 : ai_M := (3, ⟨"RuleCompletion$Overlap", "lay", "(LRuleCompletion$Term;II)I"⟩, prog_4_method_3_code, 7, (some .int), ai_i34, [], [], 2, 48)
def ai_i35 : List (Nat × Instr × Nat) := [(0, .bipush 48, 2), (2, .iload_n 1, 1), (3, .iadd, 1), (4, .istore_n 3, 1), (5, .iload_n 3, 1), (6, .aload_n 0, 1), (7, .getfield 42, 3), (10, .if_icmp .ge 18, 3), (13, .aload_n 0, 1), (14, .getfield 11, 3), (17, .iload_n 3, 1), (18, .caload, 1), (19, .aload_n 0, 1), (20, .getfield 11, 3), (23, .iconst 0, 1), (24, .caload, 1), (25, .if_icmp .eq 5, 3), (28, .iconst 0, 1), (29, .ireturn, 1), (30, .aload_n 0, 1), (31, .iconst 0, 1), (32, .iload_n 3, 1), (33, .invokevirtual 81, 3), (36, .ifCond .eq 11, 3), (39, .aload_n 0, 1), (40, .iload_n 3, 1), (41, .invokevirtual 85, 3), (44, .ifCond .ne 5, 3), (47, .iconst 0, 1), (48, .ireturn, 1), (49, .aload_n 2, 1), (50, .getfield 52, 3), (53, .iconst 0, 1), (54, .putfield 65, 3), (57, .aload_n 0, 1), (58, .bipush 48, 2), (60, .iload_n 3, 1), (61, .aload_n 2, 1), (62, .getfield 52, 3), (65, .invokevirtual 89, 3), (68, .aload_n 0, 1), (69, .bipush 24, 2), (71, .aload_n 0, 1), (72, .getfield 39, 3), (75, .aload_n 2, 1), (76, .getfield 52, 3), (79, .invokevirtual 89, 3), (82, .aload_n 0, 1), (83, .aload_n 0, 1), (84, .getfield 15, 3), (87, .iload_n 3, 1), (88, .iaload, 1), (89, .aload_n 0, 1), (90, .getfield 42, 3), (93, .aload_n 2, 1), (94, .getfield 52, 3), (97, .invokevirtual 89, 3), (100, .aload_n 2, 1), (101, .getfield 62, 3), (104, .iconst 0, 1), (105, .putfield 65, 3), (108, .aload_n 0, 1), (109, .bipush 72, 2), (111, .aload_n 0, 1), (112, .getfield 45, 3), (115, .aload_n 2, 1), (116, .getfield 62, 3), (119, .invokevirtual 89, 3), (122, .iconst 1, 1), (123, .ireturn, 1)]
/-- RuleCompletion$Overlap.findPair(ILRuleCompletion$Pair;)Z -/
def ai_m35 : ai_M := (3, ⟨"RuleCompletion$Overlap", "findPair", "(ILRuleCompletion$Pair;)Z"⟩, prog_4_method_4_code, 4, (some .boolean), ai_i35, [], [], 4, 95)
def ai_i36 : List (Nat × Instr × Nat) := [(0, .iconst 0, 1), (1, .istore_n 3, 1), (2, .iload_n 3, 1), (3, .bipush 108, 2), (5, .if_icmp .ge 16, 3), (8, .aload_n 0, 1), (9, .getfield 22, 3), (12, .iload_n 3, 1), (13, .iload_n 3, 1), (14, .iastore, 1), (15, .iinc 3 1, 3), (18, .goto (-16), 3), (21, .aload_n 0, 1), (22, .iconst 0, 1), (23, .putfield 32, 3), (26, .aload_n 0, 1), (27, .iload_n 1, 1), (28, .iload_n 2, 1), (29, .invokevirtual 93, 3), (32, .iconst 0, 1), (33, .istore_n 3, 1), (34, .iload_n 3, 1), (35, .sipush 432, 3), (38, .if_icmp .ge 64, 3), (41, .aload_n 0, 1), (42, .getfield 32, 3), (45, .iconst 1, 1), (46, .if_icmp .le 56, 3), (49, .aload_n 0, 1), (50, .dup, 1), (51, .getfield 32, 3), (54, .iconst 2, 1), (55, .isub, 1), (56, .putfield 32, 3), (59, .aload_n 0, 1), (60, .aload_n 0, 1), (61, .aload_n 0, 1), (62, .getfield 29, 3), (65, .aload_n 0, 1), (66, .getfield 32, 3), (69, .iaload, 1), (70, .invokevirtual 97, 3), (73, .aload_n 0, 1), (74, .aload_n 0, 1), (75, .getfield 29, 3), (78, .aload_n 0, 1), (79, .getfield 32, 3), (82, .iconst 1, 1), (83, .iadd, 1), (84, .iaload, 1), (85, .invokevirtual 97, 3), (88, .invokevirtual 101, 3), (91, .ifCond .ne 5, 3), (94, .iconst 0, 1), (95, .ireturn, 1), (96, .iinc 3 1, 3), (99, .goto (-65), 3), (102, .aload_n 0, 1), (103, .getfield 32, 3), (106, .ifCond .ne 7, 3), (109, .iconst 1, 1), (110, .goto 4, 3), (113, .iconst 0, 1), (114, .ireturn, 1)]
/-- RuleCompletion$Overlap.canMerge(II)Z -/
def ai_m36 : ai_M := (3, ⟨"RuleCompletion$Overlap", "canMerge", "(II)Z"⟩, prog_4_method_6_code, 4, (some .boolean), ai_i36, [], [], 3, 69)
def ai_i37 : List (Nat × Instr × Nat) := [(0, .aload_n 0, 1), (1, .getfield 32, 3), (4, .iconst 1, 1), (5, .iadd, 1), (6, .aload_n 0, 1), (7, .getfield 29, 3), (10, .arraylength, 1), (11, .if_icmp .ge 35, 3), (14, .aload_n 0, 1), (15, .getfield 29, 3), (18, .aload_n 0, 1), (19, .getfield 32, 3), (22, .iload_n 1, 1), (23, .iastore, 1), (24, .aload_n 0, 1), (25, .getfield 29, 3), (28, .aload_n 0, 1), (29, .getfield 32, 3), (32, .iconst 1, 1), (33, .iadd, 1), (34, .iload_n 2, 1), (35, .iastore, 1), (36, .aload_n 0, 1), (37, .dup, 1), (38, .getfield 32, 3), (41, .iconst 2, 1), (42, .iadd, 1), (43, .putfield 32, 3), (46, .return_, 1)]
/-- RuleCompletion$Overlap.pushBoth(II)V -/
def ai_m37 : ai_M := (3, ⟨"RuleCompletion$Overlap", "pushBoth", "(II)V"⟩, prog_4_method_9_code, 3, none, ai_i37, [], [], 0, 0)
def ai_i38 : List (Nat × Instr × Nat) := [(0, .aload_n 0, 1), (1, .getfield 19, 3), (4, .iload_n 1, 1), (5, .iaload, 1), (6, .istore_n 2, 1), (7, .iconst 0, 1), (8, .istore_n 3, 1), (9, .iload_n 3, 1), (10, .bipush 108, 2), (12, .if_icmp .ge 26, 3), (15, .aload_n 0, 1), (16, .getfield 22, 3), (19, .iload_n 2, 1), (20, .iaload, 1), (21, .iload_n 2, 1), (22, .if_icmp .eq 16, 3), (25, .aload_n 0, 1), (26, .getfield 22, 3), (29, .iload_n 2, 1), (30, .iaload, 1), (31, .istore_n 2, 1), (32, .iinc 3 1, 3), (35, .goto (-26), 3), (38, .iload_n 2, 1), (39, .ireturn, 1)]
/-- RuleCompletion$Overlap.classOf(I)I -/
def ai_m38 : ai_M := (3, ⟨"RuleCompletion$Overlap", "classOf", "(I)I"⟩, prog_4_method_5_code, 4, (some .int), ai_i38, [], [], 0, 0)
def ai_i39 : List (Nat × Instr × Nat) := [(0, .iload_n 1, 1), (1, .iload_n 2, 1), (2, .if_icmp .ne 5, 3), (5, .iconst 1, 1), (6, .ireturn, 1), (7, .iload_n 1, 1), (8, .bipush 96, 2), (10, .if_icmp .lt 12, 3), (13, .aload_n 0, 1), (14, .getfield 22, 3), (17, .iload_n 1, 1), (18, .iload_n 2, 1), (19, .iastore, 1), (20, .iconst 1, 1), (21, .ireturn, 1), (22, .iload_n 2, 1), (23, .bipush 96, 2), (25, .if_icmp .lt 12, 3), (28, .aload_n 0, 1), (29, .getfield 22, 3), (32, .iload_n 2, 1), (33, .iload_n 1, 1), (34, .iastore, 1), (35, .iconst 1, 1), (36, .ireturn, 1), (37, .aload_n 0, 1), (38, .getfield 11, 3), (41, .iload_n 1, 1), (42, .caload, 1), (43, .aload_n 0, 1), (44, .getfield 11, 3), (47, .iload_n 2, 1), (48, .caload, 1), (49, .if_icmp .eq 5, 3), (52, .iconst 0, 1), (53, .ireturn, 1), (54, .aload_n 0, 1), (55, .getfield 22, 3), (58, .iload_n 2, 1), (59, .iload_n 1, 1), (60, .iastore, 1), (61, .aload_n 0, 1), (62, .iload_n 1, 1), (63, .iload_n 2, 1), (64, .invokevirtual 104, 3), (67, .iconst 1, 1), (68, .ireturn, 1)]
/-- RuleCompletion$Overlap.canJoin(II)Z -/
def ai_m39 : ai_M := (3, ⟨"RuleCompletion$Overlap", "canJoin", "(II)Z"⟩, prog_4_method_7_code, 3, (some .boolean), ai_i39, [], [], 2, 47)
def ai_i40 : List (Nat × Instr × Nat) := [(0, .iload_n 1, 1), (1, .iconst 1, 1), (2, .iadd, 1), (3, .istore_n 3, 1), (4, .iload_n 2, 1), (5, .iconst 1, 1), (6, .iadd, 1), (7, .istore 4, 2), (9, .aload_n 0, 1), (10, .getfield 48, 3), (13, .aload_n 0, 1), (14, .getfield 11, 3), (17, .iload_n 1, 1), (18, .caload, 1), (19, .invokevirtual 107, 3), (22, .istore 5, 2), (24, .iload 5, 2), (26, .ifCond .le 32, 3), (29, .aload_n 0, 1), (30, .iload_n 3, 1), (31, .iload 4, 2), (33, .invokevirtual 93, 3), (36, .aload_n 0, 1), (37, .getfield 15, 3), (40, .iload_n 3, 1), (41, .iaload, 1), (42, .istore_n 3, 1), (43, .aload_n 0, 1), (44, .getfield 15, 3), (47, .iload 4, 2), (49, .iaload, 1), (50, .istore 4, 2), (52, .iinc 5 (-1), 3), (55, .goto (-31), 3), (58, .return_, 1)]
/-- RuleCompletion$Overlap.pushTerms(II)V -/
def ai_m40 : ai_M := (3, ⟨"RuleCompletion$Overlap", "pushTerms", "(II)V"⟩, prog_4_method_8_code, 6, none, ai_i40, [], [], 1, 22)
def ai_i41 : List (Nat × Instr × Nat) := [(0, .iconst 0, 1), (1, .istore_n 2, 1), (2, .iload_n 2, 1), (3, .bipush 108, 2), (5, .if_icmp .ge 26, 3), (8, .aload_n 0, 1), (9, .getfield 25, 3), (12, .iload_n 2, 1), (13, .iload_n 2, 1), (14, .bipush 96, 2), (16, .if_icmp .lt 7, 3), (19, .iconst 1, 1), (20, .goto 4, 3), (23, .iconst 0, 1), (24, .bastore, 1), (25, .iinc 2 1, 3), (28, .goto (-26), 3), (31, .iconst 1, 1), (32, .istore_n 2, 1), (33, .iconst 0, 1), (34, .istore_n 3, 1), (35, .iload_n 3, 1), (36, .bipush 108, 2), (38, .if_icmp .ge 53, 3), (41, .iload_n 2, 1), (42, .ifCond .eq 49, 3), (45, .aload_n 0, 1), (46, .iload_n 1, 1), (47, .aload_n 0, 1), (48, .getfield 15, 3), (51, .iload_n 1, 1), (52, .iaload, 1), (53, .invokevirtual 111, 3), (56, .istore 4, 2), (58, .aload_n 0, 1), (59, .iconst 0, 1), (60, .aload_n 0, 1), (61, .getfield 36, 3), (64, .invokevirtual 111, 3), (67, .istore 5, 2), (69, .iload 4, 2), (71, .ifCond .ne 8, 3), (74, .iload 5, 2), (76, .ifCond .eq 7, 3), (79, .iconst 1, 1), (80, .goto 4, 3), (83, .iconst 0, 1), (84, .istore_n 2, 1), (85, .iinc 3 1, 3), (88, .goto (-53), 3), (91, .aload_n 0, 1), (92, .getfield 25, 3), (95, .aload_n 0, 1), (96, .iload_n 1, 1), (97, .invokevirtual 97, 3), (100, .baload, 1), (101, .ireturn, 1)]
/-- RuleCompletion$Overlap.isFinite(I)Z -/
def ai_m41 : ai_M := (3, ⟨"RuleCompletion$Overlap", "isFinite", "(I)Z"⟩, prog_4_method_10_code, 6, (some .boolean), ai_i41, [], [], 3, 70)
def ai_i42 : List (Nat × Instr × Nat) := [(0, .iconst 0, 1), (1, .istore_n 3, 1), (2, .iload_n 2, 1), (3, .iconst 1, 1), (4, .isub, 1), (5, .istore 4, 2), (7, .iload 4, 2), (9, .iload_n 1, 1), (10, .if_icmp .lt 49, 3), (13, .aload_n 0, 1), (14, .getfield 25, 3), (17, .iload 4, 2), (19, .baload, 1), (20, .ifCond .ne 33, 3), (23, .aload_n 0, 1), (24, .iload 4, 2), (26, .invokevirtual 97, 3), (29, .iload 4, 2), (31, .if_icmp .ne 22, 3), (34, .aload_n 0, 1), (35, .iload 4, 2), (37, .invokevirtual 114, 3), (40, .ifCond .eq 13, 3), (43, .aload_n 0, 1), (44, .getfield 25, 3), (47, .iload 4, 2), (49, .iconst 1, 1), (50, .bastore, 1), (51, .iconst 1, 1), (52, .istore_n 3, 1), (53, .iinc 4 (-1), 3), (56, .goto (-49), 3), (59, .iload_n 3, 1), (60, .ireturn, 1)]
/-- RuleCompletion$Overlap.settleMore(II)Z -/
def ai_m42 : ai_M := (3, ⟨"RuleCompletion$Overlap", "settleMore", "(II)Z"⟩, prog_4_method_11_code, 5, (some .boolean), ai_i42, [], [], 2, 46)
def ai_i43 : List (Nat × Instr × Nat) := [(0, .iload_n 1, 1), (1, .iconst 1, 1), (2, .iadd, 1), (3, .istore_n 2, 1), (4, .aload_n 0, 1), (5, .getfield 48, 3), (8, .aload_n 0, 1), (9, .getfield 11, 3), (12, .iload_n 1, 1), (13, .caload, 1), (14, .invokevirtual 107, 3), (17, .istore_n 3, 1), (18, .iload_n 3, 1), (19, .ifCond .le 31, 3), (22, .aload_n 0, 1), (23, .getfield 25, 3), (26, .aload_n 0, 1), (27, .iload_n 2, 1), (28, .invokevirtual 97, 3), (31, .baload, 1), (32, .ifCond .ne 5, 3), (35, .iconst 0, 1), (36, .ireturn, 1), (37, .aload_n 0, 1), (38, .getfield 15, 3), (41, .iload_n 2, 1), (42, .iaload, 1), (43, .istore_n 2, 1), (44, .iinc 3 (-1), 3), (47, .goto (-29), 3), (50, .iconst 1, 1), (51, .ireturn, 1)]
/-- RuleCompletion$Overlap.hasSettledTerms(I)Z -/
def ai_m43 : ai_M := (3, ⟨"RuleCompletion$Overlap", "hasSettledTerms", "(I)Z"⟩, prog_4_method_12_code, 4, (some .boolean), ai_i43, [], [], 1, 23)
def ai_i44 : List (Nat × Instr × Nat) := [(0, .iload_n 1, 1), (1, .istore 4, 2), (3, .iload 4, 2), (5, .iload_n 2, 1), (6, .if_icmp .ge 43, 3), (9, .aload_n 0, 1), (10, .getfield 11, 3), (13, .iload 4, 2), (15, .caload, 1), (16, .invokestatic 71, 3), (19, .ifCond .eq 13, 3), (22, .aload_n 0, 1), (23, .iload 4, 2), (25, .aload_n 3, 1), (26, .invokevirtual 117, 3), (29, .goto 14, 3), (32, .aload_n 3, 1), (33, .aload_n 0, 1), (34, .getfield 11, 3), (37, .iload 4, 2), (39, .caload, 1), (40, .invokevirtual 121, 3), (43, .iinc 4 1, 3), (46, .goto (-43), 3), (49, .return_, 1)]
/-- RuleCompletion$Overlap.appendTerms(IILRuleCompletion$Term;)V -/
def ai_m44 : ai_M := (3, ⟨"RuleCompletion$Overlap", "appendTerms", "(IILRuleCompletion$Term;)V"⟩, prog_4_method_13_code, 5, none, ai_i44, [], [], 3, 67)
def ai_i45 : List (Nat × Instr × Nat) := [(0, .aload_n 0, 1), (1, .getfield 29, 3), (4, .iconst 0, 1), (5, .iload_n 1, 1), (6, .iastore, 1), (7, .aload_n 0, 1), (8, .iconst 1, 1), (9, .putfield 32, 3), (12, .iconst 0, 1), (13, .istore_n 3, 1), (14, .iload_n 3, 1), (15, .bipush 24, 2), (17, .if_icmp .gt 81, 3), (20, .aload_n 0, 1), (21, .getfield 32, 3), (24, .ifCond .le 74, 3), (27, .aload_n 0, 1), (28, .dup, 1), (29, .getfield 32, 3), (32, .iconst 1, 1), (33, .isub, 1), (34, .putfield 32, 3), (37, .aload_n 0, 1), (38, .aload_n 0, 1), (39, .getfield 29, 3), (42, .aload_n 0, 1), (43, .getfield 32, 3), (46, .iaload, 1), (47, .invokevirtual 97, 3), (50, .istore 4, 2), (52, .iload 4, 2), (54, .bipush 96, 2), (56, .if_icmp .lt 19, 3), (59, .aload_n 2, 1), (60, .bipush 117, 2), (62, .iload 4, 2), (64, .iadd, 1), (65, .bipush 96, 2), (67, .isub, 1), (68, .i2c, 1), (69, .invokevirtual 121, 3), (72, .goto 20, 3), (75, .aload_n 2, 1), (76, .aload_n 0, 1), (77, .getfield 11, 3), (80, .iload 4, 2), (82, .caload, 1), (83, .invokevirtual 121, 3), (86, .aload_n 0, 1), (87, .iload 4, 2), (89, .invokevirtual 125, 3), (92, .iinc 3 1, 3), (95, .goto (-81), 3), (98, .return_, 1)]
/-- RuleCompletion$Overlap.appendTermOf(ILRuleCompletion$Term;)V -/
def ai_m45 : ai_M := (3, ⟨"RuleCompletion$Overlap", "appendTermOf", "(ILRuleCompletion$Term;)V"⟩, prog_4_method_14_code, 5, none, ai_i45, [], [], 2, 43)
def ai_i46 : List (Nat × Instr × Nat) := [(0, .aload_n 0, 1), (1, .getfield 48, 3), (4, .aload_n 0, 1), (5, .getfield 11, 3), (8, .iload_n 1, 1), (9, .caload, 1), (10, .invokevirtual 107, 3), (13, .istore_n 2, 1), (14, .iload_n 2, 1), (15, .iconst 2, 1), (16, .if_icmp .ne 30, 3), (19, .aload_n 0, 1), (20, .getfield 29, 3), (23, .aload_n 0, 1), (24, .getfield 32, 3), (27, .aload_n 0, 1), (28, .getfield 15, 3), (31, .iload_n 1, 1), (32, .iconst 1, 1), (33, .iadd, 1), (34, .iaload, 1), (35, .iastore, 1), (36, .aload_n 0, 1), (37, .dup, 1), (38, .getfield 32, 3), (41, .iconst 1, 1), (42, .iadd, 1), (43, .putfield 32, 3), (46, .iload_n 2, 1), (47, .ifCond .le 25, 3), (50, .aload_n 0, 1), (51, .getfield 29, 3), (54, .aload_n 0, 1), (55, .getfield 32, 3), (58, .iload_n 1, 1), (59, .iconst 1, 1), (60, .iadd, 1), (61, .iastore, 1), (62, .aload_n 0, 1), (63, .dup, 1), (64, .getfield 32, 3), (67, .iconst 1, 1), (68, .iadd, 1), (69, .putfield 32, 3), (72, .return_, 1)]
/-- RuleCompletion$Overlap.pushTermsBackwards(I)V -/
def ai_m46 : ai_M := (3, ⟨"RuleCompletion$Overlap", "pushTermsBackwards", "(I)V"⟩, prog_4_method_15_code, 3, none, ai_i46, [], [], 1, 21)
def ai_i47 : List (Nat × Instr × Nat) := [(0, .aload_n 0, 1), (1, .invokespecial 3, 3), (4, .aload_n 0, 1), (5, .new 9, 3), (8, .dup, 1), (9, .invokespecial 11, 3), (12, .putfield 12, 3), (15, .aload_n 0, 1), (16, .new 9, 3), (19, .dup, 1), (20, .invokespecial 11, 3), (23, .putfield 18, 3), (26, .return_, 1)]
/-- RuleCompletion$Pair.<init>()V -/
def ai_m47 : ai_M := (4, ⟨"RuleCompletion$Pair", "<init>", "()V"⟩, prog_5_method_1_code, 1, none, ai_i47, [], [], 2, 40)
def ai_i48 : List (Nat × Instr × Nat) := [(0, .iload_n 1, 1), (1, .ifCond .lt 11, 3), (4, .iload_n 1, 1), (5, .aload_n 0, 1), (6, .invokevirtual 33, 3), (9, .if_icmp .le 5, 3), (12, .iconst 0, 1), (13, .ireturn, 1), (14, .iload_n 1, 1), (15, .aload_n 0, 1), (16, .getfield 12, 3), (19, .getfield 29, 3), (22, .if_icmp .ne 5, 3), (25, .iload_n 2, 1), (26, .ireturn, 1), (27, .iload_n 1, 1), (28, .aload_n 0, 1), (29, .getfield 12, 3), (32, .getfield 29, 3), (35, .if_icmp .ge 15, 3), (38, .aload_n 0, 1), (39, .getfield 12, 3), (42, .getfield 36, 3), (45, .iload_n 1, 1), (46, .caload, 1), (47, .goto 22, 3), (50, .aload_n 0, 1), (51, .getfield 18, 3), (54, .getfield 36, 3), (57, .iload_n 1, 1), (58, .aload_n 0, 1), (59, .getfield 12, 3), (62, .getfield 29, 3), (65, .isub, 1), (66, .iconst 1, 1), (67, .isub, 1), (68, .caload, 1), (69, .ireturn, 1)]
/-- RuleCompletion$Pair.characterAt(IC)C -/
def ai_m48 : ai_M := (4, ⟨"RuleCompletion$Pair", "characterAt", "(IC)C"⟩, prog_5_method_6_code, 3, (some .char), ai_i48, [], [], 1, 20)
def ai_i49 : List (Nat × Instr × Nat) := [(0, .aload_n 0, 1), (1, .getfield 12, 3), (4, .getfield 29, 3), (7, .aload_n 0, 1), (8, .getfield 18, 3), (11, .getfield 29, 3), (14, .iadd, 1), (15, .ireturn, 1)]
/-- RuleCompletion$Pair.size()I -/
def ai_m49 : ai_M := (4, ⟨"RuleCompletion$Pair", "size", "()I"⟩, prog_5_method_5_code, 1, (some .int), ai_i49, [], [], 0, 0)
def ai_i50 : List (Nat × Instr × Nat) := [(0, .aload_n 0, 1), (1, .getfield 12, 3), (4, .aload_n 1, 1), (5, .getfield 12, 3), (8, .invokevirtual 21, 3), (11, .aload_n 0, 1), (12, .getfield 18, 3), (15, .aload_n 1, 1), (16, .getfield 18, 3), (19, .invokevirtual 21, 3), (22, .return_, 1)]
/-- RuleCompletion$Pair.copy(LRuleCompletion$Pair;)V -/
def ai_m50 : ai_M := (4, ⟨"RuleCompletion$Pair", "copy", "(LRuleCompletion$Pair;)V"⟩, prog_5_method_2_code, 2, none, ai_i50, [], [], 2, 89)
def ai_i51 : List (Nat × Instr × Nat) := [(0, .aload_n 0, 1), (1, .getfield 12, 3), (4, .aload_n 1, 1), (5, .getfield 18, 3), (8, .invokevirtual 21, 3), (11, .aload_n 0, 1), (12, .getfield 18, 3), (15, .aload_n 1, 1), (16, .getfield 12, 3), (19, .invokevirtual 21, 3), (22, .return_, 1)]
/-- RuleCompletion$Pair.copyExchanged(LRuleCompletion$Pair;)V -/
def ai_m51 : ai_M := (4, ⟨"RuleCompletion$Pair", "copyExchanged", "(LRuleCompletion$Pair;)V"⟩, prog_5_method_3_code, 2, none, ai_i51, [], [], 2, 89)
def ai_i52 : List (Nat × Instr × Nat) := [(0, .aload_n 0, 1), (1, .getfield 12, 3), (4, .aload_n 1, 1), (5, .getfield 12, 3), (8, .invokevirtual 25, 3), (11, .ifCond .eq 21, 3), (14, .aload_n 0, 1), (15, .getfield 18, 3), (18, .aload_n 1, 1), (19, .getfield 18, 3), (22, .invokevirtual 25, 3), (25, .ifCond .eq 7, 3), (28, .iconst 1, 1), (29, .goto 4, 3), (32, .iconst 0, 1), (33, .ireturn, 1)]
/-- RuleCompletion$Pair.isSame(LRuleCompletion$Pair;)Z -/
def ai_m52 : ai_M := (4, ⟨"RuleCompletion$Pair", "isSame", "(LRuleCompletion$Pair;)Z"⟩, prog_5_method_4_code, 2, (some .boolean), ai_i52, [], [], 2, 46)
def ai_i53 : List (Nat × Instr × Nat) := [(0, .aload_n 0, 1), (1, .invokespecial 3, 3), (4, .aload_n 0, 1), (5, .iconst 0, 1), (6, .putfield 9, 3), (9, .aload_n 0, 1), (10, .iload_n 1, 1), (11, .anewarray 15, 3), (14, .putfield 17, 3), (17, .iconst 0, 1), (18, .istore_n 2, 1), (19, .iload_n 2, 1), (20, .iload_n 1, 1), (21, .if_icmp .ge 22, 3), (24, .aload_n 0, 1), (25, .getfield 17, 3), (28, .iload_n 2, 1), (29, .new 15, 3), (32, .dup, 1), (33, .invokespecial 21, 3), (36, .aastore, 1), (37, .iinc 2 1, 3), (40, .goto (-21), 3), (43, .return_, 1)]
/-- RuleCompletion$PairList.<init>(I)V -/
def ai_m53 : ai_M := (5, ⟨"RuleCompletion$PairList", "<init>", "(I)V"⟩, prog_6_method_1_code, 3, none, ai_i53, [], [], 3, 60)
def ai_i54 : List (Nat × Instr × Nat) := [(0, .iload_n 1, 1), (1, .ifCond .lt 25, 3), (4, .iload_n 1, 1), (5, .aload_n 0, 1), (6, .getfield 9, 3), (9, .if_icmp .ge 17, 3), (12, .aload_n 0, 1), (13, .getfield 17, 3), (16, .iload_n 1, 1), (17, .aaload, 1), (18, .iload_n 2, 1), (19, .iload_n 3, 1), (20, .invokevirtual 38, 3), (23, .goto 4, 3), (26, .iconst 0, 1), (27, .ireturn, 1)]
/-- RuleCompletion$PairList.characterAt(IIC)C -/
def ai_m54 : ai_M := (5, ⟨"RuleCompletion$PairList", "characterAt", "(IIC)C"⟩, prog_6_method_7_code, 4, (some .char), ai_i54, [], [], 2, 42)
def ai_i55 : List (Nat × Instr × Nat) := [(0, .aload_n 0, 1), (1, .getfield 9, 3), (4, .aload_n 0, 1), (5, .getfield 17, 3), (8, .arraylength, 1), (9, .if_icmp .lt 7, 3), (12, .iconst 1, 1), (13, .goto 4, 3), (16, .iconst 0, 1), (17, .ireturn, 1)]
/-- RuleCompletion$PairList.isFull()Z -/
def ai_m55 : ai_M := (5, ⟨"RuleCompletion$PairList", "isFull", "()Z"⟩, prog_6_method_2_code, 1, (some .boolean), ai_i55, [], [], 0, 0)
def ai_i56 : List (Nat × Instr × Nat) := [(0, .aload_n 0, 1), (1, .invokevirtual 22, 3), (4, .ifCond .ne 26, 3), (7, .aload_n 0, 1), (8, .getfield 17, 3), (11, .aload_n 0, 1), (12, .getfield 9, 3), (15, .aaload, 1), (16, .aload_n 1, 1), (17, .invokevirtual 26, 3), (20, .aload_n 0, 1), (21, .dup, 1), (22, .getfield 9, 3), (25, .iconst 1, 1), (26, .iadd, 1), (27, .putfield 9, 3), (30, .return_, 1)]
/-- RuleCompletion$PairList.add(LRuleCompletion$Pair;)V -/
def ai_m56 : ai_M := (5, ⟨"RuleCompletion$PairList", "add", "(LRuleCompletion$Pair;)V"⟩, prog_6_method_3_code, 2, none, ai_i56, [], [], 3, 110)
def ai_i57 : List (Nat × Instr × Nat) := [(0, .iconst 0, 1), (1, .istore_n 1, 1), (2, .iconst 1, 1), (3, .istore_n 2, 1), (4, .iload_n 2, 1), (5, .aload_n 0, 1), (6, .getfield 9, 3), (9, .if_icmp .ge 32, 3), (12, .aload_n 0, 1), (13, .getfield 17, 3), (16, .iload_n 2, 1), (17, .aaload, 1), (18, .invokevirtual 34, 3), (21, .aload_n 0, 1), (22, .getfield 17, 3), (25, .iload_n 1, 1), (26, .aaload, 1), (27, .invokevirtual 34, 3), (30, .if_icmp .ge 5, 3), (33, .iload_n 2, 1), (34, .istore_n 1, 1), (35, .iinc 2 1, 3), (38, .goto (-34), 3), (41, .iload_n 1, 1), (42, .ireturn, 1)]
/-- RuleCompletion$PairList.findShortest()I -/
def ai_m57 : ai_M := (5, ⟨"RuleCompletion$PairList", "findShortest", "()I"⟩, prog_6_method_6_code, 3, (some .int), ai_i57, [], [], 1, 20)
def ai_i58 : List (Nat × Instr × Nat) := [(0, .iload_n 1, 1), (1, .ifCond .lt 11, 3), (4, .iload_n 1, 1), (5, .aload_n 0, 1), (6, .getfield 9, 3), (9, .if_icmp .lt 4, 3), (12, .return_, 1), (13, .aload_n 0, 1), (14, .getfield 17, 3), (17, .iload_n 1, 1), (18, .aaload, 1), (19, .astore_n 2, 1), (20, .iload_n 1, 1), (21, .istore_n 3, 1), (22, .iload_n 3, 1), (23, .aload_n 0, 1), (24, .getfield 9, 3), (27, .iconst 1, 1), (28, .isub, 1), (29, .if_icmp .ge 23, 3), (32, .aload_n 0, 1), (33, .getfield 17, 3), (36, .iload_n 3, 1), (37, .aload_n 0, 1), (38, .getfield 17, 3), (41, .iload_n 3, 1), (42, .iconst 1, 1), (43, .iadd, 1), (44, .aaload, 1), (45, .aastore, 1), (46, .iinc 3 1, 3), (49, .goto (-27), 3), (52, .aload_n 0, 1), (53, .dup, 1), (54, .getfield 9, 3), (57, .iconst 1, 1), (58, .isub, 1), (59, .putfield 9, 3), (62, .aload_n 0, 1), (63, .getfield 17, 3), (66, .aload_n 0, 1), (67, .getfield 9, 3), (70, .aload_n 2, 1), (71, .aastore, 1), (72, .return_, 1)]
/-- RuleCompletion$PairList.remove(I)V -/
def ai_m58 : ai_M := (5, ⟨"RuleCompletion$PairList", "remove", "(I)V"⟩, prog_6_method_4_code, 4, none, ai_i58, [], [], 0, 0)
def ai_i59 : List (Nat × Instr × Nat) := [(0, .iconst 0, 1), (1, .istore_n 2, 1), (2, .iload_n 2, 1), (3, .aload_n 0, 1), (4, .getfield 9, 3), (7, .if_icmp .ge 24, 3), (10, .aload_n 0, 1), (11, .getfield 17, 3), (14, .iload_n 2, 1), (15, .aaload, 1), (16, .aload_n 1, 1), (17, .invokevirtual 30, 3), (20, .ifCond .eq 5, 3), (23, .iconst 1, 1), (24, .ireturn, 1), (25, .iinc 2 1, 3), (28, .goto (-26), 3), (31, .iconst 0, 1), (32, .ireturn, 1)]
/-- RuleCompletion$PairList.contains(LRuleCompletion$Pair;)Z -/
def ai_m59 : ai_M := (5, ⟨"RuleCompletion$PairList", "contains", "(LRuleCompletion$Pair;)Z"⟩, prog_6_method_5_code, 3, (some .boolean), ai_i59, [], [], 3, 67)
def ai_i60 : List (Nat × Instr × Nat) := [(0, .aload_n 0, 1), (1, .invokespecial 3, 3), (4, .aload_n 0, 1), (5, .new 9, 3), (8, .dup, 1), (9, .invokespecial 11, 3), (12, .putfield 12, 3), (15, .aload_n 0, 1), (16, .new 9, 3), (19, .dup, 1), (20, .invokespecial 11, 3), (23, .putfield 18, 3), (26, .aload_n 0, 1), (27, .bipush 24, 2), (29, .newarray .int, 2), (31, .putfield 21, 3), (34, .aload_n 0, 1), (35, .bipush 24, 2), (37, .newarray .int, 2), (39, .putfield 25, 3), (42, .aload_n 0, 1), (43, .sipush 576, 3), (46, .newarray .boolean, 2), (48, .putfield 28, 3), (51, .aload_n 0, 1), (52, .aload_n 1, 1), (53, .putfield 32, 3), (56, .return_, 1)]
/-- RuleCompletion$PathOrder.<init>(LRuleCompletion$Symbols;)V -/
def ai_m60 : ai_M := (6, ⟨"RuleCompletion$PathOrder", "<init>", "(LRuleCompletion$Symbols;)V"⟩, prog_7_method_1_code, 2, none, ai_i60, [], [], 2, 40)
def ai_i61 : List (Nat × Instr × Nat) := [(0, .aload_n 1, 1), (1, .aload_n 2, 1), (2, .invokevirtual 36, 3), (5, .ifCond .eq 5, 3), (8, .iconst 0, 1), (9, .ireturn, 1), (10, .aload_n 0, 1), (11, .aload_n 1, 1), (12, .aload_n 2, 1), (13, .invokevirtual 40, 3), (16, .ifCond .eq 5, 3), (19, .iconst 1, 1), (20, .ireturn, 1), (21, .aload_n 0, 1), (22, .aload_n 2, 1), (23, .aload_n 1, 1), (24, .invokevirtual 40, 3), (27, .ifCond .eq 7, 3), (30, .iconst (-1), 1), (31, .goto 4, 3), (34, .iconst 2, 1), (35, .ireturn, 1)]
/-- RuleCompletion$PathOrder.between(LRuleCompletion$Term;LRuleCompletion$Term;)I -/
def ai_m61 : ai_M := (6, ⟨"RuleCompletion$PathOrder", "between", "(LRuleCompletion$Term;LRuleCompletion$Term;)I"⟩, prog_7_method_2_code, 3, (some .int), ai_i61, [], [], 5, 121)
def ai_i62 : List (Nat × Instr × Nat) := [(0, .aload_n 0, 1), (1, .getfield 12, 3), (4, .aload_n 1, 1), (5, .invokevirtual 44, 3), (8, .aload_n 0, 1), (9, .getfield 18, 3), (12, .aload_n 2, 1), (13, .invokevirtual 44, 3), (16, .aload_n 0, 1), (17, .getfield 32, 3), (20, .aload_n 0, 1), (21, .getfield 12, 3), (24, .getfield 48, 3), (27, .iconst 0, 1), (28, .aload_n 0, 1), (29, .getfield 12, 3), (32, .getfield 52, 3), (35, .aload_n 0, 1), (36, .getfield 21, 3), (39, .invokevirtual 56, 3), (42, .aload_n 0, 1), (43, .getfield 32, 3), (46, .aload_n 0, 1), (47, .getfield 18, 3), (50, .getfield 48, 3), (53, .iconst 0, 1), (54, .aload_n 0, 1), (55, .getfield 18, 3), (58, .getfield 52, 3), (61, .aload_n 0, 1), (62, .getfield 25, 3), (65, .invokevirtual 56, 3), (68, .aload_n 0, 1), (69, .getfield 12, 3), (72, .getfield 52, 3), (75, .iconst 1, 1), (76, .isub, 1), (77, .istore_n 3, 1), (78, .iload_n 3, 1), (79, .ifCond .lt 68, 3), (82, .aload_n 0, 1), (83, .getfield 18, 3), (86, .getfield 52, 3), (89, .iconst 1, 1), (90, .isub, 1), (91, .istore 4, 2), (93, .iload 4, 2), (95, .ifCond .lt 46, 3), (98, .aload_n 0, 1), (99, .getfield 28, 3), (102, .iload_n 3, 1), (103, .bipush 24, 2), (105, .imul, 1), (106, .iload 4, 2), (108, .iadd, 1), (109, .aload_n 0, 1), (110, .iload_n 3, 1), (111, .iload 4, 2), (113, .invokevirtual 62, 3), (116, .ifCond .ne 13, 3), (119, .aload_n 0, 1), (120, .iload_n 3, 1), (121, .iload 4, 2), (123, .invokevirtual 66, 3), (126, .ifCond .eq 7, 3), (129, .iconst 1, 1), (130, .goto 4, 3), (133, .iconst 0, 1), (134, .bastore, 1), (135, .iinc 4 (-1), 3), (138, .goto (-45), 3), (141, .iinc 3 (-1), 3), (144, .goto (-66), 3), (147, .aload_n 0, 1), (148, .getfield 28, 3), (151, .iconst 0, 1), (152, .baload, 1), (153, .ireturn, 1)]
/-- RuleCompletion$PathOrder.isAbove(LRuleCompletion$Term;LRuleCompletion$Term;)Z -/
def ai_m62 : ai_M := (6, ⟨"RuleCompletion$PathOrder", "isAbove", "(LRuleCompletion$Term;LRuleCompletion$Term;)Z"⟩, prog_7_method_3_code, 5, (some .boolean), ai_i62, [], [], 4, 97)
def ai_i63 : List (Nat × Instr × Nat) := [(0, .iload_n 1, 1), (1, .iconst 1, 1), (2, .iadd, 1), (3, .istore_n 3, 1), (4, .aload_n 0, 1), (5, .getfield 32, 3), (8, .aload_n 0, 1), (9, .getfield 12, 3), (12, .getfield 48, 3), (15, .iload_n 1, 1), (16, .caload, 1), (17, .invokevirtual 69, 3), (20, .istore 4, 2), (22, .iload 4, 2), (24, .ifCond .le 41, 3), (27, .aload_n 0, 1), (28, .getfield 28, 3), (31, .iload_n 3, 1), (32, .bipush 24, 2), (34, .imul, 1), (35, .iload_n 2, 1), (36, .iadd, 1), (37, .baload, 1), (38, .ifCond .ne 12, 3), (41, .aload_n 0, 1), (42, .iload_n 3, 1), (43, .iload_n 2, 1), (44, .invokevirtual 73, 3), (47, .ifCond .eq 5, 3), (50, .iconst 1, 1), (51, .ireturn, 1), (52, .aload_n 0, 1), (53, .getfield 21, 3), (56, .iload_n 3, 1), (57, .iaload, 1), (58, .istore_n 3, 1), (59, .iinc 4 (-1), 3), (62, .goto (-40), 3), (65, .iconst 0, 1), (66, .ireturn, 1)]
/-- RuleCompletion$PathOrder.isAboveByTerm(II)Z -/
def ai_m63 : ai_M := (6, ⟨"RuleCompletion$PathOrder", "isAboveByTerm", "(II)Z"⟩, prog_7_method_4_code, 5, (some .boolean), ai_i63, [], [], 2, 48)
def ai_i64 : List (Nat × Instr × Nat) := [(0, .aload_n 0, 1), (1, .getfield 21, 3), (4, .iload_n 1, 1), (5, .iaload, 1), (6, .iload_n 1, 1), (7, .isub, 1), (8, .istore_n 3, 1), (9, .iload_n 3, 1), (10, .aload_n 0, 1), (11, .getfield 25, 3), (14, .iload_n 2, 1), (15, .iaload, 1), (16, .iload_n 2, 1), (17, .isub, 1), (18, .if_icmp .ne 24, 3), (21, .aload_n 0, 1), (22, .getfield 12, 3), (25, .iload_n 1, 1), (26, .aload_n 0, 1), (27, .getfield 18, 3), (30, .iload_n 2, 1), (31, .iload_n 3, 1), (32, .invokevirtual 89, 3), (35, .ifCond .eq 7, 3), (38, .iconst 1, 1), (39, .goto 4, 3), (42, .iconst 0, 1), (43, .ireturn, 1)]
/-- RuleCompletion$PathOrder.isSameAt(II)Z -/
def ai_m64 : ai_M := (6, ⟨"RuleCompletion$PathOrder", "isSameAt", "(II)Z"⟩, prog_7_method_8_code, 4, (some .boolean), ai_i64, [], [], 1, 25)
def ai_i65 : List (Nat × Instr × Nat) := [(0, .aload_n 0, 1), (1, .getfield 12, 3), (4, .getfield 48, 3), (7, .iload_n 1, 1), (8, .caload, 1), (9, .istore_n 3, 1), (10, .aload_n 0, 1), (11, .getfield 18, 3), (14, .getfield 48, 3), (17, .iload_n 2, 1), (18, .caload, 1), (19, .istore 4, 2), (21, .iload_n 3, 1), (22, .invokestatic 76, 3), (25, .ifCond .ne 20, 3), (28, .iload 4, 2), (30, .invokestatic 76, 3), (33, .ifCond .ne 12, 3), (36, .aload_n 0, 1), (37, .iload_n 1, 1), (38, .iload_n 2, 1), (39, .invokevirtual 80, 3), (42, .ifCond .ne 5, 3), (45, .iconst 0, 1), (46, .ireturn, 1), (47, .iload_n 3, 1), (48, .iload 4, 2), (50, .if_icmp .ne 12, 3), (53, .aload_n 0, 1), (54, .iload_n 1, 1), (55, .iload_n 2, 1), (56, .invokevirtual 83, 3), (59, .goto 28, 3), (62, .aload_n 0, 1), (63, .getfield 32, 3), (66, .iload_n 3, 1), (67, .invokevirtual 86, 3), (70, .aload_n 0, 1), (71, .getfield 32, 3), (74, .iload 4, 2), (76, .invokevirtual 86, 3), (79, .if_icmp .le 7, 3), (82, .iconst 1, 1), (83, .goto 4, 3), (86, .iconst 0, 1), (87, .ireturn, 1)]
/-- RuleCompletion$PathOrder.isAboveByLetters(II)Z -/
def ai_m65 : ai_M := (6, ⟨"RuleCompletion$PathOrder", "isAboveByLetters", "(II)Z"⟩, prog_7_method_5_code, 5, (some .boolean), ai_i65, [], [], 3, 73)
def ai_i66 : List (Nat × Instr × Nat) := [(0, .iload_n 2, 1), (1, .iconst 1, 1), (2, .iadd, 1), (3, .istore_n 3, 1), (4, .aload_n 0, 1), (5, .getfield 32, 3), (8, .aload_n 0, 1), (9, .getfield 18, 3), (12, .getfield 48, 3), (15, .iload_n 2, 1), (16, .caload, 1), (17, .invokevirtual 69, 3), (20, .istore 4, 2), (22, .iload 4, 2), (24, .ifCond .le 32, 3), (27, .aload_n 0, 1), (28, .getfield 28, 3), (31, .iload_n 1, 1), (32, .bipush 24, 2), (34, .imul, 1), (35, .iload_n 3, 1), (36, .iadd, 1), (37, .baload, 1), (38, .ifCond .ne 5, 3), (41, .iconst 0, 1), (42, .ireturn, 1), (43, .aload_n 0, 1), (44, .getfield 25, 3), (47, .iload_n 3, 1), (48, .iaload, 1), (49, .istore_n 3, 1), (50, .iinc 4 (-1), 3), (53, .goto (-31), 3), (56, .iconst 1, 1), (57, .ireturn, 1)]
/-- RuleCompletion$PathOrder.isAboveAllTerms(II)Z -/
def ai_m66 : ai_M := (6, ⟨"RuleCompletion$PathOrder", "isAboveAllTerms", "(II)Z"⟩, prog_7_method_6_code, 5, (some .boolean), ai_i66, [], [], 1, 21)
def ai_i67 : List (Nat × Instr × Nat) := [(0, .iload_n 1, 1), (1, .iconst 1, 1), (2, .iadd, 1), (3, .istore_n 3, 1), (4, .iload_n 2, 1), (5, .iconst 1, 1), (6, .iadd, 1), (7, .istore 4, 2), (9, .aload_n 0, 1), (10, .getfield 32, 3), (13, .aload_n 0, 1), (14, .getfield 12, 3), (17, .getfield 48, 3), (20, .iload_n 1, 1), (21, .caload, 1), (22, .invokevirtual 69, 3), (25, .istore 5, 2), (27, .iload 5, 2), (29, .ifCond .le 48, 3), (32, .aload_n 0, 1), (33, .iload_n 3, 1), (34, .iload 4, 2), (36, .invokevirtual 73, 3), (39, .ifCond .ne 16, 3), (42, .aload_n 0, 1), (43, .getfield 28, 3), (46, .iload_n 3, 1), (47, .bipush 24, 2), (49, .imul, 1), (50, .iload 4, 2), (52, .iadd, 1), (53, .baload, 1), (54, .ireturn, 1), (55, .aload_n 0, 1), (56, .getfield 21, 3), (59, .iload_n 3, 1), (60, .iaload, 1), (61, .istore_n 3, 1), (62, .aload_n 0, 1), (63, .getfield 25, 3), (66, .iload 4, 2), (68, .iaload, 1), (69, .istore 4, 2), (71, .iinc 5 (-1), 3), (74, .goto (-47), 3), (77, .iconst 0, 1), (78, .ireturn, 1)]
/-- RuleCompletion$PathOrder.isAboveInFirstDifference(II)Z -/
def ai_m67 : ai_M := (6, ⟨"RuleCompletion$PathOrder", "isAboveInFirstDifference", "(II)Z"⟩, prog_7_method_7_code, 6, (some .boolean), ai_i67, [], [], 2, 48)
def ai_i68 : List (Nat × Instr × Nat) := [(0, .aload_n 0, 1), (1, .invokespecial 3, 3), (4, .aload_n 0, 1), (5, .bipush 12, 2), (7, .newarray .int, 2), (9, .putfield 9, 3), (12, .aload_n 0, 1), (13, .iconst 0, 1), (14, .putfield 15, 3), (17, .return_, 1)]
/-- RuleCompletion$Renaming.<init>()V -/
def ai_m68 : ai_M := (7, ⟨"RuleCompletion$Renaming", "<init>", "()V"⟩, prog_8_method_1_code, 1, none, ai_i68, [], [], 1, 20)
def ai_i69 : List (Nat × Instr × Nat) := [(0, .aload_n 0, 1), (1, .getfield 9, 3), (4, .iconst 0, 1), (5, .invokestatic 19, 3), (8, .aload_n 0, 1), (9, .iconst 0, 1), (10, .putfield 15, 3), (13, .aload_n 0, 1), (14, .aload_n 1, 1), (15, .getfield 25, 3), (18, .invokevirtual 31, 3), (21, .aload_n 0, 1), (22, .aload_n 1, 1), (23, .getfield 35, 3), (26, .invokevirtual 31, 3), (29, .aload_n 0, 1), (30, .getfield 15, 3), (33, .ireturn, 1)]
/-- RuleCompletion$Renaming.rename(LRuleCompletion$Pair;)I -/
def ai_m69 : ai_M := (7, ⟨"RuleCompletion$Renaming", "rename", "(LRuleCompletion$Pair;)I"⟩, prog_8_method_2_code, 2, (some .int), ai_i69, [], [], 2, 43)
def ai_i70 : List (Nat × Instr × Nat) := [(0, .iconst 0, 1), (1, .istore_n 2, 1), (2, .iload_n 2, 1), (3, .aload_n 1, 1), (4, .getfield 38, 3), (7, .if_icmp .ge 46, 3), (10, .iload_n 2, 1), (11, .bipush 24, 2), (13, .if_icmp .ge 40, 3), (16, .aload_n 1, 1), (17, .getfield 43, 3), (20, .iload_n 2, 1), (21, .caload, 1), (22, .invokestatic 47, 3), (25, .ifCond .eq 22, 3), (28, .aload_n 1, 1), (29, .getfield 43, 3), (32, .iload_n 2, 1), (33, .aload_n 0, 1), (34, .aload_n 1, 1), (35, .getfield 43, 3), (38, .iload_n 2, 1), (39, .caload, 1), (40, .bipush 117, 2), (42, .isub, 1), (43, .invokevirtual 51, 3), (46, .castore, 1), (47, .iinc 2 1, 3), (50, .goto (-48), 3), (53, .return_, 1)]
/-- RuleCompletion$Renaming.renameSide(LRuleCompletion$Term;)V -/
def ai_m70 : ai_M := (7, ⟨"RuleCompletion$Renaming", "renameSide", "(LRuleCompletion$Term;)V"⟩, prog_8_method_3_code, 3, none, ai_i70, [], [], 1, 21)
def ai_i71 : List (Nat × Instr × Nat) := [(0, .aload_n 0, 1), (1, .getfield 9, 3), (4, .iload_n 1, 1), (5, .iaload, 1), (6, .ifCond .ne 23, 3), (9, .aload_n 0, 1), (10, .dup, 1), (11, .getfield 15, 3), (14, .iconst 1, 1), (15, .iadd, 1), (16, .putfield 15, 3), (19, .aload_n 0, 1), (20, .getfield 9, 3), (23, .iload_n 1, 1), (24, .aload_n 0, 1), (25, .getfield 15, 3), (28, .iastore, 1), (29, .bipush 117, 2), (31, .aload_n 0, 1), (32, .getfield 9, 3), (35, .iload_n 1, 1), (36, .iaload, 1), (37, .iadd, 1), (38, .iconst 1, 1), (39, .isub, 1), (40, .i2c, 1), (41, .ireturn, 1)]
/-- RuleCompletion$Renaming.newName(I)C -/
def ai_m71 : ai_M := (7, ⟨"RuleCompletion$Renaming", "newName", "(I)C"⟩, prog_8_method_4_code, 2, (some .char), ai_i71, [], [], 0, 0)
def ai_i72 : List (Nat × Instr × Nat) := [(0, .aload_n 0, 1), (1, .invokespecial 3, 3), (4, .aload_n 0, 1), (5, .bipush 24, 2), (7, .newarray .int, 2), (9, .putfield 9, 3), (12, .aload_n 0, 1), (13, .bipush 6, 2), (15, .newarray .int, 2), (17, .putfield 15, 3), (20, .aload_n 0, 1), (21, .new 18, 3), (24, .dup, 1), (25, .invokespecial 20, 3), (28, .putfield 21, 3), (31, .aload_n 0, 1), (32, .iconst 0, 1), (33, .putfield 25, 3), (36, .aload_n 0, 1), (37, .aload_n 1, 1), (38, .putfield 29, 3), (41, .aload_n 0, 1), (42, .aload_n 2, 1), (43, .putfield 33, 3), (46, .return_, 1)]
/-- RuleCompletion$Rewriter.<init>(LRuleCompletion$Symbols;LRuleCompletion$PairList;)V -/
def ai_m72 : ai_M := (8, ⟨"RuleCompletion$Rewriter", "<init>", "(LRuleCompletion$Symbols;LRuleCompletion$PairList;)V"⟩, prog_9_method_1_code, 3, none, ai_i72, [], [], 2, 40)
def ai_i73 : List (Nat × Instr × Nat) := [(0, .iconst 0, 1), (1, .istore_n 2, 1), (2, .iload_n 2, 1), (3, .bipush 40, 2), (5, .if_icmp .gt 45, 3), (8, .aload_n 1, 1), (9, .invokevirtual 37, 3), (12, .ifCond .ne 38, 3), (15, .aload_n 0, 1), (16, .aload_n 1, 1), (17, .invokevirtual 41, 3), (20, .istore_n 3, 1), (21, .iload_n 3, 1), (22, .ifCond .ge 5, 3), (25, .iload_n 2, 1), (26, .ireturn, 1), (27, .aload_n 0, 1), (28, .aload_n 1, 1), (29, .aload_n 0, 1), (30, .getfield 33, 3), (33, .getfield 45, 3), (36, .iload_n 3, 1), (37, .aaload, 1), (38, .getfield 51, 3), (41, .invokevirtual 56, 3), (44, .iinc 2 1, 3), (47, .goto (-45), 3), (50, .iconst (-1), 1), (51, .ireturn, 1)]
/-- RuleCompletion$Rewriter.toNormalForm(LRuleCompletion$Term;)I -/
def ai_m73 : ai_M := (8, ⟨"RuleCompletion$Rewriter", "toNormalForm", "(LRuleCompletion$Term;)I"⟩, prog_9_method_2_code, 4, (some .int), ai_i73, [], [], 3, 114)
def ai_i74 : List (Nat × Instr × Nat) := [(0, .aload_n 0, 1), (1, .getfield 29, 3), (4, .aload_n 1, 1), (5, .getfield 60, 3), (8, .iconst 0, 1), (9, .aload_n 1, 1), (10, .getfield 64, 3), (13, .aload_n 0, 1), (14, .getfield 9, 3), (17, .invokevirtual 67, 3), (20, .iconst 0, 1), (21, .istore_n 2, 1), (22, .iload_n 2, 1), (23, .aload_n 1, 1), (24, .getfield 64, 3), (27, .if_icmp .ge 56, 3), (30, .iconst 0, 1), (31, .istore_n 3, 1), (32, .iload_n 3, 1), (33, .aload_n 0, 1), (34, .getfield 33, 3), (37, .getfield 77, 3), (40, .if_icmp .ge 37, 3), (43, .aload_n 0, 1), (44, .aload_n 1, 1), (45, .iload_n 2, 1), (46, .aload_n 0, 1), (47, .getfield 33, 3), (50, .getfield 45, 3), (53, .iload_n 3, 1), (54, .aaload, 1), (55, .getfield 80, 3), (58, .invokevirtual 73, 3), (61, .ifCond .eq 10, 3), (64, .aload_n 0, 1), (65, .iload_n 2, 1), (66, .putfield 25, 3), (69, .iload_n 3, 1), (70, .ireturn, 1), (71, .iinc 3 1, 3), (74, .goto (-42), 3), (77, .iinc 2 1, 3), (80, .goto (-58), 3), (83, .iconst (-1), 1), (84, .ireturn, 1)]
/-- RuleCompletion$Rewriter.findRule(LRuleCompletion$Term;)I -/
def ai_m74 : ai_M := (8, ⟨"RuleCompletion$Rewriter", "findRule", "(LRuleCompletion$Term;)I"⟩, prog_9_method_4_code, 4, (some .int), ai_i74, [], [], 2, 53)
def ai_i75 : List (Nat × Instr × Nat) := [(0, .aload_n 1, 1), (1, .getfield 60, 3), (4, .iload_n 2, 1), (5, .caload, 1), (6, .aload_n 3, 1), (7, .getfield 60, 3), (10, .iconst 0, 1), (11, .caload, 1), (12, .if_icmp .eq 5, 3), (15, .iconst 0, 1), (16, .ireturn, 1), (17, .aload_n 0, 1), (18, .getfield 15, 3), (21, .iconst (-1), 1), (22, .invokestatic 83, 3), (25, .iload_n 2, 1), (26, .istore 4, 2), (28, .iconst 0, 1), (29, .istore 5, 2), (31, .iload 5, 2), (33, .aload_n 3, 1), (34, .getfield 64, 3), (37, .if_icmp .ge 132, 3), (40, .aload_n 3, 1), (41, .getfield 60, 3), (44, .iload 5, 2), (46, .caload, 1), (47, .istore 6, 2), (49, .iload 4, 2), (51, .aload_n 1, 1), (52, .getfield 64, 3), (55, .if_icmp .ge 23, 3), (58, .iload 6, 2), (60, .invokestatic 89, 3), (63, .ifCond .ne 17, 3), (66, .iload 6, 2), (68, .aload_n 1, 1), (69, .getfield 60, 3), (72, .iload 4, 2), (74, .caload, 1), (75, .if_icmp .eq 5, 3), (78, .iconst 0, 1), (79, .ireturn, 1), (80, .iload 6, 2), (82, .invokestatic 89, 3), (85, .ifCond .ne 9, 3), (88, .iinc 4 1, 3), (91, .goto 72, 3), (94, .iload 6, 2), (96, .bipush 117, 2), (98, .isub, 1), (99, .istore 7, 2), (101, .aload_n 0, 1), (102, .getfield 9, 3), (105, .iload 4, 2), (107, .iaload, 1), (108, .iload 4, 2), (110, .isub, 1), (111, .istore 8, 2), (113, .aload_n 0, 1), (114, .getfield 15, 3), (117, .iload 7, 2), (119, .iaload, 1), (120, .ifCond .ge 15, 3), (123, .aload_n 0, 1), (124, .getfield 15, 3), (127, .iload 7, 2), (129, .iload 4, 2), (131, .iastore, 1), (132, .goto 24, 3), (135, .aload_n 1, 1), (136, .iload 4, 2), (138, .aload_n 1, 1), (139, .aload_n 0, 1), (140, .getfield 15, 3), (143, .iload 7, 2), (145, .iaload, 1), (146, .iload 8, 2), (148, .invokevirtual 93, 3), (151, .ifCond .ne 5, 3), (154, .iconst 0, 1), (155, .ireturn, 1), (156, .iload 4, 2), (158, .iload 8, 2), (160, .iadd, 1), (161, .istore 4, 2), (163, .iinc 5 1, 3), (166, .goto (-135), 3), (169, .iconst 1, 1), (170, .ireturn, 1)]
/-- RuleCompletion$Rewriter.isInstance(LRuleCompletion$Term;ILRuleCompletion$Term;)Z -/
def ai_m75 : ai_M := (8, ⟨"RuleCompletion$Rewriter", "isInstance", "(LRuleCompletion$Term;ILRuleCompletion$Term;)Z"⟩, prog_9_method_5_code, 9, (some .boolean), ai_i75, [], [], 1, 25)
def ai_i76 : List (Nat × Instr × Nat) := [(0, .aload_n 0, 1), (1, .getfield 21, 3), (4, .iconst 0, 1), (5, .putfield 64, 3), (8, .aload_n 0, 1), (9, .getfield 21, 3), (12, .aload_n 1, 1), (13, .iconst 0, 1), (14, .aload_n 0, 1), (15, .getfield 25, 3), (18, .invokevirtual 97, 3), (21, .iconst 0, 1), (22, .istore_n 3, 1), (23, .iload_n 3, 1), (24, .aload_n 2, 1), (25, .getfield 64, 3), (28, .if_icmp .ge 75, 3), (31, .aload_n 2, 1), (32, .getfield 60, 3), (35, .iload_n 3, 1), (36, .caload, 1), (37, .istore 4, 2), (39, .iload 4, 2), (41, .invokestatic 89, 3), (44, .ifCond .eq 16, 3), (47, .aload_n 0, 1), (48, .getfield 15, 3), (51, .iload 4, 2), (53, .bipush 117, 2), (55, .isub, 1), (56, .iaload, 1), (57, .goto 4, 3), (60, .iconst (-1), 1), (61, .istore 5, 2), (63, .iload 5, 2), (65, .ifCond .lt 23, 3), (68, .aload_n 0, 1), (69, .getfield 21, 3), (72, .aload_n 1, 1), (73, .iload 5, 2), (75, .aload_n 0, 1), (76, .getfield 9, 3), (79, .iload 5, 2), (81, .iaload, 1), (82, .invokevirtual 97, 3), (85, .goto 12, 3), (88, .aload_n 0, 1), (89, .getfield 21, 3), (92, .iload 4, 2), (94, .invokevirtual 101, 3), (97, .iinc 3 1, 3), (100, .goto (-77), 3), (103, .aload_n 0, 1), (104, .getfield 21, 3), (107, .aload_n 1, 1), (108, .aload_n 0, 1), (109, .getfield 9, 3), (112, .aload_n 0, 1), (113, .getfield 25, 3), (116, .iaload, 1), (117, .aload_n 1, 1), (118, .getfield 64, 3), (121, .invokevirtual 97, 3), (124, .aload_n 1, 1), (125, .aload_n 0, 1), (126, .getfield 21, 3), (129, .invokevirtual 105, 3), (132, .return_, 1)]
/-- RuleCompletion$Rewriter.replace(LRuleCompletion$Term;LRuleCompletion$Term;)V -/
def ai_m76 : ai_M := (8, ⟨"RuleCompletion$Rewriter", "replace", "(LRuleCompletion$Term;LRuleCompletion$Term;)V"⟩, prog_9_method_6_code, 6, none, ai_i76, [], [], 2, 89)
def ai_i77 : List (Nat × Instr × Nat) := [(0, .aload_n 0, 1), (1, .getfield 29, 3), (4, .aload_n 1, 1), (5, .getfield 60, 3), (8, .iconst 0, 1), (9, .aload_n 1, 1), (10, .getfield 64, 3), (13, .aload_n 0, 1), (14, .getfield 9, 3), (17, .invokevirtual 67, 3), (20, .iconst 0, 1), (21, .istore_n 3, 1), (22, .iload_n 3, 1), (23, .aload_n 1, 1), (24, .getfield 64, 3), (27, .if_icmp .ge 21, 3), (30, .aload_n 0, 1), (31, .aload_n 1, 1), (32, .iload_n 3, 1), (33, .aload_n 2, 1), (34, .invokevirtual 73, 3), (37, .ifCond .eq 5, 3), (40, .iconst 1, 1), (41, .ireturn, 1), (42, .iinc 3 1, 3), (45, .goto (-23), 3), (48, .iconst 0, 1), (49, .ireturn, 1)]
/-- RuleCompletion$Rewriter.hasInstance(LRuleCompletion$Term;LRuleCompletion$Term;)Z -/
def ai_m77 : ai_M := (8, ⟨"RuleCompletion$Rewriter", "hasInstance", "(LRuleCompletion$Term;LRuleCompletion$Term;)Z"⟩, prog_9_method_3_code, 4, (some .boolean), ai_i77, [], [], 2, 53)
def ai_i78 : List (Nat × Instr × Nat) := [(0, .aload_n 0, 1), (1, .invokespecial 3, 3), (4, .aload_n 0, 1), (5, .sipush 256, 3), (8, .newarray .int, 2), (10, .putfield 9, 3), (13, .aload_n 0, 1), (14, .sipush 256, 3), (17, .newarray .int, 2), (19, .putfield 15, 3), (22, .aload_n 0, 1), (23, .iconst 0, 1), (24, .putfield 18, 3), (27, .return_, 1)]
/-- RuleCompletion$Symbols.<init>()V -/
def ai_m78 : ai_M := (9, ⟨"RuleCompletion$Symbols", "<init>", "()V"⟩, prog_10_method_1_code, 1, none, ai_i78, [], [], 1, 20)
def ai_i79 : List (Nat × Instr × Nat) := [(0, .aload_n 0, 1), (1, .iload_n 1, 1), (2, .invokevirtual 22, 3), (5, .ifCond .le 7, 3), (8, .iconst 1, 1), (9, .goto 4, 3), (12, .iconst 0, 1), (13, .ireturn, 1)]
/-- RuleCompletion$Symbols.has(C)Z -/
def ai_m79 : ai_M := (9, ⟨"RuleCompletion$Symbols", "has", "(C)Z"⟩, prog_10_method_3_code, 2, (some .boolean), ai_i79, [], [], 1, 21)
def ai_i80 : List (Nat × Instr × Nat) := [(0, .iload_n 1, 1), (1, .sipush 256, 3), (4, .if_icmp .ge 12, 3), (7, .aload_n 0, 1), (8, .getfield 15, 3), (11, .iload_n 1, 1), (12, .iaload, 1), (13, .goto 4, 3), (16, .iconst 0, 1), (17, .ireturn, 1)]
/-- RuleCompletion$Symbols.rankOf(C)I -/
def ai_m80 : ai_M := (9, ⟨"RuleCompletion$Symbols", "rankOf", "(C)I"⟩, prog_10_method_4_code, 2, (some .int), ai_i80, [], [], 0, 0)
def ai_i81 : List (Nat × Instr × Nat) := [(0, .iload_n 1, 1), (1, .sipush 256, 3), (4, .if_icmp .ge 30, 3), (7, .aload_n 0, 1), (8, .dup, 1), (9, .getfield 18, 3), (12, .iconst 1, 1), (13, .iadd, 1), (14, .putfield 18, 3), (17, .aload_n 0, 1), (18, .getfield 15, 3), (21, .iload_n 1, 1), (22, .aload_n 0, 1), (23, .getfield 18, 3), (26, .iastore, 1), (27, .aload_n 0, 1), (28, .getfield 9, 3), (31, .iload_n 1, 1), (32, .iload_n 2, 1), (33, .iastore, 1), (34, .return_, 1)]
/-- RuleCompletion$Symbols.enter(CI)V -/
def ai_m81 : ai_M := (9, ⟨"RuleCompletion$Symbols", "enter", "(CI)V"⟩, prog_10_method_2_code, 3, none, ai_i81, [], [], 0, 0)
def ai_i82 : List (Nat × Instr × Nat) := [(0, .iload_n 1, 1), (1, .sipush 256, 3), (4, .if_icmp .ge 12, 3), (7, .aload_n 0, 1), (8, .getfield 9, 3), (11, .iload_n 1, 1), (12, .iaload, 1), (13, .goto 4, 3), (16, .iconst 0, 1), (17, .ireturn, 1)]
/-- RuleCompletion$Symbols.placesOf(C)I -/
def ai_m82 : ai_M := (9, ⟨"RuleCompletion$Symbols", "placesOf", "(C)I"⟩, prog_10_method_5_code, 2, (some .int), ai_i82, [], [], 0, 0)
def ai_i83 : List (Nat × Instr × Nat) := [(0, .iload_n 3, 1), (1, .iconst 1, 1), (2, .isub, 1), (3, .istore 5, 2), (5, .iload 5, 2), (7, .iload_n 2, 1), (8, .if_icmp .lt 56, 3), (11, .iload 5, 2), (13, .iconst 1, 1), (14, .iadd, 1), (15, .istore 6, 2), (17, .aload_n 0, 1), (18, .aload_n 1, 1), (19, .iload 5, 2), (21, .caload, 1), (22, .invokevirtual 26, 3), (25, .istore 7, 2), (27, .iload 7, 2), (29, .ifCond .le 22, 3), (32, .iload 6, 2), (34, .iload_n 3, 1), (35, .if_icmp .ge 16, 3), (38, .aload 4, 2), (40, .iload 6, 2), (42, .iaload, 1), (43, .istore 6, 2), (45, .iinc 7 (-1), 3), (48, .goto (-21), 3), (51, .aload 4, 2), (53, .iload 5, 2), (55, .iload 6, 2), (57, .iastore, 1), (58, .iinc 5 (-1), 3), (61, .goto (-56), 3), (64, .return_, 1)]
/-- RuleCompletion$Symbols.findEnds([CII[I)V -/
def ai_m83 : ai_M := (9, ⟨"RuleCompletion$Symbols", "findEnds", "([CII[I)V"⟩, prog_10_method_6_code, 8, none, ai_i83, [], [], 1, 21)
def ai_i84 : List (Nat × Instr × Nat) := [(0, .aload_n 0, 1), (1, .invokespecial 3, 3), (4, .aload_n 0, 1), (5, .bipush 24, 2), (7, .newarray .char, 2), (9, .putfield 9, 3), (12, .aload_n 0, 1), (13, .iconst 0, 1), (14, .putfield 15, 3), (17, .return_, 1)]
/-- RuleCompletion$Term.<init>()V -/
def ai_m84 : ai_M := (10, ⟨"RuleCompletion$Term", "<init>", "()V"⟩, prog_11_method_1_code, 1, none, ai_i84, [], [], 1, 20)
def ai_i85 : List (Nat × Instr × Nat) := [(0, .aload_n 0, 1), (1, .getfield 15, 3), (4, .bipush 24, 2), (6, .if_icmp .ge 13, 3), (9, .aload_n 0, 1), (10, .getfield 9, 3), (13, .aload_n 0, 1), (14, .getfield 15, 3), (17, .iload_n 1, 1), (18, .castore, 1), (19, .aload_n 0, 1), (20, .getfield 15, 3), (23, .bipush 24, 2), (25, .if_icmp .gt 13, 3), (28, .aload_n 0, 1), (29, .dup, 1), (30, .getfield 15, 3), (33, .iconst 1, 1), (34, .iadd, 1), (35, .putfield 15, 3), (38, .return_, 1)]
/-- RuleCompletion$Term.append(C)V -/
def ai_m85 : ai_M := (10, ⟨"RuleCompletion$Term", "append", "(C)V"⟩, prog_11_method_3_code, 2, none, ai_i85, [], [], 0, 0)
def ai_i86 : List (Nat × Instr × Nat) := [(0, .aload_n 0, 1), (1, .getfield 15, 3), (4, .bipush 24, 2), (6, .if_icmp .le 7, 3), (9, .iconst 1, 1), (10, .goto 4, 3), (13, .iconst 0, 1), (14, .ireturn, 1)]
/-- RuleCompletion$Term.isTooLong()Z -/
def ai_m86 : ai_M := (10, ⟨"RuleCompletion$Term", "isTooLong", "()Z"⟩, prog_11_method_2_code, 1, (some .boolean), ai_i86, [], [], 0, 0)
def ai_i87 : List (Nat × Instr × Nat) := [(0, .aload_n 1, 1), (1, .getfield 9, 3), (4, .iconst 0, 1), (5, .aload_n 0, 1), (6, .getfield 9, 3), (9, .iconst 0, 1), (10, .bipush 24, 2), (12, .invokestatic 23, 3), (15, .aload_n 0, 1), (16, .aload_n 1, 1), (17, .getfield 15, 3), (20, .putfield 15, 3), (23, .return_, 1)]
/-- RuleCompletion$Term.copy(LRuleCompletion$Term;)V -/
def ai_m87 : ai_M := (10, ⟨"RuleCompletion$Term", "copy", "(LRuleCompletion$Term;)V"⟩, prog_11_method_5_code, 2, none, ai_i87, [], [], 1, 68)
def ai_i88 : List (Nat × Instr × Nat) := [(0, .iload_n 1, 1), (1, .iload 4, 2), (3, .iadd, 1), (4, .bipush 24, 2), (6, .if_icmp .gt 12, 3), (9, .iload_n 3, 1), (10, .iload 4, 2), (12, .iadd, 1), (13, .bipush 24, 2), (15, .if_icmp .le 5, 3), (18, .iconst 0, 1), (19, .ireturn, 1), (20, .iconst 0, 1), (21, .istore 5, 2), (23, .iload 5, 2), (25, .iload 4, 2), (27, .if_icmp .ge 32, 3), (30, .aload_n 0, 1), (31, .getfield 9, 3), (34, .iload_n 1, 1), (35, .iload 5, 2), (37, .iadd, 1), (38, .caload, 1), (39, .aload_n 2, 1), (40, .getfield 9, 3), (43, .iload_n 3, 1), (44, .iload 5, 2), (46, .iadd, 1), (47, .caload, 1), (48, .if_icmp .eq 5, 3), (51, .iconst 0, 1), (52, .ireturn, 1), (53, .iinc 5 1, 3), (56, .goto (-33), 3), (59, .iconst 1, 1), (60, .ireturn, 1)]
/-- RuleCompletion$Term.isSamePart(ILRuleCompletion$Term;II)Z -/
def ai_m88 : ai_M := (10, ⟨"RuleCompletion$Term", "isSamePart", "(ILRuleCompletion$Term;II)Z"⟩, prog_11_method_7_code, 6, (some .boolean), ai_i88, [], [], 0, 0)
def ai_i89 : List (Nat × Instr × Nat) := [(0, .iload_n 2, 1), (1, .istore 4, 2), (3, .iload 4, 2), (5, .iload_n 3, 1), (6, .if_icmp .ge 27, 3), (9, .iload 4, 2), (11, .bipush 24, 2), (13, .if_icmp .ge 20, 3), (16, .aload_n 0, 1), (17, .aload_n 1, 1), (18, .getfield 9, 3), (21, .iload 4, 2), (23, .caload, 1), (24, .invokevirtual 19, 3), (27, .iinc 4 1, 3), (30, .goto (-27), 3), (33, .return_, 1)]
/-- RuleCompletion$Term.appendPart(LRuleCompletion$Term;II)V -/
def ai_m89 : ai_M := (10, ⟨"RuleCompletion$Term", "appendPart", "(LRuleCompletion$Term;II)V"⟩, prog_11_method_4_code, 5, none, ai_i89, [], [], 1, 21)
def ai_i90 : List (Nat × Instr × Nat) := [(0, .aload_n 0, 1), (1, .getfield 15, 3), (4, .aload_n 1, 1), (5, .getfield 15, 3), (8, .if_icmp .ne 21, 3), (11, .aload_n 0, 1), (12, .iconst 0, 1), (13, .aload_n 1, 1), (14, .iconst 0, 1), (15, .aload_n 0, 1), (16, .getfield 15, 3), (19, .invokevirtual 29, 3), (22, .ifCond .eq 7, 3), (25, .iconst 1, 1), (26, .goto 4, 3), (29, .iconst 0, 1), (30, .ireturn, 1)]
/-- RuleCompletion$Term.isSame(LRuleCompletion$Term;)Z -/
def ai_m90 : ai_M := (10, ⟨"RuleCompletion$Term", "isSame", "(LRuleCompletion$Term;)Z"⟩, prog_11_method_6_code, 2, (some .boolean), ai_i90, [], [], 1, 25)
def ai_i91 : List (Nat × Instr × Nat) := [(0, .aload_n 0, 1), (1, .iload_n 1, 1), (2, .iload_n 2, 1), (3, .invokevirtual 7, 3), (6, .goto 9, 3), (9, .astore_n 3, 1), (10, .iconst 1, 1), (11, .ireturn, 1), (12, .astore_n 3, 1), (13, .iconst 2, 1), (14, .ireturn, 1), (15, .iconst 0, 1), (16, .ireturn, 1)]
/-- RuleCompletionLaw.declare(LRuleCompletion;CI)I -/
def ai_m91 : ai_M := (11, ⟨"RuleCompletionLaw", "declare", "(LRuleCompletion;CI)I"⟩, method_3_code, 4, (some .int), ai_i91, [(0, 6, 9, 13, "java/lang/IllegalArgumentException"), (0, 6, 12, 15, "java/lang/IllegalStateException")], [], 7, 112)
def ai_i92 : List (Nat × Instr × Nat) := [(0, .aload_n 1, 1), (1, .iconst 0, 1), (2, .aload_n 0, 1), (3, .invokevirtual 17, 3), (6, .i2l, 1), (7, .lastore, 1), (8, .goto 9, 3), (11, .astore_n 2, 1), (12, .iconst 1, 1), (13, .ireturn, 1), (14, .astore_n 2, 1), (15, .iconst 2, 1), (16, .ireturn, 1), (17, .iconst 0, 1), (18, .ireturn, 1)]
/-- RuleCompletionLaw.equation(LRuleCompletion;[J)I -/
def ai_m92 : ai_M := (11, ⟨"RuleCompletionLaw", "equation", "(LRuleCompletion;[J)I"⟩, method_4_code, 3, (some .int), ai_i92, [(0, 8, 11, 13, "java/lang/IllegalArgumentException"), (0, 8, 14, 15, "java/lang/IllegalStateException")], [], 7, 172)
def ai_i93 : List (Nat × Instr × Nat) := [(0, .aload_n 2, 1), (1, .iconst 0, 1), (2, .aload_n 0, 1), (3, .iload_n 1, 1), (4, .invokevirtual 21, 3), (7, .i2l, 1), (8, .lastore, 1), (9, .goto 6, 3), (12, .astore_n 3, 1), (13, .iconst 1, 1), (14, .ireturn, 1), (15, .iconst 0, 1), (16, .ireturn, 1)]
/-- RuleCompletionLaw.complete(LRuleCompletion;I[J)I -/
def ai_m93 : ai_M := (11, ⟨"RuleCompletionLaw", "complete", "(LRuleCompletion;I[J)I"⟩, method_5_code, 4, (some .int), ai_i93, [(0, 9, 12, 13, "java/lang/IllegalArgumentException")], [], 8, 226)
def ai_i94 : List (Nat × Instr × Nat) := [(0, .aload_n 1, 1), (1, .iconst 0, 1), (2, .aload_n 0, 1), (3, .invokevirtual 25, 3), (6, .i2l, 1), (7, .lastore, 1), (8, .goto 9, 3), (11, .astore_n 2, 1), (12, .iconst 1, 1), (13, .ireturn, 1), (14, .astore_n 2, 1), (15, .iconst 2, 1), (16, .ireturn, 1), (17, .iconst 0, 1), (18, .ireturn, 1)]
/-- RuleCompletionLaw.normalize(LRuleCompletion;[J)I -/
def ai_m94 : ai_M := (11, ⟨"RuleCompletionLaw", "normalize", "(LRuleCompletion;[J)I"⟩, method_6_code, 3, (some .int), ai_i94, [(0, 8, 11, 13, "java/lang/IllegalArgumentException"), (0, 8, 14, 28, "java/lang/UnsupportedOperationException")], [], 7, 159)
def ai_i95 : List (Nat × Instr × Nat) := [(0, .aload_n 1, 1), (1, .iconst 0, 1), (2, .aload_n 0, 1), (3, .invokevirtual 30, 3), (6, .i2l, 1), (7, .lastore, 1), (8, .goto 6, 3), (11, .astore_n 2, 1), (12, .iconst 1, 1), (13, .ireturn, 1), (14, .iconst 0, 1), (15, .ireturn, 1)]
/-- RuleCompletionLaw.compare(LRuleCompletion;[J)I -/
def ai_m95 : ai_M := (11, ⟨"RuleCompletionLaw", "compare", "(LRuleCompletion;[J)I"⟩, method_7_code, 3, (some .int), ai_i95, [(0, 8, 11, 13, "java/lang/IllegalArgumentException")], [], 7, 163)
def ai_i96 : List (Nat × Instr × Nat) := [(0, .aload_n 0, 1), (1, .invokespecial 1, 3), (4, .aload_n 0, 1), (5, .bipush 8, 2), (7, .newarray .int, 2), (9, .putfield 7, 3), (12, .aload_n 0, 1), (13, .bipush 8, 2), (15, .newarray .int, 2), (17, .putfield 13, 3), (20, .aload_n 0, 1), (21, .bipush 60, 2), (23, .newarray .int, 2), (25, .putfield 16, 3), (28, .aload_n 0, 1), (29, .sipush 720, 3), (32, .newarray .int, 2), (34, .putfield 19, 3), (37, .aload_n 0, 1), (38, .bipush 15, 2), (40, .newarray .int, 2), (42, .putfield 22, 3), (45, .aload_n 0, 1), (46, .bipush 15, 2), (48, .newarray .int, 2), (50, .putfield 25, 3), (53, .aload_n 0, 1), (54, .sipush 2976, 3), (57, .newarray .int, 2), (59, .putfield 28, 3), (62, .aload_n 0, 1), (63, .bipush 62, 2), (65, .newarray .int, 2), (67, .putfield 31, 3), (70, .aload_n 0, 1), (71, .bipush 62, 2), (73, .newarray .int, 2), (75, .putfield 34, 3), (78, .aload_n 0, 1), (79, .sipush 192, 3), (82, .newarray .int, 2), (84, .putfield 37, 3), (87, .aload_n 0, 1), (88, .iconst 3, 1), (89, .newarray .int, 2), (91, .putfield 40, 3), (94, .aload_n 0, 1), (95, .bipush 20, 2), (97, .newarray .int, 2), (99, .putfield 43, 3), (102, .aload_n 0, 1), (103, .bipush 20, 2), (105, .newarray .int, 2), (107, .putfield 46, 3), (110, .aload_n 0, 1), (111, .sipush 128, 3), (114, .newarray .int, 2), (116, .putfield 49, 3), (119, .aload_n 0, 1), (120, .bipush 20, 2), (122, .newarray .int, 2), (124, .putfield 52, 3), (127, .aload_n 0, 1), (128, .sipush 400, 3), (131, .newarray .int, 2), (133, .putfield 55, 3), (136, .aload_n 0, 1), (137, .sipush 400, 3), (140, .newarray .int, 2), (142, .putfield 58, 3), (145, .aload_n 0, 1), (146, .bipush 20, 2), (148, .newarray .int, 2), (150, .putfield 61, 3), (153, .aload_n 0, 1), (154, .sipush 576, 3), (157, .newarray .boolean, 2), (159, .putfield 64, 3), (162, .iconst 0, 1), (163, .istore_n 1, 1), (164, .iload_n 1, 1), (165, .bipush 8, 2), (167, .if_icmp .ge 16, 3), (170, .aload_n 0, 1), (171, .getfield 7, 3), (174, .iload_n 1, 1), (175, .iconst (-1), 1), (176, .iastore, 1), (177, .iinc 1 1, 3), (180, .goto (-16), 3), (183, .return_, 1)]
/-- RuleCompletionModel.<init>()V -/
def ai_m96 : ai_M := (12, ⟨"RuleCompletionModel", "<init>", "()V"⟩, prog_13_method_1_code, 2, none, ai_i96, [], [], 1, 20)
def ai_i97 : List (Nat × Instr × Nat) := [(0, .aload_n 0, 1), (1, .getfield 68, 3), (4, .ireturn, 1)]
/-- RuleCompletionModel.thrown()I -/
def ai_m97 : ai_M := (12, ⟨"RuleCompletionModel", "thrown", "()I"⟩, prog_13_method_3_code, 1, (some .int), ai_i97, [], [], 0, 0)
def ai_i98 : List (Nat × Instr × Nat) := [(0, .iload_n 1, 1), (1, .bipush 97, 2), (3, .isub, 1), (4, .istore_n 3, 1), (5, .iload_n 3, 1), (6, .ifCond .lt 18, 3), (9, .iload_n 3, 1), (10, .bipush 7, 2), (12, .if_icmp .gt 12, 3), (15, .iload_n 2, 1), (16, .ifCond .lt 8, 3), (19, .iload_n 2, 1), (20, .iconst 2, 1), (21, .if_icmp .le 7, 3), (24, .iconst 1, 1), (25, .goto 4, 3), (28, .iconst 0, 1), (29, .istore 4, 2), (31, .aload_n 0, 1), (32, .iload 4, 2), (34, .iload 4, 2), (36, .ifCond .ne 16, 3), (39, .aload_n 0, 1), (40, .getfield 7, 3), (43, .iload_n 3, 1), (44, .iaload, 1), (45, .ifCond .lt 7, 3), (48, .iconst 1, 1), (49, .goto 4, 3), (52, .iconst 0, 1), (53, .invokevirtual 72, 3), (56, .ifCond .eq 4, 3), (59, .return_, 1), (60, .aload_n 0, 1), (61, .getfield 7, 3), (64, .iload_n 3, 1), (65, .iload_n 2, 1), (66, .iastore, 1), (67, .aload_n 0, 1), (68, .getfield 13, 3), (71, .iload_n 3, 1), (72, .aload_n 0, 1), (73, .getfield 76, 3), (76, .iastore, 1), (77, .aload_n 0, 1), (78, .dup, 1), (79, .getfield 76, 3), (82, .iconst 1, 1), (83, .iadd, 1), (84, .putfield 76, 3), (87, .return_, 1)]
/-- RuleCompletionModel.declare(CI)V -/
def ai_m98 : ai_M := (12, ⟨"RuleCompletionModel", "declare", "(CI)V"⟩, prog_13_method_4_code, 5, none, ai_i98, [], [], 1, 22)
def ai_i99 : List (Nat × Instr × Nat) := [(0, .aload_n 0, 1), (1, .iload_n 1, 1), (2, .ifCond .eq 7, 3), (5, .iconst 1, 1), (6, .goto 12, 3), (9, .iload_n 2, 1), (10, .ifCond .eq 7, 3), (13, .iconst 2, 1), (14, .goto 4, 3), (17, .iconst 0, 1), (18, .putfield 68, 3), (21, .aload_n 0, 1), (22, .getfield 68, 3), (25, .ifCond .le 7, 3), (28, .iconst 1, 1), (29, .goto 4, 3), (32, .iconst 0, 1), (33, .ireturn, 1)]
/-- RuleCompletionModel.refuses(ZZ)Z -/
def ai_m99 : ai_M := (12, ⟨"RuleCompletionModel", "refuses", "(ZZ)Z"⟩, prog_13_method_2_code, 3, (some .boolean), ai_i99, [], [], 0, 0)
def ai_i100 : List (Nat × Instr × Nat) := [(0, .aload_n 0, 1), (1, .iconst 0, 1), (2, .putfield 68, 3), (5, .iconst 0, 1), (6, .istore_n 3, 1), (7, .iconst 0, 1), (8, .istore 4, 2), (10, .iload 4, 2), (12, .bipush 8, 2), (14, .if_icmp .ge 26, 3), (17, .iload_n 3, 1), (18, .lload_n 1, 1), (19, .iload 4, 2), (21, .invokestatic 81, 3), (24, .ifCond .ne 7, 3), (27, .iconst 0, 1), (28, .goto 4, 3), (31, .iconst 1, 1), (32, .iadd, 1), (33, .istore_n 3, 1), (34, .iinc 4 1, 3), (37, .goto (-27), 3), (40, .aload_n 0, 1), (41, .getfield 85, 3), (44, .iload_n 3, 1), (45, .iadd, 1), (46, .bipush 60, 2), (48, .if_icmp .le 5, 3), (51, .iconst 0, 1), (52, .ireturn, 1), (53, .iconst 0, 1), (54, .istore 4, 2), (56, .iload 4, 2), (58, .bipush 8, 2), (60, .if_icmp .ge 43, 3), (63, .lload_n 1, 1), (64, .iload 4, 2), (66, .invokestatic 81, 3), (69, .ifCond .eq 28, 3), (72, .aload_n 0, 1), (73, .getfield 16, 3), (76, .aload_n 0, 1), (77, .getfield 85, 3), (80, .lload_n 1, 1), (81, .iload 4, 2), (83, .invokestatic 81, 3), (86, .iastore, 1), (87, .aload_n 0, 1), (88, .dup, 1), (89, .getfield 85, 3), (92, .iconst 1, 1), (93, .iadd, 1), (94, .putfield 85, 3), (97, .iinc 4 1, 3), (100, .goto (-44), 3), (103, .iconst 1, 1), (104, .ireturn, 1)]
/-- RuleCompletionModel.write(J)Z -/
def ai_m100 : ai_M := (12, ⟨"RuleCompletionModel", "write", "(J)Z"⟩, prog_13_method_6_code, 5, (some .boolean), ai_i100, [], [], 1, 22)
def ai_i101 : List (Nat × Instr × Nat) := [(0, .lload_n 0, 1), (1, .bipush 8, 2), (3, .iload_n 2, 1), (4, .imul, 1), (5, .lshr, 1), (6, .ldc2_w 79, 3), (9, .land, 1), (10, .l2i, 1), (11, .ireturn, 1)]
/-- RuleCompletionModel.byteOf(JI)I -/
def ai_m101 : ai_M := (12, ⟨"RuleCompletionModel", "byteOf", "(JI)I"⟩, prog_13_method_5_code, 3, (some .int), ai_i101, [], [], 0, 0)
def ai_i102 : List (Nat × Instr × Nat) := [(0, .aload_n 0, 1), (1, .iconst 0, 1), (2, .putfield 68, 3), (5, .aload_n 0, 1), (6, .iconst 0, 1), (7, .putfield 85, 3), (10, .return_, 1)]
/-- RuleCompletionModel.wipe()V -/
def ai_m102 : ai_M := (12, ⟨"RuleCompletionModel", "wipe", "()V"⟩, prog_13_method_7_code, 1, none, ai_i102, [], [], 0, 0)
def ai_i103 : List (Nat × Instr × Nat) := [(0, .aload_n 0, 1), (1, .iconst 0, 1), (2, .putfield 68, 3), (5, .iload_n 1, 1), (6, .ifCond .lt 21, 3), (9, .iload_n 1, 1), (10, .aload_n 0, 1), (11, .getfield 85, 3), (14, .if_icmp .ge 13, 3), (17, .aload_n 0, 1), (18, .getfield 16, 3), (21, .iload_n 1, 1), (22, .iaload, 1), (23, .i2c, 1), (24, .goto 4, 3), (27, .iconst 0, 1), (28, .ireturn, 1)]
/-- RuleCompletionModel.draft(I)C -/
def ai_m103 : ai_M := (12, ⟨"RuleCompletionModel", "draft", "(I)C"⟩, prog_13_method_8_code, 2, (some .char), ai_i103, [], [], 0, 0)
def ai_i104 : List (Nat × Instr × Nat) := [(0, .aload_n 0, 1), (1, .invokevirtual 235, 3), (4, .istore_n 1, 1), (5, .aload_n 0, 1), (6, .iload_n 1, 1), (7, .ifCond .ne 7, 3), (10, .iconst 1, 1), (11, .goto 4, 3), (14, .iconst 0, 1), (15, .aload_n 0, 1), (16, .getfield 106, 3), (19, .bipush 48, 2), (21, .if_icmp .eq 10, 3), (24, .aload_n 0, 1), (25, .getfield 150, 3), (28, .ifCond .eq 7, 3), (31, .iconst 1, 1), (32, .goto 4, 3), (35, .iconst 0, 1), (36, .invokevirtual 72, 3), (39, .ifCond .eq 5, 3), (42, .iconst 0, 1), (43, .ireturn, 1), (44, .aload_n 0, 1), (45, .invokevirtual 157, 3), (48, .istore_n 2, 1), (49, .aload_n 0, 1), (50, .aload_n 0, 1), (51, .getfield 106, 3), (54, .invokevirtual 168, 3), (57, .aload_n 0, 1), (58, .dup, 1), (59, .getfield 106, 3), (62, .iconst 1, 1), (63, .iadd, 1), (64, .putfield 106, 3), (67, .aload_n 0, 1), (68, .getfield 106, 3), (71, .ireturn, 1)]
/-- RuleCompletionModel.equation()I -/
def ai_m104 : ai_M := (12, ⟨"RuleCompletionModel", "equation", "()I"⟩, prog_13_method_52_code, 3, (some .int), ai_i104, [], [], 3, 69)
def ai_i105 : List (Nat × Instr × Nat) := [(0, .iconst 0, 1), (1, .istore_n 1, 1), (2, .iload_n 1, 1), (3, .aload_n 0, 1), (4, .getfield 85, 3), (7, .if_icmp .ge 20, 3), (10, .aload_n 0, 1), (11, .getfield 16, 3), (14, .iload_n 1, 1), (15, .iaload, 1), (16, .bipush 61, 2), (18, .if_icmp .eq 9, 3), (21, .iinc 1 1, 3), (24, .goto (-22), 3), (27, .iload_n 1, 1), (28, .aload_n 0, 1), (29, .getfield 85, 3), (32, .if_icmp .ge 32, 3), (35, .aload_n 0, 1), (36, .iconst 0, 1), (37, .iload_n 1, 1), (38, .iconst 0, 1), (39, .invokevirtual 99, 3), (42, .ifCond .eq 22, 3), (45, .aload_n 0, 1), (46, .iload_n 1, 1), (47, .iconst 1, 1), (48, .iadd, 1), (49, .aload_n 0, 1), (50, .getfield 85, 3), (53, .iconst 1, 1), (54, .invokevirtual 99, 3), (57, .ifCond .eq 7, 3), (60, .iconst 1, 1), (61, .goto 4, 3), (64, .iconst 0, 1), (65, .ireturn, 1)]
/-- RuleCompletionModel.readsPair()Z -/
def ai_m105 : ai_M := (12, ⟨"RuleCompletionModel", "readsPair", "()Z"⟩, prog_13_method_13_code, 2, (some .boolean), ai_i105, [], [], 2, 48)
def ai_i106 : List (Nat × Instr × Nat) := [(0, .iconst 1, 1), (1, .istore 4, 2), (3, .aload_n 0, 1), (4, .getfield 40, 3), (7, .iload_n 3, 1), (8, .iconst 0, 1), (9, .iastore, 1), (10, .iload_n 1, 1), (11, .istore 5, 2), (13, .iload 5, 2), (15, .iload_n 2, 1), (16, .if_icmp .ge 65, 3), (19, .aload_n 0, 1), (20, .aload_n 0, 1), (21, .getfield 16, 3), (24, .iload 5, 2), (26, .iaload, 1), (27, .invokevirtual 88, 3), (30, .istore 6, 2), (32, .iload 6, 2), (34, .ifCond .lt 19, 3), (37, .iload 4, 2), (39, .ifCond .eq 14, 3), (42, .aload_n 0, 1), (43, .getfield 40, 3), (46, .iload_n 3, 1), (47, .iaload, 1), (48, .bipush 24, 2), (50, .if_icmp .ne 5, 3), (53, .iconst 0, 1), (54, .ireturn, 1), (55, .aload_n 0, 1), (56, .iload_n 3, 1), (57, .iload 6, 2), (59, .invokevirtual 92, 3), (62, .iload 4, 2), (64, .aload_n 0, 1), (65, .iload 6, 2), (67, .invokevirtual 96, 3), (70, .iconst 1, 1), (71, .isub, 1), (72, .iadd, 1), (73, .istore 4, 2), (75, .iinc 5 1, 3), (78, .goto (-65), 3), (81, .iload 4, 2), (83, .ifCond .ne 7, 3), (86, .iconst 1, 1), (87, .goto 4, 3), (90, .iconst 0, 1), (91, .ireturn, 1)]
/-- RuleCompletionModel.reads(III)Z -/
def ai_m106 : ai_M := (12, ⟨"RuleCompletionModel", "reads", "(III)Z"⟩, prog_13_method_12_code, 7, (some .boolean), ai_i106, [], [], 1, 22)
def ai_i107 : List (Nat × Instr × Nat) := [(0, .iload_n 1, 1), (1, .bipush 117, 2), (3, .if_icmp .lt 17, 3), (6, .iload_n 1, 1), (7, .bipush 122, 2), (9, .if_icmp .gt 11, 3), (12, .bipush 8, 2), (14, .iload_n 1, 1), (15, .iadd, 1), (16, .bipush 117, 2), (18, .isub, 1), (19, .ireturn, 1), (20, .iload_n 1, 1), (21, .bipush 97, 2), (23, .if_icmp .lt 28, 3), (26, .iload_n 1, 1), (27, .bipush 104, 2), (29, .if_icmp .gt 22, 3), (32, .aload_n 0, 1), (33, .getfield 7, 3), (36, .iload_n 1, 1), (37, .bipush 97, 2), (39, .isub, 1), (40, .iaload, 1), (41, .ifCond .lt 10, 3), (44, .iload_n 1, 1), (45, .bipush 97, 2), (47, .isub, 1), (48, .goto 4, 3), (51, .iconst (-1), 1), (52, .ireturn, 1)]
/-- RuleCompletionModel.code(I)I -/
def ai_m107 : ai_M := (12, ⟨"RuleCompletionModel", "code", "(I)I"⟩, prog_13_method_9_code, 2, (some .int), ai_i107, [], [], 0, 0)
def ai_i108 : List (Nat × Instr × Nat) := [(0, .aload_n 0, 1), (1, .getfield 40, 3), (4, .iload_n 1, 1), (5, .iaload, 1), (6, .bipush 64, 2), (8, .if_icmp .ge 30, 3), (11, .aload_n 0, 1), (12, .getfield 37, 3), (15, .bipush 64, 2), (17, .iload_n 1, 1), (18, .imul, 1), (19, .aload_n 0, 1), (20, .getfield 40, 3), (23, .iload_n 1, 1), (24, .iaload, 1), (25, .iadd, 1), (26, .iload_n 2, 1), (27, .iastore, 1), (28, .aload_n 0, 1), (29, .getfield 40, 3), (32, .iload_n 1, 1), (33, .dup2, 1), (34, .iaload, 1), (35, .iconst 1, 1), (36, .iadd, 1), (37, .iastore, 1), (38, .return_, 1)]
/-- RuleCompletionModel.put(II)V -/
def ai_m108 : ai_M := (12, ⟨"RuleCompletionModel", "put", "(II)V"⟩, prog_13_method_14_code, 3, none, ai_i108, [], [], 0, 0)
def ai_i109 : List (Nat × Instr × Nat) := [(0, .iload_n 1, 1), (1, .bipush 8, 2), (3, .if_icmp .ge 12, 3), (6, .aload_n 0, 1), (7, .getfield 7, 3), (10, .iload_n 1, 1), (11, .iaload, 1), (12, .goto 4, 3), (15, .iconst 0, 1), (16, .ireturn, 1)]
/-- RuleCompletionModel.placesOf(I)I -/
def ai_m109 : ai_M := (12, ⟨"RuleCompletionModel", "placesOf", "(I)I"⟩, prog_13_method_11_code, 2, (some .int), ai_i109, [], [], 0, 0)
def ai_i110 : List (Nat × Instr × Nat) := [(0, .iconst 0, 1), (1, .istore_n 1, 1), (2, .iconst 0, 1), (3, .istore_n 2, 1), (4, .iload_n 2, 1), (5, .bipush 20, 2), (7, .if_icmp .ge 16, 3), (10, .aload_n 0, 1), (11, .getfield 61, 3), (14, .iload_n 2, 1), (15, .iconst (-1), 1), (16, .iastore, 1), (17, .iinc 2 1, 3), (20, .goto (-16), 3), (23, .iconst 0, 1), (24, .istore_n 2, 1), (25, .iload_n 2, 1), (26, .aload_n 0, 1), (27, .getfield 40, 3), (30, .iconst 0, 1), (31, .iaload, 1), (32, .aload_n 0, 1), (33, .getfield 40, 3), (36, .iconst 1, 1), (37, .iaload, 1), (38, .iadd, 1), (39, .if_icmp .ge 120, 3), (42, .iload_n 2, 1), (43, .aload_n 0, 1), (44, .getfield 40, 3), (47, .iconst 0, 1), (48, .iaload, 1), (49, .if_icmp .ge 7, 3), (52, .iload_n 2, 1), (53, .goto 14, 3), (56, .bipush 64, 2), (58, .iload_n 2, 1), (59, .iadd, 1), (60, .aload_n 0, 1), (61, .getfield 40, 3), (64, .iconst 0, 1), (65, .iaload, 1), (66, .isub, 1), (67, .istore_n 3, 1), (68, .aload_n 0, 1), (69, .getfield 37, 3), (72, .iload_n 3, 1), (73, .iaload, 1), (74, .bipush 8, 2), (76, .isub, 1), (77, .istore 4, 2), (79, .iload 4, 2), (81, .ifCond .lt 72, 3), (84, .aload_n 0, 1), (85, .getfield 61, 3), (88, .iload 4, 2), (90, .iaload, 1), (91, .ifCond .ge 7, 3), (94, .iconst 1, 1), (95, .goto 4, 3), (98, .iconst 0, 1), (99, .istore 5, 2), (101, .aload_n 0, 1), (102, .getfield 61, 3), (105, .iload 4, 2), (107, .iload 5, 2), (109, .ifCond .eq 7, 3), (112, .iload_n 1, 1), (113, .goto 10, 3), (116, .aload_n 0, 1), (117, .getfield 61, 3), (120, .iload 4, 2), (122, .iaload, 1), (123, .iastore, 1), (124, .iload_n 1, 1), (125, .iload 5, 2), (127, .ifCond .eq 7, 3), (130, .iconst 1, 1), (131, .goto 4, 3), (134, .iconst 0, 1), (135, .iadd, 1), (136, .istore_n 1, 1), (137, .aload_n 0, 1), (138, .getfield 37, 3), (141, .iload_n 3, 1), (142, .bipush 8, 2), (144, .aload_n 0, 1), (145, .getfield 61, 3), (148, .iload 4, 2), (150, .iaload, 1), (151, .iadd, 1), (152, .iastore, 1), (153, .iinc 2 1, 3), (156, .goto (-131), 3), (159, .iload_n 1, 1), (160, .ireturn, 1)]
/-- RuleCompletionModel.rename()I -/
def ai_m110 : ai_M := (12, ⟨"RuleCompletionModel", "rename", "()I"⟩, prog_13_method_19_code, 6, (some .int), ai_i110, [], [], 0, 0)
def ai_i111 : List (Nat × Instr × Nat) := [(0, .aload_n 0, 1), (1, .getfield 31, 3), (4, .iload_n 1, 1), (5, .aload_n 0, 1), (6, .getfield 40, 3), (9, .iconst 0, 1), (10, .iaload, 1), (11, .iastore, 1), (12, .aload_n 0, 1), (13, .getfield 34, 3), (16, .iload_n 1, 1), (17, .aload_n 0, 1), (18, .getfield 40, 3), (21, .iconst 1, 1), (22, .iaload, 1), (23, .iastore, 1), (24, .iconst 0, 1), (25, .istore_n 2, 1), (26, .iload_n 2, 1), (27, .aload_n 0, 1), (28, .getfield 40, 3), (31, .iconst 0, 1), (32, .iaload, 1), (33, .if_icmp .ge 26, 3), (36, .aload_n 0, 1), (37, .getfield 28, 3), (40, .bipush 48, 2), (42, .iload_n 1, 1), (43, .imul, 1), (44, .iload_n 2, 1), (45, .iadd, 1), (46, .aload_n 0, 1), (47, .getfield 37, 3), (50, .iload_n 2, 1), (51, .iaload, 1), (52, .iastore, 1), (53, .iinc 2 1, 3), (56, .goto (-30), 3), (59, .iconst 0, 1), (60, .istore_n 2, 1), (61, .iload_n 2, 1), (62, .aload_n 0, 1), (63, .getfield 40, 3), (66, .iconst 1, 1), (67, .iaload, 1), (68, .if_icmp .ge 32, 3), (71, .aload_n 0, 1), (72, .getfield 28, 3), (75, .bipush 48, 2), (77, .iload_n 1, 1), (78, .imul, 1), (79, .bipush 24, 2), (81, .iadd, 1), (82, .iload_n 2, 1), (83, .iadd, 1), (84, .aload_n 0, 1), (85, .getfield 37, 3), (88, .bipush 64, 2), (90, .iload_n 2, 1), (91, .iadd, 1), (92, .iaload, 1), (93, .iastore, 1), (94, .iinc 2 1, 3), (97, .goto (-36), 3), (100, .return_, 1)]
/-- RuleCompletionModel.setPair(I)V -/
def ai_m111 : ai_M := (12, ⟨"RuleCompletionModel", "setPair", "(I)V"⟩, prog_13_method_22_code, 3, none, ai_i111, [], [], 0, 0)
def ai_i112 : List (Nat × Instr × Nat) := [(0, .aload_n 0, 1), (1, .iload_n 1, 1), (2, .ifCond .lt 9, 3), (5, .iload_n 1, 1), (6, .bipush 20, 2), (8, .if_icmp .le 7, 3), (11, .iconst 1, 1), (12, .goto 4, 3), (15, .iconst 0, 1), (16, .iconst 0, 1), (17, .invokevirtual 72, 3), (20, .ifCond .eq 5, 3), (23, .iconst 0, 1), (24, .ireturn, 1), (25, .iconst 0, 1), (26, .istore_n 2, 1), (27, .iload_n 2, 1), (28, .iload_n 1, 1), (29, .if_icmp .ge 27, 3), (32, .aload_n 0, 1), (33, .getfield 106, 3), (36, .ifCond .le 20, 3), (39, .aload_n 0, 1), (40, .getfield 150, 3), (43, .ifCond .ne 13, 3), (46, .aload_n 0, 1), (47, .invokevirtual 238, 3), (50, .iinc 2 1, 3), (53, .goto (-26), 3), (56, .aload_n 0, 1), (57, .getfield 150, 3), (60, .ifCond .eq 10, 3), (63, .aload_n 0, 1), (64, .getfield 150, 3), (67, .goto 15, 3), (70, .aload_n 0, 1), (71, .getfield 106, 3), (74, .ifCond .le 7, 3), (77, .iconst 0, 1), (78, .goto 4, 3), (81, .iconst 1, 1), (82, .ireturn, 1)]
/-- RuleCompletionModel.complete(I)I -/
def ai_m112 : ai_M := (12, ⟨"RuleCompletionModel", "complete", "(I)I"⟩, prog_13_method_53_code, 3, (some .int), ai_i112, [], [], 9, 208)
def ai_i113 : List (Nat × Instr × Nat) := [(0, .aload_n 0, 1), (1, .dup, 1), (2, .getfield 220, 3), (5, .iconst 1, 1), (6, .iadd, 1), (7, .putfield 220, 3), (10, .aload_n 0, 1), (11, .invokevirtual 223, 3), (14, .istore_n 1, 1), (15, .aload_n 0, 1), (16, .iload_n 1, 1), (17, .invokevirtual 214, 3), (20, .aload_n 0, 1), (21, .iload_n 1, 1), (22, .invokevirtual 226, 3), (25, .aload_n 0, 1), (26, .iconst 0, 1), (27, .invokevirtual 147, 3), (30, .ifCond .lt 11, 3), (33, .aload_n 0, 1), (34, .iconst 1, 1), (35, .invokevirtual 147, 3), (38, .ifCond .ge 9, 3), (41, .aload_n 0, 1), (42, .iconst 3, 1), (43, .putfield 150, 3), (46, .return_, 1), (47, .aload_n 0, 1), (48, .iconst 0, 1), (49, .iconst 1, 1), (50, .invokevirtual 153, 3), (53, .ifCond .eq 4, 3), (56, .return_, 1), (57, .aload_n 0, 1), (58, .iconst 0, 1), (59, .iconst 1, 1), (60, .invokevirtual 229, 3), (63, .istore_n 2, 1), (64, .iload_n 2, 1), (65, .ifCond .ne 18, 3), (68, .aload_n 0, 1), (69, .iconst 1, 1), (70, .iconst 0, 1), (71, .invokevirtual 229, 3), (74, .ifCond .ne 9, 3), (77, .aload_n 0, 1), (78, .iconst 2, 1), (79, .putfield 150, 3), (82, .return_, 1), (83, .iload_n 2, 1), (84, .ifCond .ne 7, 3), (87, .aload_n 0, 1), (88, .invokevirtual 165, 3), (91, .aload_n 0, 1), (92, .invokevirtual 157, 3), (95, .istore_n 3, 1), (96, .aload_n 0, 1), (97, .getfield 113, 3), (100, .bipush 14, 2), (102, .if_icmp .ne 9, 3), (105, .aload_n 0, 1), (106, .iconst 3, 1), (107, .putfield 150, 3), (110, .return_, 1), (111, .aload_n 0, 1), (112, .invokevirtual 232, 3), (115, .return_, 1)]
/-- RuleCompletionModel.step()V -/
def ai_m113 : ai_M := (12, ⟨"RuleCompletionModel", "step", "()V"⟩, prog_13_method_51_code, 4, none, ai_i113, [], [], 8, 185)
def ai_i114 : List (Nat × Instr × Nat) := [(0, .iconst 0, 1), (1, .istore_n 1, 1), (2, .iconst 1, 1), (3, .istore_n 2, 1), (4, .iload_n 2, 1), (5, .aload_n 0, 1), (6, .getfield 106, 3), (9, .if_icmp .ge 44, 3), (12, .aload_n 0, 1), (13, .getfield 31, 3), (16, .iload_n 2, 1), (17, .iaload, 1), (18, .aload_n 0, 1), (19, .getfield 34, 3), (22, .iload_n 2, 1), (23, .iaload, 1), (24, .iadd, 1), (25, .aload_n 0, 1), (26, .getfield 31, 3), (29, .iload_n 1, 1), (30, .iaload, 1), (31, .aload_n 0, 1), (32, .getfield 34, 3), (35, .iload_n 1, 1), (36, .iaload, 1), (37, .iadd, 1), (38, .if_icmp .ge 7, 3), (41, .iload_n 2, 1), (42, .goto 4, 3), (45, .iload_n 1, 1), (46, .istore_n 1, 1), (47, .iinc 2 1, 3), (50, .goto (-46), 3), (53, .iload_n 1, 1), (54, .ireturn, 1)]
/-- RuleCompletionModel.lightest()I -/
def ai_m114 : ai_M := (12, ⟨"RuleCompletionModel", "lightest", "()I"⟩, prog_13_method_47_code, 3, (some .int), ai_i114, [], [], 0, 0)
def ai_i115 : List (Nat × Instr × Nat) := [(0, .aload_n 0, 1), (1, .getfield 40, 3), (4, .iconst 0, 1), (5, .aload_n 0, 1), (6, .getfield 31, 3), (9, .iload_n 1, 1), (10, .iaload, 1), (11, .iastore, 1), (12, .aload_n 0, 1), (13, .getfield 40, 3), (16, .iconst 1, 1), (17, .aload_n 0, 1), (18, .getfield 34, 3), (21, .iload_n 1, 1), (22, .iaload, 1), (23, .iastore, 1), (24, .iconst 0, 1), (25, .istore_n 2, 1), (26, .iload_n 2, 1), (27, .aload_n 0, 1), (28, .getfield 40, 3), (31, .iconst 0, 1), (32, .iaload, 1), (33, .if_icmp .ge 26, 3), (36, .aload_n 0, 1), (37, .getfield 37, 3), (40, .iload_n 2, 1), (41, .aload_n 0, 1), (42, .getfield 28, 3), (45, .bipush 48, 2), (47, .iload_n 1, 1), (48, .imul, 1), (49, .iload_n 2, 1), (50, .iadd, 1), (51, .iaload, 1), (52, .iastore, 1), (53, .iinc 2 1, 3), (56, .goto (-30), 3), (59, .iconst 0, 1), (60, .istore_n 2, 1), (61, .iload_n 2, 1), (62, .aload_n 0, 1), (63, .getfield 40, 3), (66, .iconst 1, 1), (67, .iaload, 1), (68, .if_icmp .ge 32, 3), (71, .aload_n 0, 1), (72, .getfield 37, 3), (75, .bipush 64, 2), (77, .iload_n 2, 1), (78, .iadd, 1), (79, .aload_n 0, 1), (80, .getfield 28, 3), (83, .bipush 48, 2), (85, .iload_n 1, 1), (86, .imul, 1), (87, .bipush 24, 2), (89, .iadd, 1), (90, .iload_n 2, 1), (91, .iadd, 1), (92, .iaload, 1), (93, .iastore, 1), (94, .iinc 2 1, 3), (97, .goto (-36), 3), (100, .return_, 1)]
/-- RuleCompletionModel.getPair(I)V -/
def ai_m115 : ai_M := (12, ⟨"RuleCompletionModel", "getPair", "(I)V"⟩, prog_13_method_23_code, 3, none, ai_i115, [], [], 0, 0)
def ai_i116 : List (Nat × Instr × Nat) := [(0, .aload_n 0, 1), (1, .dup, 1), (2, .getfield 106, 3), (5, .iconst 1, 1), (6, .isub, 1), (7, .putfield 106, 3), (10, .iload_n 1, 1), (11, .istore_n 2, 1), (12, .iload_n 2, 1), (13, .aload_n 0, 1), (14, .getfield 106, 3), (17, .if_icmp .ge 76, 3), (20, .aload_n 0, 1), (21, .getfield 31, 3), (24, .iload_n 2, 1), (25, .aload_n 0, 1), (26, .getfield 31, 3), (29, .iload_n 2, 1), (30, .iconst 1, 1), (31, .iadd, 1), (32, .iaload, 1), (33, .iastore, 1), (34, .aload_n 0, 1), (35, .getfield 34, 3), (38, .iload_n 2, 1), (39, .aload_n 0, 1), (40, .getfield 34, 3), (43, .iload_n 2, 1), (44, .iconst 1, 1), (45, .iadd, 1), (46, .iaload, 1), (47, .iastore, 1), (48, .iconst 0, 1), (49, .istore_n 3, 1), (50, .iload_n 3, 1), (51, .bipush 48, 2), (53, .if_icmp .ge 34, 3), (56, .aload_n 0, 1), (57, .getfield 28, 3), (60, .bipush 48, 2), (62, .iload_n 2, 1), (63, .imul, 1), (64, .iload_n 3, 1), (65, .iadd, 1), (66, .aload_n 0, 1), (67, .getfield 28, 3), (70, .bipush 48, 2), (72, .iload_n 2, 1), (73, .imul, 1), (74, .bipush 48, 2), (76, .iadd, 1), (77, .iload_n 3, 1), (78, .iadd, 1), (79, .iaload, 1), (80, .iastore, 1), (81, .iinc 3 1, 3), (84, .goto (-34), 3), (87, .iinc 2 1, 3), (90, .goto (-78), 3), (93, .return_, 1)]
/-- RuleCompletionModel.dropWaiting(I)V -/
def ai_m116 : ai_M := (12, ⟨"RuleCompletionModel", "dropWaiting", "(I)V"⟩, prog_13_method_27_code, 4, none, ai_i116, [], [], 0, 0)
def ai_i117 : List (Nat × Instr × Nat) := [(0, .iconst 0, 1), (1, .istore_n 2, 1), (2, .aload_n 0, 1), (3, .getfield 40, 3), (6, .iload_n 1, 1), (7, .iaload, 1), (8, .bipush 24, 2), (10, .if_icmp .gt 7, 3), (13, .iconst 1, 1), (14, .goto 4, 3), (17, .iconst 0, 1), (18, .istore_n 3, 1), (19, .iload_n 3, 1), (20, .ifCond .eq 40, 3), (23, .aload_n 0, 1), (24, .iload_n 1, 1), (25, .invokevirtual 131, 3), (28, .istore_n 3, 1), (29, .iload_n 2, 1), (30, .iload_n 3, 1), (31, .ifCond .eq 7, 3), (34, .iconst 1, 1), (35, .goto 4, 3), (38, .iconst 0, 1), (39, .iadd, 1), (40, .istore_n 2, 1), (41, .iload_n 2, 1), (42, .bipush 40, 2), (44, .if_icmp .gt 14, 3), (47, .aload_n 0, 1), (48, .getfield 40, 3), (51, .iload_n 1, 1), (52, .iaload, 1), (53, .bipush 24, 2), (55, .if_icmp .le (-36), 3), (58, .iconst (-1), 1), (59, .ireturn, 1), (60, .aload_n 0, 1), (61, .getfield 40, 3), (64, .iload_n 1, 1), (65, .iaload, 1), (66, .bipush 24, 2), (68, .if_icmp .le 7, 3), (71, .iconst (-1), 1), (72, .goto 4, 3), (75, .iload_n 2, 1), (76, .ireturn, 1)]
/-- RuleCompletionModel.normal(I)I -/
def ai_m117 : ai_M := (12, ⟨"RuleCompletionModel", "normal", "(I)I"⟩, prog_13_method_32_code, 4, (some .int), ai_i117, [], [], 4, 95)
def ai_i118 : List (Nat × Instr × Nat) := [(0, .iconst 0, 1), (1, .istore_n 2, 1), (2, .iload_n 2, 1), (3, .aload_n 0, 1), (4, .getfield 40, 3), (7, .iload_n 1, 1), (8, .iaload, 1), (9, .if_icmp .ge 44, 3), (12, .iconst 0, 1), (13, .istore_n 3, 1), (14, .iload_n 3, 1), (15, .aload_n 0, 1), (16, .getfield 113, 3), (19, .if_icmp .ge 28, 3), (22, .aload_n 0, 1), (23, .iload_n 1, 1), (24, .iload_n 2, 1), (25, .iload_n 3, 1), (26, .invokevirtual 124, 3), (29, .ifCond .eq 12, 3), (32, .aload_n 0, 1), (33, .iload_n 1, 1), (34, .iload_n 2, 1), (35, .iload_n 3, 1), (36, .invokevirtual 127, 3), (39, .iconst 1, 1), (40, .ireturn, 1), (41, .iinc 3 1, 3), (44, .goto (-30), 3), (47, .iinc 2 1, 3), (50, .goto (-48), 3), (53, .iconst 0, 1), (54, .ireturn, 1)]
/-- RuleCompletionModel.rewrites(I)Z -/
def ai_m118 : ai_M := (12, ⟨"RuleCompletionModel", "rewrites", "(I)Z"⟩, prog_13_method_31_code, 4, (some .boolean), ai_i118, [], [], 3, 72)
def ai_i119 : List (Nat × Instr × Nat) := [(0, .iconst 0, 1), (1, .istore 4, 2), (3, .iload 4, 2), (5, .bipush 20, 2), (7, .if_icmp .ge 17, 3), (10, .aload_n 0, 1), (11, .getfield 43, 3), (14, .iload 4, 2), (16, .iconst (-1), 1), (17, .iastore, 1), (18, .iinc 4 1, 3), (21, .goto (-18), 3), (24, .iload_n 2, 1), (25, .istore 4, 2), (27, .iconst 0, 1), (28, .istore 5, 2), (30, .iload 5, 2), (32, .aload_n 0, 1), (33, .getfield 22, 3), (36, .iload_n 3, 1), (37, .iaload, 1), (38, .if_icmp .ge 196, 3), (41, .aload_n 0, 1), (42, .getfield 19, 3), (45, .bipush 48, 2), (47, .iload_n 3, 1), (48, .imul, 1), (49, .iload 5, 2), (51, .iadd, 1), (52, .iaload, 1), (53, .bipush 8, 2), (55, .isub, 1), (56, .istore 6, 2), (58, .iload 6, 2), (60, .ifCond .ge 38, 3), (63, .aload_n 0, 1), (64, .getfield 37, 3), (67, .bipush 64, 2), (69, .iload_n 1, 1), (70, .imul, 1), (71, .iload 4, 2), (73, .iadd, 1), (74, .iaload, 1), (75, .aload_n 0, 1), (76, .getfield 19, 3), (79, .bipush 48, 2), (81, .iload_n 3, 1), (82, .imul, 1), (83, .iload 5, 2), (85, .iadd, 1), (86, .iaload, 1), (87, .if_icmp .eq 5, 3), (90, .iconst 0, 1), (91, .ireturn, 1), (92, .iinc 4 1, 3), (95, .goto 133, 3), (98, .aload_n 0, 1), (99, .iload_n 1, 1), (100, .iload 4, 2), (102, .invokevirtual 116, 3), (105, .istore 7, 2), (107, .aload_n 0, 1), (108, .getfield 43, 3), (111, .iload 6, 2), (113, .iaload, 1), (114, .ifCond .lt 50, 3), (117, .aload_n 0, 1), (118, .getfield 46, 3), (121, .iload 6, 2), (123, .iaload, 1), (124, .aload_n 0, 1), (125, .getfield 43, 3), (128, .iload 6, 2), (130, .iaload, 1), (131, .isub, 1), (132, .iload 7, 2), (134, .iload 4, 2), (136, .isub, 1), (137, .if_icmp .ne 25, 3), (140, .aload_n 0, 1), (141, .iload_n 1, 1), (142, .aload_n 0, 1), (143, .getfield 43, 3), (146, .iload 6, 2), (148, .iaload, 1), (149, .iload 4, 2), (151, .iload 7, 2), (153, .iload 4, 2), (155, .isub, 1), (156, .invokevirtual 120, 3), (159, .ifCond .ne 5, 3), (162, .iconst 0, 1), (163, .ireturn, 1), (164, .aload_n 0, 1), (165, .getfield 43, 3), (168, .iload 6, 2), (170, .aload_n 0, 1), (171, .getfield 43, 3), (174, .iload 6, 2), (176, .iaload, 1), (177, .ifCond .ge 8, 3), (180, .iload 4, 2), (182, .goto 10, 3), (185, .aload_n 0, 1), (186, .getfield 43, 3), (189, .iload 6, 2), (191, .iaload, 1), (192, .iastore, 1), (193, .aload_n 0, 1), (194, .getfield 46, 3), (197, .iload 6, 2), (199, .aload_n 0, 1), (200, .getfield 43, 3), (203, .iload 6, 2), (205, .iaload, 1), (206, .iload 4, 2), (208, .if_icmp .ne 8, 3), (211, .iload 7, 2), (213, .goto 10, 3), (216, .aload_n 0, 1), (217, .getfield 46, 3), (220, .iload 6, 2), (222, .iaload, 1), (223, .iastore, 1), (224, .iload 7, 2), (226, .istore 4, 2), (228, .iinc 5 1, 3), (231, .goto (-201), 3), (234, .iconst 1, 1), (235, .ireturn, 1)]
/-- RuleCompletionModel.fits(III)Z -/
def ai_m119 : ai_M := (12, ⟨"RuleCompletionModel", "fits", "(III)Z"⟩, prog_13_method_29_code, 8, (some .boolean), ai_i119, [], [], 2, 45)
def ai_i120 : List (Nat × Instr × Nat) := [(0, .iconst 1, 1), (1, .istore_n 3, 1), (2, .iload_n 2, 1), (3, .istore 4, 2), (5, .iload_n 3, 1), (6, .ifCond .le 30, 3), (9, .iload_n 3, 1), (10, .aload_n 0, 1), (11, .aload_n 0, 1), (12, .getfield 37, 3), (15, .bipush 64, 2), (17, .iload_n 1, 1), (18, .imul, 1), (19, .iload 4, 2), (21, .iadd, 1), (22, .iaload, 1), (23, .invokevirtual 96, 3), (26, .iconst 1, 1), (27, .isub, 1), (28, .iadd, 1), (29, .istore_n 3, 1), (30, .iinc 4 1, 3), (33, .goto (-28), 3), (36, .iload 4, 2), (38, .ireturn, 1)]
/-- RuleCompletionModel.end(II)I -/
def ai_m120 : ai_M := (12, ⟨"RuleCompletionModel", "end", "(II)I"⟩, prog_13_method_15_code, 5, (some .int), ai_i120, [], [], 1, 21)
def ai_i121 : List (Nat × Instr × Nat) := [(0, .iconst 1, 1), (1, .istore 5, 2), (3, .iconst 0, 1), (4, .istore 6, 2), (6, .iload 6, 2), (8, .iload 4, 2), (10, .if_icmp .ge 52, 3), (13, .iload 5, 2), (15, .ifCond .eq 38, 3), (18, .aload_n 0, 1), (19, .getfield 37, 3), (22, .bipush 64, 2), (24, .iload_n 1, 1), (25, .imul, 1), (26, .iload_n 2, 1), (27, .iadd, 1), (28, .iload 6, 2), (30, .iadd, 1), (31, .iaload, 1), (32, .aload_n 0, 1), (33, .getfield 37, 3), (36, .bipush 64, 2), (38, .iload_n 1, 1), (39, .imul, 1), (40, .iload_n 3, 1), (41, .iadd, 1), (42, .iload 6, 2), (44, .iadd, 1), (45, .iaload, 1), (46, .if_icmp .ne 7, 3), (49, .iconst 1, 1), (50, .goto 4, 3), (53, .iconst 0, 1), (54, .istore 5, 2), (56, .iinc 6 1, 3), (59, .goto (-53), 3), (62, .iload 5, 2), (64, .ireturn, 1)]
/-- RuleCompletionModel.sameStretch(IIII)Z -/
def ai_m121 : ai_M := (12, ⟨"RuleCompletionModel", "sameStretch", "(IIII)Z"⟩, prog_13_method_28_code, 7, (some .boolean), ai_i121, [], [], 0, 0)
def ai_i122 : List (Nat × Instr × Nat) := [(0, .aload_n 0, 1), (1, .getfield 40, 3), (4, .iconst 2, 1), (5, .iconst 0, 1), (6, .iastore, 1), (7, .iconst 0, 1), (8, .istore 4, 2), (10, .iload 4, 2), (12, .iload_n 2, 1), (13, .if_icmp .ge 26, 3), (16, .aload_n 0, 1), (17, .iconst 2, 1), (18, .aload_n 0, 1), (19, .getfield 37, 3), (22, .bipush 64, 2), (24, .iload_n 1, 1), (25, .imul, 1), (26, .iload 4, 2), (28, .iadd, 1), (29, .iaload, 1), (30, .invokevirtual 92, 3), (33, .iinc 4 1, 3), (36, .goto (-26), 3), (39, .iconst 0, 1), (40, .istore 4, 2), (42, .iload 4, 2), (44, .aload_n 0, 1), (45, .getfield 25, 3), (48, .iload_n 3, 1), (49, .iaload, 1), (50, .if_icmp .ge 108, 3), (53, .aload_n 0, 1), (54, .getfield 19, 3), (57, .bipush 48, 2), (59, .iload_n 3, 1), (60, .imul, 1), (61, .bipush 24, 2), (63, .iadd, 1), (64, .iload 4, 2), (66, .iadd, 1), (67, .iaload, 1), (68, .istore 5, 2), (70, .iload 5, 2), (72, .bipush 8, 2), (74, .if_icmp .ge 10, 3), (77, .aload_n 0, 1), (78, .iconst 2, 1), (79, .iload 5, 2), (81, .invokevirtual 92, 3), (84, .iload 5, 2), (86, .bipush 8, 2), (88, .if_icmp .ge 7, 3), (91, .iconst 0, 1), (92, .goto 13, 3), (95, .aload_n 0, 1), (96, .getfield 43, 3), (99, .iload 5, 2), (101, .bipush 8, 2), (103, .isub, 1), (104, .iaload, 1), (105, .istore 6, 2), (107, .iload 5, 2), (109, .bipush 8, 2), (111, .if_icmp .lt 41, 3), (114, .iload 6, 2), (116, .aload_n 0, 1), (117, .getfield 46, 3), (120, .iload 5, 2), (122, .bipush 8, 2), (124, .isub, 1), (125, .iaload, 1), (126, .if_icmp .ge 26, 3), (129, .aload_n 0, 1), (130, .iconst 2, 1), (131, .aload_n 0, 1), (132, .getfield 37, 3), (135, .bipush 64, 2), (137, .iload_n 1, 1), (138, .imul, 1), (139, .iload 6, 2), (141, .iadd, 1), (142, .iaload, 1), (143, .invokevirtual 92, 3), (146, .iinc 6 1, 3), (149, .goto (-42), 3), (152, .iinc 4 1, 3), (155, .goto (-113), 3), (158, .aload_n 0, 1), (159, .iload_n 1, 1), (160, .iload_n 2, 1), (161, .invokevirtual 116, 3), (164, .istore 4, 2), (166, .iload 4, 2), (168, .aload_n 0, 1), (169, .getfield 40, 3), (172, .iload_n 1, 1), (173, .iaload, 1), (174, .if_icmp .ge 26, 3), (177, .aload_n 0, 1), (178, .iconst 2, 1), (179, .aload_n 0, 1), (180, .getfield 37, 3), (183, .bipush 64, 2), (185, .iload_n 1, 1), (186, .imul, 1), (187, .iload 4, 2), (189, .iadd, 1), (190, .iaload, 1), (191, .invokevirtual 92, 3), (194, .iinc 4 1, 3), (197, .goto (-31), 3), (200, .aload_n 0, 1), (201, .iconst 2, 1), (202, .iload_n 1, 1), (203, .invokevirtual 103, 3), (206, .return_, 1)]
/-- RuleCompletionModel.replace(III)V -/
def ai_m122 : ai_M := (12, ⟨"RuleCompletionModel", "replace", "(III)V"⟩, prog_13_method_30_code, 7, none, ai_i122, [], [], 2, 45)
def ai_i123 : List (Nat × Instr × Nat) := [(0, .aload_n 0, 1), (1, .getfield 40, 3), (4, .iload_n 2, 1), (5, .aload_n 0, 1), (6, .getfield 40, 3), (9, .iload_n 1, 1), (10, .iaload, 1), (11, .iastore, 1), (12, .iconst 0, 1), (13, .istore_n 3, 1), (14, .iload_n 3, 1), (15, .aload_n 0, 1), (16, .getfield 40, 3), (19, .iload_n 1, 1), (20, .iaload, 1), (21, .if_icmp .ge 31, 3), (24, .aload_n 0, 1), (25, .getfield 37, 3), (28, .bipush 64, 2), (30, .iload_n 2, 1), (31, .imul, 1), (32, .iload_n 3, 1), (33, .iadd, 1), (34, .aload_n 0, 1), (35, .getfield 37, 3), (38, .bipush 64, 2), (40, .iload_n 1, 1), (41, .imul, 1), (42, .iload_n 3, 1), (43, .iadd, 1), (44, .iaload, 1), (45, .iastore, 1), (46, .iinc 3 1, 3), (49, .goto (-35), 3), (52, .return_, 1)]
/-- RuleCompletionModel.copy(II)V -/
def ai_m123 : ai_M := (12, ⟨"RuleCompletionModel", "copy", "(II)V"⟩, prog_13_method_17_code, 4, none, ai_i123, [], [], 0, 0)
def ai_i124 : List (Nat × Instr × Nat) := [(0, .aload_n 0, 1), (1, .getfield 40, 3), (4, .iload_n 1, 1), (5, .iaload, 1), (6, .aload_n 0, 1), (7, .getfield 40, 3), (10, .iload_n 2, 1), (11, .iaload, 1), (12, .if_icmp .ne 7, 3), (15, .iconst 1, 1), (16, .goto 4, 3), (19, .iconst 0, 1), (20, .istore_n 3, 1), (21, .iconst 0, 1), (22, .istore 4, 2), (24, .iload 4, 2), (26, .aload_n 0, 1), (27, .getfield 40, 3), (30, .iload_n 1, 1), (31, .iaload, 1), (32, .if_icmp .ge 46, 3), (35, .iload_n 3, 1), (36, .ifCond .eq 42, 3), (39, .aload_n 0, 1), (40, .getfield 37, 3), (43, .bipush 64, 2), (45, .iload_n 1, 1), (46, .imul, 1), (47, .iload 4, 2), (49, .iadd, 1), (50, .iaload, 1), (51, .aload_n 0, 1), (52, .getfield 37, 3), (55, .bipush 64, 2), (57, .iload_n 2, 1), (58, .imul, 1), (59, .iload 4, 2), (61, .iadd, 1), (62, .iaload, 1), (63, .if_icmp .ne 7, 3), (66, .iconst 1, 1), (67, .goto 4, 3), (70, .iconst 0, 1), (71, .istore_n 3, 1), (72, .iinc 4 1, 3), (75, .goto (-51), 3), (78, .iload_n 3, 1), (79, .ireturn, 1)]
/-- RuleCompletionModel.alike(II)Z -/
def ai_m124 : ai_M := (12, ⟨"RuleCompletionModel", "alike", "(II)Z"⟩, prog_13_method_16_code, 5, (some .boolean), ai_i124, [], [], 0, 0)
def ai_i125 : List (Nat × Instr × Nat) := [(0, .aload_n 0, 1), (1, .getfield 40, 3), (4, .iload_n 1, 1), (5, .iaload, 1), (6, .iconst 1, 1), (7, .isub, 1), (8, .istore_n 3, 1), (9, .iload_n 3, 1), (10, .ifCond .lt 51, 3), (13, .aload_n 0, 1), (14, .getfield 40, 3), (17, .iload_n 2, 1), (18, .iaload, 1), (19, .iconst 1, 1), (20, .isub, 1), (21, .istore 4, 2), (23, .iload 4, 2), (25, .ifCond .lt 30, 3), (28, .aload_n 0, 1), (29, .getfield 64, 3), (32, .bipush 24, 2), (34, .iload_n 3, 1), (35, .imul, 1), (36, .iload 4, 2), (38, .iadd, 1), (39, .aload_n 0, 1), (40, .iload_n 1, 1), (41, .iload_n 3, 1), (42, .iload_n 2, 1), (43, .iload 4, 2), (45, .invokevirtual 144, 3), (48, .bastore, 1), (49, .iinc 4 (-1), 3), (52, .goto (-29), 3), (55, .iinc 3 (-1), 3), (58, .goto (-49), 3), (61, .aload_n 0, 1), (62, .getfield 64, 3), (65, .iconst 0, 1), (66, .baload, 1), (67, .ireturn, 1)]
/-- RuleCompletionModel.isGreater(II)Z -/
def ai_m125 : ai_M := (12, ⟨"RuleCompletionModel", "isGreater", "(II)Z"⟩, prog_13_method_37_code, 5, (some .boolean), ai_i125, [], [], 4, 101)
def ai_i126 : List (Nat × Instr × Nat) := [(0, .aload_n 0, 1), (1, .getfield 37, 3), (4, .bipush 64, 2), (6, .iload_n 1, 1), (7, .imul, 1), (8, .iload_n 2, 1), (9, .iadd, 1), (10, .iaload, 1), (11, .istore 5, 2), (13, .aload_n 0, 1), (14, .getfield 37, 3), (17, .bipush 64, 2), (19, .iload_n 3, 1), (20, .imul, 1), (21, .iload 4, 2), (23, .iadd, 1), (24, .iaload, 1), (25, .istore 6, 2), (27, .iload 6, 2), (29, .bipush 8, 2), (31, .if_icmp .lt 23, 3), (34, .aload_n 0, 1), (35, .iload_n 1, 1), (36, .iload_n 2, 1), (37, .iload 6, 2), (39, .invokevirtual 134, 3), (42, .ifCond .eq 12, 3), (45, .iload 5, 2), (47, .iload 6, 2), (49, .if_icmp .eq 5, 3), (52, .iconst 1, 1), (53, .ireturn, 1), (54, .iconst 0, 1), (55, .istore 7, 2), (57, .iload 7, 2), (59, .aload_n 0, 1), (60, .iload 5, 2), (62, .invokevirtual 96, 3), (65, .if_icmp .ge 50, 3), (68, .aload_n 0, 1), (69, .iload_n 1, 1), (70, .iload_n 2, 1), (71, .iload 7, 2), (73, .invokevirtual 137, 3), (76, .istore 8, 2), (78, .aload_n 0, 1), (79, .getfield 64, 3), (82, .bipush 24, 2), (84, .iload 8, 2), (86, .imul, 1), (87, .iload 4, 2), (89, .iadd, 1), (90, .baload, 1), (91, .ifCond .ne 16, 3), (94, .aload_n 0, 1), (95, .iload_n 1, 1), (96, .iload 8, 2), (98, .iload_n 3, 1), (99, .iload 4, 2), (101, .invokevirtual 141, 3), (104, .ifCond .eq 5, 3), (107, .iconst 1, 1), (108, .ireturn, 1), (109, .iinc 7 1, 3), (112, .goto (-55), 3), (115, .iload 5, 2), (117, .bipush 8, 2), (119, .if_icmp .ge 10, 3), (122, .iload 6, 2), (124, .bipush 8, 2), (126, .if_icmp .lt 5, 3), (129, .iconst 0, 1), (130, .ireturn, 1), (131, .iconst 0, 1), (132, .istore 7, 2), (134, .iload 7, 2), (136, .aload_n 0, 1), (137, .iload 6, 2), (139, .invokevirtual 96, 3), (142, .if_icmp .ge 33, 3), (145, .aload_n 0, 1), (146, .getfield 64, 3), (149, .bipush 24, 2), (151, .iload_n 2, 1), (152, .imul, 1), (153, .aload_n 0, 1), (154, .iload_n 3, 1), (155, .iload 4, 2), (157, .iload 7, 2), (159, .invokevirtual 137, 3), (162, .iadd, 1), (163, .baload, 1), (164, .ifCond .ne 5, 3), (167, .iconst 0, 1), (168, .ireturn, 1), (169, .iinc 7 1, 3), (172, .goto (-38), 3), (175, .iload 5, 2), (177, .iload 6, 2), (179, .if_icmp .eq 26, 3), (182, .aload_n 0, 1), (183, .getfield 13, 3), (186, .iload 5, 2), (188, .iaload, 1), (189, .aload_n 0, 1), (190, .getfield 13, 3), (193, .iload 6, 2), (195, .iaload, 1), (196, .if_icmp .le 7, 3), (199, .iconst 1, 1), (200, .goto 4, 3), (203, .iconst 0, 1), (204, .ireturn, 1), (205, .iconst 0, 1), (206, .istore 7, 2), (208, .iload 7, 2), (210, .aload_n 0, 1), (211, .iload 5, 2), (213, .invokevirtual 96, 3), (216, .if_icmp .ge 57, 3), (219, .aload_n 0, 1), (220, .iload_n 1, 1), (221, .iload_n 2, 1), (222, .iload 7, 2), (224, .invokevirtual 137, 3), (227, .istore 8, 2), (229, .aload_n 0, 1), (230, .iload_n 3, 1), (231, .iload 4, 2), (233, .iload 7, 2), (235, .invokevirtual 137, 3), (238, .istore 9, 2), (240, .aload_n 0, 1), (241, .iload_n 1, 1), (242, .iload 8, 2), (244, .iload_n 3, 1), (245, .iload 9, 2), (247, .invokevirtual 141, 3), (250, .ifCond .ne 17, 3), (253, .aload_n 0, 1), (254, .getfield 64, 3), (257, .bipush 24, 2), (259, .iload 8, 2), (261, .imul, 1), (262, .iload 9, 2), (264, .iadd, 1), (265, .baload, 1), (266, .ireturn, 1), (267, .iinc 7 1, 3), (270, .goto (-62), 3), (273, .iconst 0, 1), (274, .ireturn, 1)]
/-- RuleCompletionModel.isAbove(IIII)Z -/
def ai_m126 : ai_M := (12, ⟨"RuleCompletionModel", "isAbove", "(IIII)Z"⟩, prog_13_method_36_code, 10, (some .boolean), ai_i126, [], [], 3, 72)
def ai_i127 : List (Nat × Instr × Nat) := [(0, .iconst 0, 1), (1, .istore 4, 2), (3, .iload_n 2, 1), (4, .istore 5, 2), (6, .iload 5, 2), (8, .aload_n 0, 1), (9, .iload_n 1, 1), (10, .iload_n 2, 1), (11, .invokevirtual 116, 3), (14, .if_icmp .ge 37, 3), (17, .iload 4, 2), (19, .ifCond .ne 19, 3), (22, .aload_n 0, 1), (23, .getfield 37, 3), (26, .bipush 64, 2), (28, .iload_n 1, 1), (29, .imul, 1), (30, .iload 5, 2), (32, .iadd, 1), (33, .iaload, 1), (34, .iload_n 3, 1), (35, .if_icmp .ne 7, 3), (38, .iconst 1, 1), (39, .goto 4, 3), (42, .iconst 0, 1), (43, .istore 4, 2), (45, .iinc 5 1, 3), (48, .goto (-42), 3), (51, .iload 4, 2), (53, .ireturn, 1)]
/-- RuleCompletionModel.comesIn(III)Z -/
def ai_m127 : ai_M := (12, ⟨"RuleCompletionModel", "comesIn", "(III)Z"⟩, prog_13_method_33_code, 6, (some .boolean), ai_i127, [], [], 2, 45)
def ai_i128 : List (Nat × Instr × Nat) := [(0, .iload_n 3, 1), (1, .ifCond .ne 9, 3), (4, .iload_n 2, 1), (5, .iconst 1, 1), (6, .iadd, 1), (7, .goto 11, 3), (10, .aload_n 0, 1), (11, .iload_n 1, 1), (12, .iload_n 2, 1), (13, .iconst 1, 1), (14, .iadd, 1), (15, .invokevirtual 116, 3), (18, .ireturn, 1)]
/-- RuleCompletionModel.part(III)I -/
def ai_m128 : ai_M := (12, ⟨"RuleCompletionModel", "part", "(III)I"⟩, prog_13_method_35_code, 4, (some .int), ai_i128, [], [], 2, 45)
def ai_i129 : List (Nat × Instr × Nat) := [(0, .aload_n 0, 1), (1, .iload_n 1, 1), (2, .iload_n 2, 1), (3, .invokevirtual 116, 3), (6, .iload_n 2, 1), (7, .isub, 1), (8, .istore 5, 2), (10, .aload_n 0, 1), (11, .iload_n 3, 1), (12, .iload 4, 2), (14, .invokevirtual 116, 3), (17, .iload 4, 2), (19, .isub, 1), (20, .iload 5, 2), (22, .if_icmp .ne 7, 3), (25, .iconst 1, 1), (26, .goto 4, 3), (29, .iconst 0, 1), (30, .istore 6, 2), (32, .iconst 0, 1), (33, .istore 7, 2), (35, .iload 7, 2), (37, .iload 5, 2), (39, .if_icmp .ge 53, 3), (42, .iload 6, 2), (44, .ifCond .eq 48, 3), (47, .aload_n 0, 1), (48, .getfield 37, 3), (51, .bipush 64, 2), (53, .iload_n 1, 1), (54, .imul, 1), (55, .iload_n 2, 1), (56, .iadd, 1), (57, .iload 7, 2), (59, .iadd, 1), (60, .iaload, 1), (61, .aload_n 0, 1), (62, .getfield 37, 3), (65, .bipush 64, 2), (67, .iload_n 3, 1), (68, .imul, 1), (69, .iload 4, 2), (71, .iadd, 1), (72, .iload 7, 2), (74, .iadd, 1), (75, .iaload, 1), (76, .if_icmp .ne 7, 3), (79, .iconst 1, 1), (80, .goto 4, 3), (83, .iconst 0, 1), (84, .istore 6, 2), (86, .iinc 7 1, 3), (89, .goto (-54), 3), (92, .iload 6, 2), (94, .ireturn, 1)]
/-- RuleCompletionModel.sameParts(IIII)Z -/
def ai_m129 : ai_M := (12, ⟨"RuleCompletionModel", "sameParts", "(IIII)Z"⟩, prog_13_method_34_code, 8, (some .boolean), ai_i129, [], [], 2, 45)
def ai_i130 : List (Nat × Instr × Nat) := [(0, .aload_n 0, 1), (1, .iconst 0, 1), (2, .iconst 2, 1), (3, .invokevirtual 103, 3), (6, .aload_n 0, 1), (7, .iconst 1, 1), (8, .iconst 0, 1), (9, .invokevirtual 103, 3), (12, .aload_n 0, 1), (13, .iconst 2, 1), (14, .iconst 1, 1), (15, .invokevirtual 103, 3), (18, .return_, 1)]
/-- RuleCompletionModel.exchange()V -/
def ai_m130 : ai_M := (12, ⟨"RuleCompletionModel", "exchange", "()V"⟩, prog_13_method_18_code, 1, none, ai_i130, [], [], 1, 23)
def ai_i131 : List (Nat × Instr × Nat) := [(0, .aload_n 0, 1), (1, .bipush 14, 2), (3, .invokevirtual 205, 3), (6, .aload_n 0, 1), (7, .invokevirtual 208, 3), (10, .aload_n 0, 1), (11, .getfield 113, 3), (14, .istore_n 1, 1), (15, .aload_n 0, 1), (16, .bipush 14, 2), (18, .invokevirtual 199, 3), (21, .aload_n 0, 1), (22, .iload_n 1, 1), (23, .invokevirtual 205, 3), (26, .aload_n 0, 1), (27, .dup, 1), (28, .getfield 113, 3), (31, .iconst 1, 1), (32, .iadd, 1), (33, .putfield 113, 3), (36, .aload_n 0, 1), (37, .invokevirtual 211, 3), (40, .iconst 0, 1), (41, .istore_n 2, 1), (42, .iload_n 2, 1), (43, .aload_n 0, 1), (44, .getfield 196, 3), (47, .if_icmp .ge 28, 3), (50, .aload_n 0, 1), (51, .getfield 150, 3), (54, .ifCond .ne 21, 3), (57, .aload_n 0, 1), (58, .bipush 48, 2), (60, .iload_n 2, 1), (61, .iadd, 1), (62, .invokevirtual 214, 3), (65, .aload_n 0, 1), (66, .invokevirtual 193, 3), (69, .iinc 2 1, 3), (72, .goto (-30), 3), (75, .iconst 0, 1), (76, .istore_n 2, 1), (77, .iload_n 2, 1), (78, .aload_n 0, 1), (79, .getfield 113, 3), (82, .if_icmp .ge 40, 3), (85, .aload_n 0, 1), (86, .getfield 150, 3), (89, .ifCond .ne 33, 3), (92, .aload_n 0, 1), (93, .iload_n 1, 1), (94, .iload_n 2, 1), (95, .invokevirtual 217, 3), (98, .iload_n 2, 1), (99, .iload_n 1, 1), (100, .if_icmp .eq 16, 3), (103, .aload_n 0, 1), (104, .getfield 150, 3), (107, .ifCond .ne 9, 3), (110, .aload_n 0, 1), (111, .iload_n 2, 1), (112, .iload_n 1, 1), (113, .invokevirtual 217, 3), (116, .iinc 2 1, 3), (119, .goto (-42), 3), (122, .return_, 1)]
/-- RuleCompletionModel.enter()V -/
def ai_m131 : ai_M := (12, ⟨"RuleCompletionModel", "enter", "()V"⟩, prog_13_method_50_code, 3, none, ai_i131, [], [], 7, 163)
def ai_i132 : List (Nat × Instr × Nat) := [(0, .aload_n 0, 1), (1, .getfield 22, 3), (4, .iload_n 1, 1), (5, .aload_n 0, 1), (6, .getfield 40, 3), (9, .iconst 0, 1), (10, .iaload, 1), (11, .iastore, 1), (12, .aload_n 0, 1), (13, .getfield 25, 3), (16, .iload_n 1, 1), (17, .aload_n 0, 1), (18, .getfield 40, 3), (21, .iconst 1, 1), (22, .iaload, 1), (23, .iastore, 1), (24, .iconst 0, 1), (25, .istore_n 2, 1), (26, .iload_n 2, 1), (27, .aload_n 0, 1), (28, .getfield 40, 3), (31, .iconst 0, 1), (32, .iaload, 1), (33, .if_icmp .ge 26, 3), (36, .aload_n 0, 1), (37, .getfield 19, 3), (40, .bipush 48, 2), (42, .iload_n 1, 1), (43, .imul, 1), (44, .iload_n 2, 1), (45, .iadd, 1), (46, .aload_n 0, 1), (47, .getfield 37, 3), (50, .iload_n 2, 1), (51, .iaload, 1), (52, .iastore, 1), (53, .iinc 2 1, 3), (56, .goto (-30), 3), (59, .iconst 0, 1), (60, .istore_n 2, 1), (61, .iload_n 2, 1), (62, .aload_n 0, 1), (63, .getfield 40, 3), (66, .iconst 1, 1), (67, .iaload, 1), (68, .if_icmp .ge 32, 3), (71, .aload_n 0, 1), (72, .getfield 19, 3), (75, .bipush 48, 2), (77, .iload_n 1, 1), (78, .imul, 1), (79, .bipush 24, 2), (81, .iadd, 1), (82, .iload_n 2, 1), (83, .iadd, 1), (84, .aload_n 0, 1), (85, .getfield 37, 3), (88, .bipush 64, 2), (90, .iload_n 2, 1), (91, .iadd, 1), (92, .iaload, 1), (93, .iastore, 1), (94, .iinc 2 1, 3), (97, .goto (-36), 3), (100, .return_, 1)]
/-- RuleCompletionModel.setRule(I)V -/
def ai_m132 : ai_M := (12, ⟨"RuleCompletionModel", "setRule", "(I)V"⟩, prog_13_method_20_code, 3, none, ai_i132, [], [], 0, 0)
def ai_i133 : List (Nat × Instr × Nat) := [(0, .aload_n 0, 1), (1, .iconst 0, 1), (2, .putfield 196, 3), (5, .iconst 0, 1), (6, .istore_n 1, 1), (7, .iload_n 1, 1), (8, .aload_n 0, 1), (9, .getfield 113, 3), (12, .if_icmp .ge 88, 3), (15, .aload_n 0, 1), (16, .iload_n 1, 1), (17, .invokevirtual 199, 3), (20, .iconst 0, 1), (21, .istore_n 2, 1), (22, .iconst 0, 1), (23, .istore_n 3, 1), (24, .iload_n 3, 1), (25, .aload_n 0, 1), (26, .getfield 40, 3), (29, .iconst 0, 1), (30, .iaload, 1), (31, .if_icmp .ge 30, 3), (34, .iload_n 2, 1), (35, .ifCond .ne 14, 3), (38, .aload_n 0, 1), (39, .iconst 0, 1), (40, .iload_n 3, 1), (41, .bipush 14, 2), (43, .invokevirtual 124, 3), (46, .ifCond .eq 7, 3), (49, .iconst 1, 1), (50, .goto 4, 3), (53, .iconst 0, 1), (54, .istore_n 2, 1), (55, .iinc 3 1, 3), (58, .goto (-34), 3), (61, .iload_n 2, 1), (62, .ifCond .eq 32, 3), (65, .aload_n 0, 1), (66, .bipush 48, 2), (68, .aload_n 0, 1), (69, .getfield 196, 3), (72, .iadd, 1), (73, .invokevirtual 168, 3), (76, .aload_n 0, 1), (77, .dup, 1), (78, .getfield 196, 3), (81, .iconst 1, 1), (82, .iadd, 1), (83, .putfield 196, 3), (86, .aload_n 0, 1), (87, .iload_n 1, 1), (88, .invokevirtual 202, 3), (91, .goto 6, 3), (94, .iinc 1 1, 3), (97, .goto (-90), 3), (100, .return_, 1)]
/-- RuleCompletionModel.prune()V -/
def ai_m133 : ai_M := (12, ⟨"RuleCompletionModel", "prune", "()V"⟩, prog_13_method_48_code, 4, none, ai_i133, [], [], 3, 72)
def ai_i134 : List (Nat × Instr × Nat) := [(0, .aload_n 0, 1), (1, .getfield 40, 3), (4, .iconst 0, 1), (5, .aload_n 0, 1), (6, .getfield 22, 3), (9, .iload_n 1, 1), (10, .iaload, 1), (11, .iastore, 1), (12, .aload_n 0, 1), (13, .getfield 40, 3), (16, .iconst 1, 1), (17, .aload_n 0, 1), (18, .getfield 25, 3), (21, .iload_n 1, 1), (22, .iaload, 1), (23, .iastore, 1), (24, .iconst 0, 1), (25, .istore_n 2, 1), (26, .iload_n 2, 1), (27, .aload_n 0, 1), (28, .getfield 40, 3), (31, .iconst 0, 1), (32, .iaload, 1), (33, .if_icmp .ge 26, 3), (36, .aload_n 0, 1), (37, .getfield 37, 3), (40, .iload_n 2, 1), (41, .aload_n 0, 1), (42, .getfield 19, 3), (45, .bipush 48, 2), (47, .iload_n 1, 1), (48, .imul, 1), (49, .iload_n 2, 1), (50, .iadd, 1), (51, .iaload, 1), (52, .iastore, 1), (53, .iinc 2 1, 3), (56, .goto (-30), 3), (59, .iconst 0, 1), (60, .istore_n 2, 1), (61, .iload_n 2, 1), (62, .aload_n 0, 1), (63, .getfield 40, 3), (66, .iconst 1, 1), (67, .iaload, 1), (68, .if_icmp .ge 32, 3), (71, .aload_n 0, 1), (72, .getfield 37, 3), (75, .bipush 64, 2), (77, .iload_n 2, 1), (78, .iadd, 1), (79, .aload_n 0, 1), (80, .getfield 19, 3), (83, .bipush 48, 2), (85, .iload_n 1, 1), (86, .imul, 1), (87, .bipush 24, 2), (89, .iadd, 1), (90, .iload_n 2, 1), (91, .iadd, 1), (92, .iaload, 1), (93, .iastore, 1), (94, .iinc 2 1, 3), (97, .goto (-36), 3), (100, .return_, 1)]
/-- RuleCompletionModel.getRule(I)V -/
def ai_m134 : ai_M := (12, ⟨"RuleCompletionModel", "getRule", "(I)V"⟩, prog_13_method_21_code, 3, none, ai_i134, [], [], 0, 0)
def ai_i135 : List (Nat × Instr × Nat) := [(0, .aload_n 0, 1), (1, .dup, 1), (2, .getfield 113, 3), (5, .iconst 1, 1), (6, .isub, 1), (7, .putfield 113, 3), (10, .iload_n 1, 1), (11, .istore_n 2, 1), (12, .iload_n 2, 1), (13, .aload_n 0, 1), (14, .getfield 113, 3), (17, .if_icmp .ge 76, 3), (20, .aload_n 0, 1), (21, .getfield 22, 3), (24, .iload_n 2, 1), (25, .aload_n 0, 1), (26, .getfield 22, 3), (29, .iload_n 2, 1), (30, .iconst 1, 1), (31, .iadd, 1), (32, .iaload, 1), (33, .iastore, 1), (34, .aload_n 0, 1), (35, .getfield 25, 3), (38, .iload_n 2, 1), (39, .aload_n 0, 1), (40, .getfield 25, 3), (43, .iload_n 2, 1), (44, .iconst 1, 1), (45, .iadd, 1), (46, .iaload, 1), (47, .iastore, 1), (48, .iconst 0, 1), (49, .istore_n 3, 1), (50, .iload_n 3, 1), (51, .bipush 48, 2), (53, .if_icmp .ge 34, 3), (56, .aload_n 0, 1), (57, .getfield 19, 3), (60, .bipush 48, 2), (62, .iload_n 2, 1), (63, .imul, 1), (64, .iload_n 3, 1), (65, .iadd, 1), (66, .aload_n 0, 1), (67, .getfield 19, 3), (70, .bipush 48, 2), (72, .iload_n 2, 1), (73, .imul, 1), (74, .bipush 48, 2), (76, .iadd, 1), (77, .iload_n 3, 1), (78, .iadd, 1), (79, .iaload, 1), (80, .iastore, 1), (81, .iinc 3 1, 3), (84, .goto (-34), 3), (87, .iinc 2 1, 3), (90, .goto (-78), 3), (93, .return_, 1)]
/-- RuleCompletionModel.dropRule(I)V -/
def ai_m135 : ai_M := (12, ⟨"RuleCompletionModel", "dropRule", "(I)V"⟩, prog_13_method_26_code, 4, none, ai_i135, [], [], 0, 0)
def ai_i136 : List (Nat × Instr × Nat) := [(0, .iconst 0, 1), (1, .istore_n 1, 1), (2, .iload_n 1, 1), (3, .iconst 1, 1), (4, .iadd, 1), (5, .aload_n 0, 1), (6, .getfield 113, 3), (9, .if_icmp .ge 47, 3), (12, .aload_n 0, 1), (13, .getfield 150, 3), (16, .ifCond .ne 40, 3), (19, .aload_n 0, 1), (20, .iload_n 1, 1), (21, .invokevirtual 199, 3), (24, .aload_n 0, 1), (25, .iconst 1, 1), (26, .invokevirtual 147, 3), (29, .ifCond .ge 11, 3), (32, .aload_n 0, 1), (33, .iconst 3, 1), (34, .putfield 150, 3), (37, .goto 13, 3), (40, .aload_n 0, 1), (41, .invokevirtual 157, 3), (44, .istore_n 2, 1), (45, .aload_n 0, 1), (46, .iload_n 1, 1), (47, .invokevirtual 205, 3), (50, .iinc 1 1, 3), (53, .goto (-51), 3), (56, .return_, 1)]
/-- RuleCompletionModel.reduceRights()V -/
def ai_m136 : ai_M := (12, ⟨"RuleCompletionModel", "reduceRights", "()V"⟩, prog_13_method_49_code, 3, none, ai_i136, [], [], 5, 118)
def ai_i137 : List (Nat × Instr × Nat) := [(0, .aload_n 0, 1), (1, .iconst 0, 1), (2, .invokevirtual 147, 3), (5, .ifCond .lt 11, 3), (8, .aload_n 0, 1), (9, .iconst 1, 1), (10, .invokevirtual 147, 3), (13, .ifCond .ge 9, 3), (16, .aload_n 0, 1), (17, .iconst 3, 1), (18, .putfield 150, 3), (21, .return_, 1), (22, .aload_n 0, 1), (23, .iconst 0, 1), (24, .iconst 1, 1), (25, .invokevirtual 153, 3), (28, .ifCond .eq 4, 3), (31, .return_, 1), (32, .aload_n 0, 1), (33, .invokevirtual 157, 3), (36, .bipush 6, 2), (38, .if_icmp .le 9, 3), (41, .aload_n 0, 1), (42, .iconst 3, 1), (43, .putfield 150, 3), (46, .return_, 1), (47, .aload_n 0, 1), (48, .invokevirtual 161, 3), (51, .istore_n 1, 1), (52, .aload_n 0, 1), (53, .invokevirtual 165, 3), (56, .aload_n 0, 1), (57, .invokevirtual 157, 3), (60, .istore_n 2, 1), (61, .iload_n 1, 1), (62, .ifCond .ne 10, 3), (65, .aload_n 0, 1), (66, .invokevirtual 161, 3), (69, .ifCond .eq 7, 3), (72, .iconst 1, 1), (73, .goto 4, 3), (76, .iconst 0, 1), (77, .istore_n 1, 1), (78, .aload_n 0, 1), (79, .invokevirtual 165, 3), (82, .aload_n 0, 1), (83, .invokevirtual 157, 3), (86, .istore_n 2, 1), (87, .iload_n 1, 1), (88, .ifCond .eq 4, 3), (91, .return_, 1), (92, .aload_n 0, 1), (93, .getfield 106, 3), (96, .bipush 48, 2), (98, .if_icmp .ne 9, 3), (101, .aload_n 0, 1), (102, .iconst 3, 1), (103, .putfield 150, 3), (106, .return_, 1), (107, .aload_n 0, 1), (108, .aload_n 0, 1), (109, .getfield 106, 3), (112, .invokevirtual 168, 3), (115, .aload_n 0, 1), (116, .dup, 1), (117, .getfield 106, 3), (120, .iconst 1, 1), (121, .iadd, 1), (122, .putfield 106, 3), (125, .return_, 1)]
/-- RuleCompletionModel.add()V -/
def ai_m137 : ai_M := (12, ⟨"RuleCompletionModel", "add", "()V"⟩, prog_13_method_38_code, 3, none, ai_i137, [], [], 5, 118)
def ai_i138 : List (Nat × Instr × Nat) := [(0, .iconst 0, 1), (1, .istore_n 1, 1), (2, .iconst 0, 1), (3, .istore_n 2, 1), (4, .iload_n 2, 1), (5, .aload_n 0, 1), (6, .getfield 106, 3), (9, .if_icmp .ge 27, 3), (12, .iload_n 1, 1), (13, .ifCond .ne 11, 3), (16, .aload_n 0, 1), (17, .iload_n 2, 1), (18, .invokevirtual 109, 3), (21, .ifCond .eq 7, 3), (24, .iconst 1, 1), (25, .goto 4, 3), (28, .iconst 0, 1), (29, .istore_n 1, 1), (30, .iinc 2 1, 3), (33, .goto (-29), 3), (36, .iload_n 1, 1), (37, .ireturn, 1)]
/-- RuleCompletionModel.isWaiting()Z -/
def ai_m138 : ai_M := (12, ⟨"RuleCompletionModel", "isWaiting", "()Z"⟩, prog_13_method_25_code, 3, (some .boolean), ai_i138, [], [], 1, 23)
def ai_i139 : List (Nat × Instr × Nat) := [(0, .aload_n 0, 1), (1, .getfield 31, 3), (4, .iload_n 1, 1), (5, .iaload, 1), (6, .aload_n 0, 1), (7, .getfield 40, 3), (10, .iconst 0, 1), (11, .iaload, 1), (12, .if_icmp .ne 22, 3), (15, .aload_n 0, 1), (16, .getfield 34, 3), (19, .iload_n 1, 1), (20, .iaload, 1), (21, .aload_n 0, 1), (22, .getfield 40, 3), (25, .iconst 1, 1), (26, .iaload, 1), (27, .if_icmp .ne 7, 3), (30, .iconst 1, 1), (31, .goto 4, 3), (34, .iconst 0, 1), (35, .istore_n 2, 1), (36, .iconst 0, 1), (37, .istore_n 3, 1), (38, .iload_n 3, 1), (39, .aload_n 0, 1), (40, .getfield 40, 3), (43, .iconst 0, 1), (44, .iaload, 1), (45, .if_icmp .ge 39, 3), (48, .iload_n 2, 1), (49, .ifCond .eq 35, 3), (52, .aload_n 0, 1), (53, .getfield 28, 3), (56, .bipush 48, 2), (58, .iload_n 1, 1), (59, .imul, 1), (60, .iload_n 3, 1), (61, .iadd, 1), (62, .iaload, 1), (63, .aload_n 0, 1), (64, .getfield 37, 3), (67, .iload_n 3, 1), (68, .iaload, 1), (69, .if_icmp .ne 7, 3), (72, .iconst 1, 1), (73, .goto 4, 3), (76, .iconst 0, 1), (77, .istore_n 2, 1), (78, .iinc 3 1, 3), (81, .goto (-43), 3), (84, .iconst 0, 1), (85, .istore_n 3, 1), (86, .iload_n 3, 1), (87, .aload_n 0, 1), (88, .getfield 40, 3), (91, .iconst 1, 1), (92, .iaload, 1), (93, .if_icmp .ge 45, 3), (96, .iload_n 2, 1), (97, .ifCond .eq 41, 3), (100, .aload_n 0, 1), (101, .getfield 28, 3), (104, .bipush 48, 2), (106, .iload_n 1, 1), (107, .imul, 1), (108, .bipush 24, 2), (110, .iadd, 1), (111, .iload_n 3, 1), (112, .iadd, 1), (113, .iaload, 1), (114, .aload_n 0, 1), (115, .getfield 37, 3), (118, .bipush 64, 2), (120, .iload_n 3, 1), (121, .iadd, 1), (122, .iaload, 1), (123, .if_icmp .ne 7, 3), (126, .iconst 1, 1), (127, .goto 4, 3), (130, .iconst 0, 1), (131, .istore_n 2, 1), (132, .iinc 3 1, 3), (135, .goto (-49), 3), (138, .iload_n 2, 1), (139, .ireturn, 1)]
/-- RuleCompletionModel.isPair(I)Z -/
def ai_m139 : ai_M := (12, ⟨"RuleCompletionModel", "isPair", "(I)Z"⟩, prog_13_method_24_code, 4, (some .boolean), ai_i139, [], [], 0, 0)
def ai_i140 : List (Nat × Instr × Nat) := [(0, .iload_n 1, 1), (1, .iload_n 2, 1), (2, .if_icmp .ne 7, 3), (5, .iconst 1, 1), (6, .goto 4, 3), (9, .iconst 0, 1), (10, .istore_n 3, 1), (11, .iload_n 3, 1), (12, .aload_n 0, 1), (13, .getfield 22, 3), (16, .iload_n 2, 1), (17, .iaload, 1), (18, .if_icmp .ge 126, 3), (21, .aload_n 0, 1), (22, .getfield 150, 3), (25, .ifCond .ne 119, 3), (28, .aload_n 0, 1), (29, .iload_n 1, 1), (30, .iload_n 2, 1), (31, .invokevirtual 184, 3), (34, .aload_n 0, 1), (35, .getfield 49, 3), (38, .iconst 0, 1), (39, .iload_n 3, 1), (40, .iadd, 1), (41, .iaload, 1), (42, .bipush 8, 2), (44, .if_icmp .ge 94, 3), (47, .aload_n 0, 1), (48, .iconst 0, 1), (49, .iload_n 3, 1), (50, .iadd, 1), (51, .bipush 32, 2), (53, .invokevirtual 187, 3), (56, .ifCond .eq 82, 3), (59, .aload_n 0, 1), (60, .getfield 40, 3), (63, .iconst 0, 1), (64, .iconst 0, 1), (65, .iastore, 1), (66, .aload_n 0, 1), (67, .getfield 40, 3), (70, .iconst 1, 1), (71, .iconst 0, 1), (72, .iastore, 1), (73, .aload_n 0, 1), (74, .iconst 0, 1), (75, .iconst 0, 1), (76, .iconst 0, 1), (77, .iload_n 3, 1), (78, .iadd, 1), (79, .invokevirtual 190, 3), (82, .aload_n 0, 1), (83, .iconst 0, 1), (84, .bipush 64, 2), (86, .bipush 64, 2), (88, .aload_n 0, 1), (89, .getfield 25, 3), (92, .iload_n 1, 1), (93, .iaload, 1), (94, .iadd, 1), (95, .invokevirtual 190, 3), (98, .aload_n 0, 1), (99, .iconst 0, 1), (100, .aload_n 0, 1), (101, .iconst 0, 1), (102, .iload_n 3, 1), (103, .iadd, 1), (104, .invokevirtual 178, 3), (107, .iconst 0, 1), (108, .aload_n 0, 1), (109, .getfield 22, 3), (112, .iload_n 2, 1), (113, .iaload, 1), (114, .iadd, 1), (115, .invokevirtual 190, 3), (118, .aload_n 0, 1), (119, .iconst 1, 1), (120, .bipush 96, 2), (122, .bipush 96, 2), (124, .aload_n 0, 1), (125, .getfield 25, 3), (128, .iload_n 2, 1), (129, .iaload, 1), (130, .iadd, 1), (131, .invokevirtual 190, 3), (134, .aload_n 0, 1), (135, .invokevirtual 193, 3), (138, .iinc 3 1, 3), (141, .goto (-130), 3), (144, .return_, 1)]
/-- RuleCompletionModel.overlap(II)V -/
def ai_m140 : ai_M := (12, ⟨"RuleCompletionModel", "overlap", "(II)V"⟩, prog_13_method_46_code, 4, none, ai_i140, [], [], 6, 140)
def ai_i141 : List (Nat × Instr × Nat) := [(0, .iconst 0, 1), (1, .istore_n 3, 1), (2, .iload_n 3, 1), (3, .aload_n 0, 1), (4, .getfield 22, 3), (7, .iload_n 2, 1), (8, .iaload, 1), (9, .if_icmp .ge 28, 3), (12, .aload_n 0, 1), (13, .getfield 49, 3), (16, .iconst 0, 1), (17, .iload_n 3, 1), (18, .iadd, 1), (19, .aload_n 0, 1), (20, .getfield 19, 3), (23, .bipush 48, 2), (25, .iload_n 2, 1), (26, .imul, 1), (27, .iload_n 3, 1), (28, .iadd, 1), (29, .iaload, 1), (30, .iastore, 1), (31, .iinc 3 1, 3), (34, .goto (-32), 3), (37, .iconst 0, 1), (38, .istore_n 3, 1), (39, .iload_n 3, 1), (40, .aload_n 0, 1), (41, .getfield 25, 3), (44, .iload_n 2, 1), (45, .iaload, 1), (46, .if_icmp .ge 32, 3), (49, .aload_n 0, 1), (50, .getfield 49, 3), (53, .bipush 96, 2), (55, .iload_n 3, 1), (56, .iadd, 1), (57, .aload_n 0, 1), (58, .getfield 19, 3), (61, .bipush 48, 2), (63, .iload_n 2, 1), (64, .imul, 1), (65, .bipush 24, 2), (67, .iadd, 1), (68, .iload_n 3, 1), (69, .iadd, 1), (70, .iaload, 1), (71, .iastore, 1), (72, .iinc 3 1, 3), (75, .goto (-36), 3), (78, .iconst 0, 1), (79, .istore_n 3, 1), (80, .iload_n 3, 1), (81, .aload_n 0, 1), (82, .getfield 22, 3), (85, .iload_n 1, 1), (86, .iaload, 1), (87, .if_icmp .ge 32, 3), (90, .aload_n 0, 1), (91, .getfield 49, 3), (94, .bipush 32, 2), (96, .iload_n 3, 1), (97, .iadd, 1), (98, .aload_n 0, 1), (99, .getfield 19, 3), (102, .bipush 48, 2), (104, .iload_n 1, 1), (105, .imul, 1), (106, .iload_n 3, 1), (107, .iadd, 1), (108, .iaload, 1), (109, .invokestatic 172, 3), (112, .iastore, 1), (113, .iinc 3 1, 3), (116, .goto (-36), 3), (119, .iconst 0, 1), (120, .istore_n 3, 1), (121, .iload_n 3, 1), (122, .aload_n 0, 1), (123, .getfield 25, 3), (126, .iload_n 1, 1), (127, .iaload, 1), (128, .if_icmp .ge 35, 3), (131, .aload_n 0, 1), (132, .getfield 49, 3), (135, .bipush 64, 2), (137, .iload_n 3, 1), (138, .iadd, 1), (139, .aload_n 0, 1), (140, .getfield 19, 3), (143, .bipush 48, 2), (145, .iload_n 1, 1), (146, .imul, 1), (147, .bipush 24, 2), (149, .iadd, 1), (150, .iload_n 3, 1), (151, .iadd, 1), (152, .iaload, 1), (153, .invokestatic 172, 3), (156, .iastore, 1), (157, .iinc 3 1, 3), (160, .goto (-39), 3), (163, .return_, 1)]
/-- RuleCompletionModel.lay(II)V -/
def ai_m141 : ai_M := (12, ⟨"RuleCompletionModel", "lay", "(II)V"⟩, prog_13_method_40_code, 4, none, ai_i141, [], [], 1, 20)
def ai_i142 : List (Nat × Instr × Nat) := [(0, .iload_n 0, 1), (1, .bipush 8, 2), (3, .if_icmp .ge 7, 3), (6, .iload_n 0, 1), (7, .goto 7, 3), (10, .iload_n 0, 1), (11, .bipush 6, 2), (13, .iadd, 1), (14, .ireturn, 1)]
/-- RuleCompletionModel.other(I)I -/
def ai_m142 : ai_M := (12, ⟨"RuleCompletionModel", "other", "(I)I"⟩, prog_13_method_41_code, 1, (some .int), ai_i142, [], [], 0, 0)
def ai_i143 : List (Nat × Instr × Nat) := [(0, .iconst 0, 1), (1, .istore_n 3, 1), (2, .iload_n 3, 1), (3, .bipush 20, 2), (5, .if_icmp .ge 16, 3), (8, .aload_n 0, 1), (9, .getfield 52, 3), (12, .iload_n 3, 1), (13, .iconst (-1), 1), (14, .iastore, 1), (15, .iinc 3 1, 3), (18, .goto (-16), 3), (21, .iconst 1, 1), (22, .istore_n 3, 1), (23, .aload_n 0, 1), (24, .getfield 55, 3), (27, .iconst 0, 1), (28, .iload_n 1, 1), (29, .iastore, 1), (30, .aload_n 0, 1), (31, .getfield 58, 3), (34, .iconst 0, 1), (35, .iload_n 2, 1), (36, .iastore, 1), (37, .iload_n 3, 1), (38, .ifCond .le 226, 3), (41, .iinc 3 (-1), 3), (44, .aload_n 0, 1), (45, .aload_n 0, 1), (46, .getfield 55, 3), (49, .iload_n 3, 1), (50, .iaload, 1), (51, .invokevirtual 175, 3), (54, .istore 4, 2), (56, .aload_n 0, 1), (57, .aload_n 0, 1), (58, .getfield 58, 3), (61, .iload_n 3, 1), (62, .iaload, 1), (63, .invokevirtual 175, 3), (66, .istore 5, 2), (68, .aload_n 0, 1), (69, .getfield 49, 3), (72, .iload 4, 2), (74, .iaload, 1), (75, .istore 6, 2), (77, .aload_n 0, 1), (78, .getfield 49, 3), (81, .iload 5, 2), (83, .iaload, 1), (84, .istore 7, 2), (86, .iload 6, 2), (88, .bipush 8, 2), (90, .if_icmp .lt 38, 3), (93, .iload 6, 2), (95, .iload 7, 2), (97, .if_icmp .eq 31, 3), (100, .aload_n 0, 1), (101, .iload 6, 2), (103, .iload 5, 2), (105, .invokevirtual 181, 3), (108, .ifCond .eq 5, 3), (111, .iconst 0, 1), (112, .ireturn, 1), (113, .aload_n 0, 1), (114, .getfield 52, 3), (117, .iload 6, 2), (119, .bipush 8, 2), (121, .isub, 1), (122, .iload 5, 2), (124, .iastore, 1), (125, .goto 54, 3), (128, .iload 7, 2), (130, .bipush 8, 2), (132, .if_icmp .lt 38, 3), (135, .iload 6, 2), (137, .iload 7, 2), (139, .if_icmp .eq 31, 3), (142, .aload_n 0, 1), (143, .iload 7, 2), (145, .iload 4, 2), (147, .invokevirtual 181, 3), (150, .ifCond .eq 5, 3), (153, .iconst 0, 1), (154, .ireturn, 1), (155, .aload_n 0, 1), (156, .getfield 52, 3), (159, .iload 7, 2), (161, .bipush 8, 2), (163, .isub, 1), (164, .iload 4, 2), (166, .iastore, 1), (167, .goto 12, 3), (170, .iload 6, 2), (172, .iload 7, 2), (174, .if_icmp .eq 5, 3), (177, .iconst 0, 1), (178, .ireturn, 1), (179, .iconst 0, 1), (180, .istore 8, 2), (182, .iload 6, 2), (184, .iload 7, 2), (186, .if_icmp .ne 75, 3), (189, .iload 8, 2), (191, .aload_n 0, 1), (192, .iload 6, 2), (194, .invokevirtual 96, 3), (197, .if_icmp .ge 64, 3), (200, .aload_n 0, 1), (201, .getfield 55, 3), (204, .iload_n 3, 1), (205, .iload 8, 2), (207, .ifCond .ne 10, 3), (210, .iload 4, 2), (212, .iconst 1, 1), (213, .iadd, 1), (214, .goto 11, 3), (217, .aload_n 0, 1), (218, .iload 4, 2), (220, .iconst 1, 1), (221, .iadd, 1), (222, .invokevirtual 178, 3), (225, .iastore, 1), (226, .aload_n 0, 1), (227, .getfield 58, 3), (230, .iload_n 3, 1), (231, .iload 8, 2), (233, .ifCond .ne 10, 3), (236, .iload 5, 2), (238, .iconst 1, 1), (239, .iadd, 1), (240, .goto 11, 3), (243, .aload_n 0, 1), (244, .iload 5, 2), (246, .iconst 1, 1), (247, .iadd, 1), (248, .invokevirtual 178, 3), (251, .iastore, 1), (252, .iinc 3 1, 3), (255, .iinc 8 1, 3), (258, .goto (-76), 3), (261, .goto (-224), 3), (264, .iconst 1, 1), (265, .ireturn, 1)]
/-- RuleCompletionModel.unite(II)Z -/
def ai_m143 : ai_M := (12, ⟨"RuleCompletionModel", "unite", "(II)Z"⟩, prog_13_method_44_code, 9, (some .boolean), ai_i143, [], [], 3, 69)
def ai_i144 : List (Nat × Instr × Nat) := [(0, .iload_n 1, 1), (1, .istore_n 2, 1), (2, .aload_n 0, 1), (3, .getfield 49, 3), (6, .iload_n 2, 1), (7, .iaload, 1), (8, .bipush 8, 2), (10, .if_icmp .lt 38, 3), (13, .aload_n 0, 1), (14, .getfield 52, 3), (17, .aload_n 0, 1), (18, .getfield 49, 3), (21, .iload_n 2, 1), (22, .iaload, 1), (23, .bipush 8, 2), (25, .isub, 1), (26, .iaload, 1), (27, .ifCond .lt 21, 3), (30, .aload_n 0, 1), (31, .getfield 52, 3), (34, .aload_n 0, 1), (35, .getfield 49, 3), (38, .iload_n 2, 1), (39, .iaload, 1), (40, .bipush 8, 2), (42, .isub, 1), (43, .iaload, 1), (44, .istore_n 2, 1), (45, .goto (-43), 3), (48, .iload_n 2, 1), (49, .ireturn, 1)]
/-- RuleCompletionModel.follow(I)I -/
def ai_m144 : ai_M := (12, ⟨"RuleCompletionModel", "follow", "(I)I"⟩, prog_13_method_42_code, 3, (some .int), ai_i144, [], [], 0, 0)
def ai_i145 : List (Nat × Instr × Nat) := [(0, .iconst 1, 1), (1, .istore_n 3, 1), (2, .aload_n 0, 1), (3, .getfield 58, 3), (6, .sipush 300, 3), (9, .iload_n 2, 1), (10, .iastore, 1), (11, .iload_n 3, 1), (12, .ifCond .le 96, 3), (15, .iinc 3 (-1), 3), (18, .aload_n 0, 1), (19, .aload_n 0, 1), (20, .getfield 58, 3), (23, .sipush 300, 3), (26, .iload_n 3, 1), (27, .iadd, 1), (28, .iaload, 1), (29, .invokevirtual 175, 3), (32, .istore 4, 2), (34, .aload_n 0, 1), (35, .getfield 49, 3), (38, .iload 4, 2), (40, .iaload, 1), (41, .iload_n 1, 1), (42, .if_icmp .ne 5, 3), (45, .iconst 1, 1), (46, .ireturn, 1), (47, .iconst 0, 1), (48, .istore 5, 2), (50, .iload 5, 2), (52, .aload_n 0, 1), (53, .aload_n 0, 1), (54, .getfield 49, 3), (57, .iload 4, 2), (59, .iaload, 1), (60, .invokevirtual 96, 3), (63, .if_icmp .ge 42, 3), (66, .aload_n 0, 1), (67, .getfield 58, 3), (70, .sipush 300, 3), (73, .iload_n 3, 1), (74, .iadd, 1), (75, .iload 5, 2), (77, .ifCond .ne 10, 3), (80, .iload 4, 2), (82, .iconst 1, 1), (83, .iadd, 1), (84, .goto 11, 3), (87, .aload_n 0, 1), (88, .iload 4, 2), (90, .iconst 1, 1), (91, .iadd, 1), (92, .invokevirtual 178, 3), (95, .iastore, 1), (96, .iinc 3 1, 3), (99, .iinc 5 1, 3), (102, .goto (-52), 3), (105, .goto (-94), 3), (108, .iconst 0, 1), (109, .ireturn, 1)]
/-- RuleCompletionModel.occurs(II)Z -/
def ai_m145 : ai_M := (12, ⟨"RuleCompletionModel", "occurs", "(II)Z"⟩, prog_13_method_43_code, 6, (some .boolean), ai_i145, [], [], 2, 44)
def ai_i146 : List (Nat × Instr × Nat) := [(0, .iconst 1, 1), (1, .istore_n 2, 1), (2, .iload_n 1, 1), (3, .istore_n 3, 1), (4, .iload_n 2, 1), (5, .ifCond .le 24, 3), (8, .iload_n 2, 1), (9, .aload_n 0, 1), (10, .aload_n 0, 1), (11, .getfield 49, 3), (14, .iload_n 3, 1), (15, .iaload, 1), (16, .invokevirtual 96, 3), (19, .iconst 1, 1), (20, .isub, 1), (21, .iadd, 1), (22, .istore_n 2, 1), (23, .iinc 3 1, 3), (26, .goto (-22), 3), (29, .iload_n 3, 1), (30, .ireturn, 1)]
/-- RuleCompletionModel.endInCommon(I)I -/
def ai_m146 : ai_M := (12, ⟨"RuleCompletionModel", "endInCommon", "(I)I"⟩, prog_13_method_39_code, 4, (some .int), ai_i146, [], [], 1, 21)
def ai_i147 : List (Nat × Instr × Nat) := [(0, .iconst 1, 1), (1, .istore 4, 2), (3, .aload_n 0, 1), (4, .getfield 55, 3), (7, .sipush 200, 3), (10, .iload_n 2, 1), (11, .iastore, 1), (12, .aload_n 0, 1), (13, .getfield 55, 3), (16, .sipush 300, 3), (19, .iload_n 3, 1), (20, .iastore, 1), (21, .iload 4, 2), (23, .ifCond .le 148, 3), (26, .aload_n 0, 1), (27, .getfield 40, 3), (30, .iload_n 1, 1), (31, .iaload, 1), (32, .bipush 24, 2), (34, .if_icmp .gt 137, 3), (37, .aload_n 0, 1), (38, .getfield 55, 3), (41, .sipush 200, 3), (44, .iload 4, 2), (46, .iadd, 1), (47, .iconst 1, 1), (48, .isub, 1), (49, .iaload, 1), (50, .istore 5, 2), (52, .iload 5, 2), (54, .aload_n 0, 1), (55, .getfield 55, 3), (58, .sipush 300, 3), (61, .iload 4, 2), (63, .iadd, 1), (64, .iconst 1, 1), (65, .isub, 1), (66, .iaload, 1), (67, .if_icmp .ne 9, 3), (70, .iinc 4 (-1), 3), (73, .goto 95, 3), (76, .aload_n 0, 1), (77, .getfield 55, 3), (80, .sipush 200, 3), (83, .iload 4, 2), (85, .iadd, 1), (86, .iconst 1, 1), (87, .isub, 1), (88, .iload 5, 2), (90, .iconst 1, 1), (91, .iadd, 1), (92, .iastore, 1), (93, .aload_n 0, 1), (94, .iload 5, 2), (96, .invokevirtual 175, 3), (99, .istore 6, 2), (101, .aload_n 0, 1), (102, .getfield 49, 3), (105, .iload 5, 2), (107, .iaload, 1), (108, .bipush 8, 2), (110, .if_icmp .lt 10, 3), (113, .iload 6, 2), (115, .iload 5, 2), (117, .if_icmp .ne 18, 3), (120, .aload_n 0, 1), (121, .iload_n 1, 1), (122, .aload_n 0, 1), (123, .getfield 49, 3), (126, .iload 5, 2), (128, .iaload, 1), (129, .invokevirtual 92, 3), (132, .goto 36, 3), (135, .aload_n 0, 1), (136, .getfield 55, 3), (139, .sipush 200, 3), (142, .iload 4, 2), (144, .iadd, 1), (145, .iload 6, 2), (147, .iastore, 1), (148, .aload_n 0, 1), (149, .getfield 55, 3), (152, .sipush 300, 3), (155, .iload 4, 2), (157, .iadd, 1), (158, .aload_n 0, 1), (159, .iload 6, 2), (161, .invokevirtual 178, 3), (164, .iastore, 1), (165, .iinc 4 1, 3), (168, .goto (-147), 3), (171, .return_, 1)]
/-- RuleCompletionModel.spell(III)V -/
def ai_m147 : ai_M := (12, ⟨"RuleCompletionModel", "spell", "(III)V"⟩, prog_13_method_45_code, 7, none, ai_i147, [], [], 2, 44)
def ai_i148 : List (Nat × Instr × Nat) := [(0, .aload_n 0, 1), (1, .iconst 0, 1), (2, .putfield 68, 3), (5, .aload_n 0, 1), (6, .getfield 220, 3), (9, .ireturn, 1)]
/-- RuleCompletionModel.steps()I -/
def ai_m148 : ai_M := (12, ⟨"RuleCompletionModel", "steps", "()I"⟩, prog_13_method_54_code, 1, (some .int), ai_i148, [], [], 0, 0)
def ai_i149 : List (Nat × Instr × Nat) := [(0, .aload_n 0, 1), (1, .iconst 0, 1), (2, .putfield 68, 3), (5, .aload_n 0, 1), (6, .getfield 113, 3), (9, .ireturn, 1)]
/-- RuleCompletionModel.rules()I -/
def ai_m149 : ai_M := (12, ⟨"RuleCompletionModel", "rules", "()I"⟩, prog_13_method_55_code, 1, (some .int), ai_i149, [], [], 0, 0)
def ai_i150 : List (Nat × Instr × Nat) := [(0, .aload_n 0, 1), (1, .iconst 0, 1), (2, .putfield 68, 3), (5, .aload_n 0, 1), (6, .getfield 106, 3), (9, .ireturn, 1)]
/-- RuleCompletionModel.waiting()I -/
def ai_m150 : ai_M := (12, ⟨"RuleCompletionModel", "waiting", "()I"⟩, prog_13_method_56_code, 1, (some .int), ai_i150, [], [], 0, 0)
def ai_i151 : List (Nat × Instr × Nat) := [(0, .aload_n 0, 1), (1, .iconst 0, 1), (2, .putfield 68, 3), (5, .iload_n 1, 1), (6, .ifCond .lt 11, 3), (9, .iload_n 1, 1), (10, .aload_n 0, 1), (11, .getfield 113, 3), (14, .if_icmp .lt 5, 3), (17, .iconst 0, 1), (18, .ireturn, 1), (19, .aload_n 0, 1), (20, .iload_n 1, 1), (21, .invokevirtual 199, 3), (24, .aload_n 0, 1), (25, .iload_n 2, 1), (26, .bipush 62, 2), (28, .invokevirtual 245, 3), (31, .ireturn, 1)]
/-- RuleCompletionModel.rule(II)C -/
def ai_m151 : ai_M := (12, ⟨"RuleCompletionModel", "rule", "(II)C"⟩, prog_13_method_58_code, 3, (some .char), ai_i151, [], [], 2, 42)
def ai_i152 : List (Nat × Instr × Nat) := [(0, .iload_n 1, 1), (1, .ifCond .lt 20, 3), (4, .iload_n 1, 1), (5, .aload_n 0, 1), (6, .getfield 40, 3), (9, .iconst 0, 1), (10, .iaload, 1), (11, .aload_n 0, 1), (12, .getfield 40, 3), (15, .iconst 1, 1), (16, .iaload, 1), (17, .iadd, 1), (18, .if_icmp .le 5, 3), (21, .iconst 0, 1), (22, .ireturn, 1), (23, .iload_n 1, 1), (24, .aload_n 0, 1), (25, .getfield 40, 3), (28, .iconst 0, 1), (29, .iaload, 1), (30, .if_icmp .ne 7, 3), (33, .iload_n 2, 1), (34, .goto 43, 3), (37, .iload_n 1, 1), (38, .aload_n 0, 1), (39, .getfield 40, 3), (42, .iconst 0, 1), (43, .iaload, 1), (44, .if_icmp .ge 12, 3), (47, .aload_n 0, 1), (48, .getfield 37, 3), (51, .iload_n 1, 1), (52, .iaload, 1), (53, .goto 21, 3), (56, .aload_n 0, 1), (57, .getfield 37, 3), (60, .bipush 64, 2), (62, .iload_n 1, 1), (63, .iadd, 1), (64, .aload_n 0, 1), (65, .getfield 40, 3), (68, .iconst 0, 1), (69, .iaload, 1), (70, .isub, 1), (71, .iconst 1, 1), (72, .isub, 1), (73, .iaload, 1), (74, .invokestatic 241, 3), (77, .ireturn, 1)]
/-- RuleCompletionModel.told(IC)C -/
def ai_m152 : ai_M := (12, ⟨"RuleCompletionModel", "told", "(IC)C"⟩, prog_13_method_57_code, 3, (some .char), ai_i152, [], [], 1, 20)
def ai_i153 : List (Nat × Instr × Nat) := [(0, .iload_n 0, 1), (1, .bipush 8, 2), (3, .if_icmp .ge 10, 3), (6, .bipush 97, 2), (8, .iload_n 0, 1), (9, .iadd, 1), (10, .goto 10, 3), (13, .bipush 117, 2), (15, .iload_n 0, 1), (16, .iadd, 1), (17, .bipush 8, 2), (19, .isub, 1), (20, .i2c, 1), (21, .ireturn, 1)]
/-- RuleCompletionModel.letter(I)C -/
def ai_m153 : ai_M := (12, ⟨"RuleCompletionModel", "letter", "(I)C"⟩, prog_13_method_10_code, 1, (some .char), ai_i153, [], [], 0, 0)
def ai_i154 : List (Nat × Instr × Nat) := [(0, .aload_n 0, 1), (1, .iconst 0, 1), (2, .putfield 68, 3), (5, .iload_n 1, 1), (6, .ifCond .lt 11, 3), (9, .iload_n 1, 1), (10, .aload_n 0, 1), (11, .getfield 106, 3), (14, .if_icmp .lt 5, 3), (17, .iconst 0, 1), (18, .ireturn, 1), (19, .aload_n 0, 1), (20, .iload_n 1, 1), (21, .invokevirtual 214, 3), (24, .aload_n 0, 1), (25, .iload_n 2, 1), (26, .bipush 61, 2), (28, .invokevirtual 245, 3), (31, .ireturn, 1)]
/-- RuleCompletionModel.equationAt(II)C -/
def ai_m154 : ai_M := (12, ⟨"RuleCompletionModel", "equationAt", "(II)C"⟩, prog_13_method_59_code, 3, (some .char), ai_i154, [], [], 2, 42)
def ai_i155 : List (Nat × Instr × Nat) := [(0, .aload_n 0, 1), (1, .iconst 0, 1), (2, .aload_n 0, 1), (3, .getfield 85, 3), (6, .iconst 0, 1), (7, .invokevirtual 99, 3), (10, .istore_n 1, 1), (11, .iload_n 1, 1), (12, .ifCond .eq 11, 3), (15, .aload_n 0, 1), (16, .iconst 0, 1), (17, .invokevirtual 147, 3), (20, .goto 4, 3), (23, .iconst 0, 1), (24, .istore_n 2, 1), (25, .aload_n 0, 1), (26, .iload_n 1, 1), (27, .ifCond .ne 7, 3), (30, .iconst 1, 1), (31, .goto 4, 3), (34, .iconst 0, 1), (35, .iload_n 2, 1), (36, .ifCond .ge 7, 3), (39, .iconst 1, 1), (40, .goto 4, 3), (43, .iconst 0, 1), (44, .invokevirtual 72, 3), (47, .ifCond .eq 5, 3), (50, .iconst 0, 1), (51, .ireturn, 1), (52, .aload_n 0, 1), (53, .aload_n 0, 1), (54, .getfield 40, 3), (57, .iconst 0, 1), (58, .iaload, 1), (59, .putfield 85, 3), (62, .iconst 0, 1), (63, .istore_n 3, 1), (64, .iload_n 3, 1), (65, .aload_n 0, 1), (66, .getfield 85, 3), (69, .if_icmp .ge 24, 3), (72, .aload_n 0, 1), (73, .getfield 16, 3), (76, .iload_n 3, 1), (77, .aload_n 0, 1), (78, .getfield 37, 3), (81, .iload_n 3, 1), (82, .iaload, 1), (83, .invokestatic 241, 3), (86, .iastore, 1), (87, .iinc 3 1, 3), (90, .goto (-26), 3), (93, .iload_n 2, 1), (94, .ireturn, 1)]
/-- RuleCompletionModel.normalize()I -/
def ai_m155 : ai_M := (12, ⟨"RuleCompletionModel", "normalize", "()I"⟩, prog_13_method_60_code, 4, (some .int), ai_i155, [], [], 5, 118)
def ai_i156 : List (Nat × Instr × Nat) := [(0, .aload_n 0, 1), (1, .aload_n 0, 1), (2, .invokevirtual 235, 3), (5, .ifCond .ne 7, 3), (8, .iconst 1, 1), (9, .goto 4, 3), (12, .iconst 0, 1), (13, .iconst 0, 1), (14, .invokevirtual 72, 3), (17, .ifCond .eq 5, 3), (20, .iconst 0, 1), (21, .ireturn, 1), (22, .aload_n 0, 1), (23, .iconst 0, 1), (24, .iconst 1, 1), (25, .invokevirtual 153, 3), (28, .ifCond .eq 5, 3), (31, .iconst 0, 1), (32, .ireturn, 1), (33, .aload_n 0, 1), (34, .iconst 0, 1), (35, .iconst 1, 1), (36, .invokevirtual 229, 3), (39, .ifCond .eq 5, 3), (42, .iconst 1, 1), (43, .ireturn, 1), (44, .aload_n 0, 1), (45, .iconst 1, 1), (46, .iconst 0, 1), (47, .invokevirtual 229, 3), (50, .ifCond .eq 7, 3), (53, .iconst (-1), 1), (54, .goto 4, 3), (57, .iconst 2, 1), (58, .ireturn, 1)]
/-- RuleCompletionModel.compare()I -/
def ai_m156 : ai_M := (12, ⟨"RuleCompletionModel", "compare", "()I"⟩, prog_13_method_61_code, 1, (some .int), ai_i156, [], [], 5, 125)
def ai_i157 : List (Nat × Instr × Nat) := [(0, .aload_n 0, 1), (1, .iconst 0, 1), (2, .putfield 68, 3), (5, .aload_n 0, 1), (6, .iconst 0, 1), (7, .putfield 113, 3), (10, .aload_n 0, 1), (11, .iconst 0, 1), (12, .putfield 106, 3), (15, .aload_n 0, 1), (16, .iconst 0, 1), (17, .putfield 150, 3), (20, .aload_n 0, 1), (21, .iconst 0, 1), (22, .putfield 220, 3), (25, .return_, 1)]
/-- RuleCompletionModel.clear()V -/
def ai_m157 : ai_M := (12, ⟨"RuleCompletionModel", "clear", "()V"⟩, prog_13_method_62_code, 1, none, ai_i157, [], [], 0, 0)
def ai_i158 : List (Nat × Instr × Nat) := [(0, .iconst 0, 1), (1, .istore_n 2, 1), (2, .aload_n 0, 1), (3, .arraylength, 1), (4, .istore_n 3, 1), (5, .iload_n 2, 1), (6, .iload_n 3, 1), (7, .if_icmp .ge 13, 3), (10, .aload_n 0, 1), (11, .iload_n 2, 1), (12, .iload_n 1, 1), (13, .iastore, 1), (14, .iinc 2 1, 3), (17, .goto (-12), 3), (20, .return_, 1)]
/-- java/util/Arrays.fill([II)V -/
def ai_m158 : ai_M := (13, ⟨"java/util/Arrays", "fill", "([II)V"⟩, prog_22_method_103_code, 4, none, ai_i158, [], [], 0, 0)
def ai_i159 : List (Nat × Instr × Nat) := [(0, .new 8, 3), (3, .dup, 1), (4, .invokespecial 33, 3), (7, .astore_n 1, 1), (8, .new 34, 3), (11, .dup, 1), (12, .invokespecial 36, 3), (15, .astore_n 2, 1), (16, .iconst 1, 1), (17, .newarray .long, 2), (19, .astore_n 3, 1), (20, .iconst 0, 1), (21, .istore 4, 2), (23, .iload 4, 2), (25, .aload_n 0, 1), (26, .arraylength, 1), (27, .iconst 3, 1), (28, .isub, 1), (29, .if_icmp .gt 540, 3), (32, .aload_n 0, 1), (33, .iload 4, 2), (35, .iaload, 1), (36, .bipush 15, 2), (38, .iand, 1), (39, .tableswitch 524 0 13 #[69, 119, 176, 187, 231, 287, 300, 313, 326, 363, 400, 444, 488, 513], 69), (108, .aload_n 1, 1), (109, .aload_n 0, 1), (110, .iload 4, 2), (112, .iconst 1, 1), (113, .iadd, 1), (114, .iaload, 1), (115, .i2c, 1), (116, .aload_n 0, 1), (117, .iload 4, 2), (119, .iconst 2, 1), (120, .iadd, 1), (121, .iaload, 1), (122, .invokestatic 37, 3), (125, .istore 5, 2), (127, .aload_n 2, 1), (128, .aload_n 0, 1), (129, .iload 4, 2), (131, .iconst 1, 1), (132, .iadd, 1), (133, .iaload, 1), (134, .i2c, 1), (135, .aload_n 0, 1), (136, .iload 4, 2), (138, .iconst 2, 1), (139, .iadd, 1), (140, .iaload, 1), (141, .invokevirtual 42, 3), (144, .aload_n 2, 1), (145, .invokevirtual 43, 3), (148, .iload 5, 2), (150, .if_icmp .eq 5, 3), (153, .iconst 0, 1), (154, .ireturn, 1), (155, .goto 408, 3), (158, .aload_n 1, 1), (159, .aload_n 0, 1), (160, .iload 4, 2), (162, .iconst 1, 1), (163, .iadd, 1), (164, .iaload, 1), (165, .i2l, 1), (166, .bipush 32, 2), (168, .lshl, 1), (169, .aload_n 0, 1), (170, .iload 4, 2), (172, .iconst 2, 1), (173, .iadd, 1), (174, .iaload, 1), (175, .i2l, 1), (176, .ldc2_w 46, 3), (179, .land, 1), (180, .lor, 1), (181, .invokevirtual 48, 3), (184, .aload_n 2, 1), (185, .aload_n 0, 1), (186, .iload 4, 2), (188, .iconst 1, 1), (189, .iadd, 1), (190, .iaload, 1), (191, .i2l, 1), (192, .bipush 32, 2), (194, .lshl, 1), (195, .aload_n 0, 1), (196, .iload 4, 2), (198, .iconst 2, 1), (199, .iadd, 1), (200, .iaload, 1), (201, .i2l, 1), (202, .ldc2_w 46, 3), (205, .land, 1), (206, .lor, 1), (207, .invokevirtual 52, 3), (210, .if_icmp .eq 353, 3), (213, .iconst 0, 1), (214, .ireturn, 1), (215, .aload_n 1, 1), (216, .invokevirtual 53, 3), (219, .aload_n 2, 1), (220, .invokevirtual 56, 3), (223, .goto 340, 3), (226, .aload_n 1, 1), (227, .aload_n 3, 1), (228, .invokestatic 57, 3), (231, .istore 5, 2), (233, .aload_n 2, 1), (234, .invokevirtual 60, 3), (237, .istore 6, 2), (239, .aload_n 2, 1), (240, .invokevirtual 43, 3), (243, .iload 5, 2), (245, .if_icmp .eq 5, 3), (248, .iconst 0, 1), (249, .ireturn, 1), (250, .iload 5, 2), (252, .ifCond .ne 15, 3), (255, .aload_n 3, 1), (256, .iconst 0, 1), (257, .laload, 1), (258, .iload 6, 2), (260, .i2l, 1), (261, .lcmp, 1), (262, .ifCond .eq 5, 3), (265, .iconst 0, 1), (266, .ireturn, 1), (267, .goto 296, 3), (270, .aload_n 1, 1), (271, .aload_n 0, 1), (272, .iload 4, 2), (274, .iconst 1, 1), (275, .iadd, 1), (276, .iaload, 1), (277, .aload_n 3, 1), (278, .invokestatic 61, 3), (281, .istore 5, 2), (283, .aload_n 2, 1), (284, .aload_n 0, 1), (285, .iload 4, 2), (287, .iconst 1, 1), (288, .iadd, 1), (289, .iaload, 1), (290, .invokevirtual 64, 3), (293, .istore 6, 2), (295, .aload_n 2, 1), (296, .invokevirtual 43, 3), (299, .iload 5, 2), (301, .if_icmp .eq 5, 3), (304, .iconst 0, 1), (305, .ireturn, 1), (306, .iload 5, 2), (308, .ifCond .ne 15, 3), (311, .aload_n 3, 1), (312, .iconst 0, 1), (313, .laload, 1), (314, .iload 6, 2), (316, .i2l, 1), (317, .lcmp, 1), (318, .ifCond .eq 5, 3), (321, .iconst 0, 1), (322, .ireturn, 1), (323, .goto 240, 3), (326, .aload_n 1, 1), (327, .invokevirtual 65, 3), (330, .aload_n 2, 1), (331, .invokevirtual 68, 3), (334, .if_icmp .eq 229, 3), (337, .iconst 0, 1), (338, .ireturn, 1), (339, .aload_n 1, 1), (340, .invokevirtual 69, 3), (343, .aload_n 2, 1), (344, .invokevirtual 72, 3), (347, .if_icmp .eq 216, 3), (350, .iconst 0, 1), (351, .ireturn, 1), (352, .aload_n 1, 1), (353, .invokevirtual 73, 3), (356, .aload_n 2, 1), (357, .invokevirtual 76, 3), (360, .if_icmp .eq 203, 3), (363, .iconst 0, 1), (364, .ireturn, 1), (365, .aload_n 1, 1), (366, .aload_n 0, 1), (367, .iload 4, 2), (369, .iconst 1, 1), (370, .iadd, 1), (371, .iaload, 1), (372, .aload_n 0, 1), (373, .iload 4, 2), (375, .iconst 2, 1), (376, .iadd, 1), (377, .iaload, 1), (378, .invokevirtual 77, 3), (381, .aload_n 2, 1), (382, .aload_n 0, 1), (383, .iload 4, 2), (385, .iconst 1, 1), (386, .iadd, 1), (387, .iaload, 1), (388, .aload_n 0, 1), (389, .iload 4, 2), (391, .iconst 2, 1), (392, .iadd, 1), (393, .iaload, 1), (394, .invokevirtual 81, 3), (397, .if_icmp .eq 166, 3), (400, .iconst 0, 1), (401, .ireturn, 1), (402, .aload_n 1, 1), (403, .aload_n 0, 1), (404, .iload 4, 2), (406, .iconst 1, 1), (407, .iadd, 1), (408, .iaload, 1), (409, .aload_n 0, 1), (410, .iload 4, 2), (412, .iconst 2, 1), (413, .iadd, 1), (414, .iaload, 1), (415, .invokevirtual 82, 3), (418, .aload_n 2, 1), (419, .aload_n 0, 1), (420, .iload 4, 2), (422, .iconst 1, 1), (423, .iadd, 1), (424, .iaload, 1), (425, .aload_n 0, 1), (426, .iload 4, 2), (428, .iconst 2, 1), (429, .iadd, 1), (430, .iaload, 1), (431, .invokevirtual 85, 3), (434, .if_icmp .eq 129, 3), (437, .iconst 0, 1), (438, .ireturn, 1), (439, .aload_n 1, 1), (440, .aload_n 3, 1), (441, .invokestatic 86, 3), (444, .istore 5, 2), (446, .aload_n 2, 1), (447, .invokevirtual 88, 3), (450, .istore 6, 2), (452, .aload_n 2, 1), (453, .invokevirtual 43, 3), (456, .iload 5, 2), (458, .if_icmp .eq 5, 3), (461, .iconst 0, 1), (462, .ireturn, 1), (463, .iload 5, 2), (465, .ifCond .ne 15, 3), (468, .aload_n 3, 1), (469, .iconst 0, 1), (470, .laload, 1), (471, .iload 6, 2), (473, .i2l, 1), (474, .lcmp, 1), (475, .ifCond .eq 5, 3), (478, .iconst 0, 1), (479, .ireturn, 1), (480, .goto 83, 3), (483, .aload_n 1, 1), (484, .aload_n 3, 1), (485, .invokestatic 89, 3), (488, .istore 5, 2), (490, .aload_n 2, 1), (491, .invokevirtual 91, 3), (494, .istore 6, 2), (496, .aload_n 2, 1), (497, .invokevirtual 43, 3), (500, .iload 5, 2), (502, .if_icmp .eq 5, 3), (505, .iconst 0, 1), (506, .ireturn, 1), (507, .iload 5, 2), (509, .ifCond .ne 15, 3), (512, .aload_n 3, 1), (513, .iconst 0, 1), (514, .laload, 1), (515, .iload 6, 2), (517, .i2l, 1), (518, .lcmp, 1), (519, .ifCond .eq 5, 3), (522, .iconst 0, 1), (523, .ireturn, 1), (524, .goto 39, 3), (527, .aload_n 1, 1), (528, .aload_n 0, 1), (529, .iload 4, 2), (531, .iconst 1, 1), (532, .iadd, 1), (533, .iaload, 1), (534, .invokevirtual 92, 3), (537, .aload_n 2, 1), (538, .aload_n 0, 1), (539, .iload 4, 2), (541, .iconst 1, 1), (542, .iadd, 1), (543, .iaload, 1), (544, .invokevirtual 96, 3), (547, .if_icmp .eq 16, 3), (550, .iconst 0, 1), (551, .ireturn, 1), (552, .aload_n 1, 1), (553, .invokevirtual 97, 3), (556, .aload_n 2, 1), (557, .invokevirtual 100, 3), (560, .goto 3, 3), (563, .iinc 4 3, 3), (566, .goto (-543), 3), (569, .iconst 1, 1), (570, .ireturn, 1)]
/-- RuleCompletionLaw.law([I)Z -/
def ai_m159 : ai_M := (99, ⟨"RuleCompletionLaw", "law", "([I)Z"⟩, code, 7, (some .boolean), ai_i159, [], [], 12, 460)
def ai_MT : List ai_M := [ai_m0, ai_m1, ai_m2, ai_m3, ai_m4, ai_m5, ai_m6, ai_m7, ai_m8, ai_m9, ai_m10, ai_m11, ai_m12, ai_m13, ai_m14, ai_m15, ai_m16, ai_m17, ai_m18, ai_m19, ai_m20, ai_m21, ai_m22, ai_m23, ai_m24, ai_m25, ai_m26, ai_m27, ai_m28, ai_m29, ai_m30, ai_m31, ai_m32, ai_m33, ai_m34, ai_m35, ai_m36, ai_m37, ai_m38, ai_m39, ai_m40, ai_m41, ai_m42, ai_m43, ai_m44, ai_m45, ai_m46, ai_m47, ai_m48, ai_m49, ai_m50, ai_m51, ai_m52, ai_m53, ai_m54, ai_m55, ai_m56, ai_m57, ai_m58, ai_m59, ai_m60, ai_m61, ai_m62, ai_m63, ai_m64, ai_m65, ai_m66, ai_m67, ai_m68, ai_m69, ai_m70, ai_m71, ai_m72, ai_m73, ai_m74, ai_m75, ai_m76, ai_m77, ai_m78, ai_m79, ai_m80, ai_m81, ai_m82, ai_m83, ai_m84, ai_m85, ai_m86, ai_m87, ai_m88, ai_m89, ai_m90, ai_m91, ai_m92, ai_m93, ai_m94, ai_m95, ai_m96, ai_m97, ai_m98, ai_m99, ai_m100, ai_m101, ai_m102, ai_m103, ai_m104, ai_m105, ai_m106, ai_m107, ai_m108, ai_m109, ai_m110, ai_m111, ai_m112, ai_m113, ai_m114, ai_m115, ai_m116, ai_m117, ai_m118, ai_m119, ai_m120, ai_m121, ai_m122, ai_m123, ai_m124, ai_m125, ai_m126, ai_m127, ai_m128, ai_m129, ai_m130, ai_m131, ai_m132, ai_m133, ai_m134, ai_m135, ai_m136, ai_m137, ai_m138, ai_m139, ai_m140, ai_m141, ai_m142, ai_m143, ai_m144, ai_m145, ai_m146, ai_m147, ai_m148, ai_m149, ai_m150, ai_m151, ai_m152, ai_m153, ai_m154, ai_m155, ai_m156, ai_m157, ai_m158, ai_m159]
def ai_fldL : List ((Nat × Nat) × (Nat × Nat × Bool)) := [((0, 12), (0, 0, false)), ((0, 19), (0, 1, false)), ((0, 26), (0, 2, false)), ((0, 40), (0, 3, false)), ((0, 68), (2, 1, true)), ((0, 78), (5, 10, true)), ((0, 81), (5, 1, true)), ((0, 95), (6, 1, true)), ((0, 106), (5, 11, true)), ((0, 109), (5, 0, true)), ((0, 116), (3, 0, true)), ((0, 126), (5, 3, true)), ((0, 145), (5, 4, true)), ((0, 149), (3, 1, true)), ((0, 158), (2, 0, true)), ((1, 9), (2, 0, false)), ((1, 15), (2, 1, false)), ((1, 25), (4, 1, true)), ((1, 30), (4, 0, true)), ((1, 33), (3, 0, true)), ((1, 43), (3, 1, true)), ((2, 14), (5, 1, false)), ((2, 20), (5, 2, false)), ((2, 26), (5, 6, false)), ((2, 33), (5, 7, false)), ((2, 37), (5, 8, false)), ((2, 43), (5, 9, false)), ((2, 47), (5, 10, false)), ((2, 51), (5, 11, false)), ((2, 54), (5, 0, false)), ((2, 62), (5, 3, false)), ((2, 71), (5, 4, false)), ((2, 78), (5, 5, false)), ((2, 82), (6, 1, true)), ((2, 97), (6, 0, true)), ((2, 107), (3, 0, true)), ((2, 114), (3, 1, true)), ((3, 11), (10, 1, false)), ((3, 15), (10, 2, false)), ((3, 19), (10, 3, false)), ((3, 22), (10, 4, false)), ((3, 25), (10, 5, false)), ((3, 29), (10, 6, false)), ((3, 32), (10, 7, false)), ((3, 36), (10, 8, false)), ((3, 39), (10, 9, false)), ((3, 42), (10, 10, false)), ((3, 45), (10, 11, false)), ((3, 48), (10, 0, false)), ((3, 52), (3, 0, true)), ((3, 62), (3, 1, true)), ((3, 65), (4, 1, true)), ((3, 70), (4, 0, true)), ((4, 12), (3, 0, false)), ((4, 18), (3, 1, false)), ((4, 29), (4, 1, true)), ((4, 36), (4, 0, true)), ((5, 9), (6, 1, false)), ((5, 17), (6, 0, false)), ((6, 12), (9, 1, false)), ((6, 18), (9, 2, false)), ((6, 21), (9, 3, false)), ((6, 25), (9, 4, false)), ((6, 28), (9, 5, false)), ((6, 32), (9, 0, false)), ((6, 48), (4, 0, true)), ((6, 52), (4, 1, true)), ((7, 9), (7, 0, false)), ((7, 15), (7, 1, false)), ((7, 25), (3, 0, true)), ((7, 35), (3, 1, true)), ((7, 38), (4, 1, true)), ((7, 43), (4, 0, true)), ((8, 9), (8, 2, false)), ((8, 15), (8, 3, false)), ((8, 21), (8, 4, false)), ((8, 25), (8, 5, false)), ((8, 29), (8, 0, false)), ((8, 33), (8, 1, false)), ((8, 45), (6, 0, true)), ((8, 51), (3, 1, true)), ((8, 60), (4, 0, true)), ((8, 64), (4, 1, true)), ((8, 77), (6, 1, true)), ((8, 80), (3, 0, true)), ((9, 9), (1, 0, false)), ((9, 15), (1, 1, false)), ((9, 18), (1, 2, false)), ((10, 9), (4, 0, false)), ((10, 15), (4, 1, false)), ((12, 7), (11, 1, false)), ((12, 13), (11, 2, false)), ((12, 16), (11, 5, false)), ((12, 19), (11, 7, false)), ((12, 22), (11, 8, false)), ((12, 25), (11, 9, false)), ((12, 28), (11, 12, false)), ((12, 31), (11, 13, false)), ((12, 34), (11, 14, false)), ((12, 37), (11, 17, false)), ((12, 40), (11, 18, false)), ((12, 43), (11, 19, false)), ((12, 46), (11, 20, false)), ((12, 49), (11, 21, false)), ((12, 52), (11, 22, false)), ((12, 55), (11, 23, false)), ((12, 58), (11, 24, false)), ((12, 61), (11, 25, false)), ((12, 64), (11, 26, false)), ((12, 68), (11, 0, false)), ((12, 76), (11, 3, false)), ((12, 85), (11, 4, false)), ((12, 106), (11, 10, false)), ((12, 113), (11, 6, false)), ((12, 150), (11, 15, false)), ((12, 196), (11, 11, false)), ((12, 220), (11, 16, false))]
def ai_mthL : List ((Nat × Nat) × (Nat × Nat × Nat × Nat)) := [((0, 11), (5, 78, 0, 1)), ((0, 18), (5, 16, 0, 2)), ((0, 25), (5, 47, 0, 3)), ((0, 34), (4, 53, 1, 6)), ((0, 37), (4, 22, 2, 5)), ((0, 51), (0, 79, 1, 1)), ((0, 60), (0, 81, 2, 1)), ((0, 64), (0, 17, 1, 2)), ((0, 72), (0, 19, 2, 2)), ((0, 85), (0, 55, 0, 6)), ((0, 91), (0, 24, 1, 5)), ((0, 100), (0, 25, 0, 5)), ((0, 103), (0, 26, 0, 5)), ((0, 112), (0, 54, 3, 6)), ((0, 120), (0, 20, 4, 2)), ((0, 130), (0, 73, 1, 8)), ((0, 141), (0, 21, 1, 2)), ((0, 152), (0, 61, 2, 9)), ((0, 162), (0, 23, 0, 5)), ((1, 19), (2, 18, 2, 2)), ((1, 39), (0, 20, 4, 2)), ((1, 46), (0, 79, 1, 1)), ((1, 52), (3, 12, 1, 0)), ((1, 55), (0, 82, 1, 1)), ((1, 59), (0, 85, 1, 4)), ((1, 63), (0, 86, 0, 4)), ((2, 11), (4, 53, 1, 6)), ((2, 25), (5, 68, 0, 7)), ((2, 32), (5, 47, 0, 3)), ((2, 42), (5, 84, 0, 4)), ((2, 59), (4, 72, 2, 8)), ((2, 68), (4, 60, 1, 9)), ((2, 77), (4, 32, 1, 10)), ((2, 85), (0, 69, 1, 7)), ((2, 89), (0, 56, 1, 6)), ((2, 93), (0, 57, 0, 6)), ((2, 101), (0, 50, 1, 3)), ((2, 104), (0, 58, 1, 6)), ((2, 110), (0, 73, 1, 8)), ((2, 117), (0, 61, 2, 9)), ((2, 121), (0, 55, 0, 6)), ((2, 125), (0, 27, 1, 5)), ((2, 128), (0, 28, 0, 5)), ((2, 131), (0, 29, 0, 5)), ((2, 134), (0, 31, 0, 5)), ((2, 137), (0, 51, 1, 3)), ((2, 140), (0, 77, 2, 8)), ((2, 144), (0, 87, 1, 4)), ((2, 147), (0, 30, 0, 5)), ((2, 150), (0, 33, 2, 10)), ((2, 154), (0, 35, 2, 10)), ((2, 158), (0, 90, 1, 4)), ((2, 162), (0, 59, 1, 6)), ((3, 58), (0, 34, 3, 10)), ((3, 71), (3, 12, 1, 0)), ((3, 75), (0, 83, 4, 1)), ((3, 81), (0, 36, 2, 10)), ((3, 85), (0, 41, 1, 10)), ((3, 89), (0, 44, 3, 10)), ((3, 93), (0, 37, 2, 10)), ((3, 97), (0, 38, 1, 10)), ((3, 101), (0, 39, 2, 10)), ((3, 104), (0, 40, 2, 10)), ((3, 107), (0, 82, 1, 1)), ((3, 111), (0, 42, 2, 10)), ((3, 114), (0, 43, 1, 10)), ((3, 117), (0, 45, 2, 10)), ((3, 121), (0, 85, 1, 4)), ((3, 125), (0, 46, 1, 10)), ((4, 11), (5, 84, 0, 4)), ((4, 21), (0, 87, 1, 4)), ((4, 25), (0, 90, 1, 4)), ((4, 33), (0, 49, 0, 3)), ((5, 21), (5, 47, 0, 3)), ((5, 22), (0, 55, 0, 6)), ((5, 26), (0, 50, 1, 3)), ((5, 30), (0, 52, 1, 3)), ((5, 34), (0, 49, 0, 3)), ((5, 38), (0, 48, 2, 3)), ((6, 11), (5, 84, 0, 4)), ((6, 36), (0, 90, 1, 4)), ((6, 40), (0, 62, 2, 9)), ((6, 44), (0, 87, 1, 4)), ((6, 56), (0, 83, 4, 1)), ((6, 62), (0, 63, 2, 9)), ((6, 66), (0, 65, 2, 9)), ((6, 69), (0, 82, 1, 1)), ((6, 73), (0, 64, 2, 9)), ((6, 76), (3, 12, 1, 0)), ((6, 80), (0, 66, 2, 9)), ((6, 83), (0, 67, 2, 9)), ((6, 86), (0, 80, 1, 1)), ((6, 89), (0, 88, 4, 4)), ((7, 19), (2, 158, 2, 0)), ((7, 31), (0, 70, 1, 7)), ((7, 47), (3, 12, 1, 0)), ((7, 51), (0, 71, 1, 7)), ((8, 20), (5, 84, 0, 4)), ((8, 37), (0, 86, 0, 4)), ((8, 41), (0, 74, 1, 8)), ((8, 56), (0, 76, 2, 8)), ((8, 67), (0, 83, 4, 1)), ((8, 73), (0, 75, 3, 8)), ((8, 83), (2, 158, 2, 0)), ((8, 89), (3, 12, 1, 0)), ((8, 93), (0, 88, 4, 4)), ((8, 97), (0, 89, 3, 4)), ((8, 101), (0, 85, 1, 4)), ((8, 105), (0, 87, 1, 4)), ((9, 22), (0, 80, 1, 1)), ((9, 26), (0, 82, 1, 1)), ((10, 19), (0, 85, 1, 4)), ((10, 29), (0, 88, 4, 4)), ((11, 7), (0, 10, 2, 0)), ((11, 17), (0, 11, 0, 0)), ((11, 21), (0, 13, 1, 0)), ((11, 25), (0, 14, 0, 0)), ((11, 30), (0, 15, 0, 0)), ((12, 72), (0, 99, 2, 11)), ((12, 81), (2, 101, 2, 11)), ((12, 88), (0, 107, 1, 11)), ((12, 92), (0, 108, 2, 11)), ((12, 96), (0, 109, 1, 11)), ((12, 99), (0, 106, 3, 11)), ((12, 103), (0, 123, 2, 11)), ((12, 109), (0, 139, 1, 11)), ((12, 116), (0, 120, 2, 11)), ((12, 120), (0, 121, 4, 11)), ((12, 124), (0, 119, 3, 11)), ((12, 127), (0, 122, 3, 11)), ((12, 131), (0, 118, 1, 11)), ((12, 134), (0, 127, 3, 11)), ((12, 137), (0, 128, 3, 11)), ((12, 141), (0, 129, 4, 11)), ((12, 144), (0, 126, 4, 11)), ((12, 147), (0, 117, 1, 11)), ((12, 153), (0, 124, 2, 11)), ((12, 157), (0, 110, 0, 11)), ((12, 161), (0, 138, 0, 11)), ((12, 165), (0, 130, 0, 11)), ((12, 168), (0, 111, 1, 11)), ((12, 172), (2, 142, 1, 11)), ((12, 175), (0, 144, 1, 11)), ((12, 178), (0, 146, 1, 11)), ((12, 181), (0, 145, 2, 11)), ((12, 184), (0, 141, 2, 11)), ((12, 187), (0, 143, 2, 11)), ((12, 190), (0, 147, 3, 11)), ((12, 193), (0, 137, 0, 11)), ((12, 199), (0, 134, 1, 11)), ((12, 202), (0, 135, 1, 11)), ((12, 205), (0, 132, 1, 11)), ((12, 208), (0, 133, 0, 11)), ((12, 211), (0, 136, 0, 11)), ((12, 214), (0, 115, 1, 11)), ((12, 217), (0, 140, 2, 11)), ((12, 223), (0, 114, 0, 11)), ((12, 226), (0, 116, 1, 11)), ((12, 229), (0, 125, 2, 11)), ((12, 232), (0, 131, 0, 11)), ((12, 235), (0, 105, 0, 11)), ((12, 238), (0, 113, 0, 11)), ((12, 241), (2, 153, 1, 11)), ((12, 245), (0, 152, 2, 11)), ((99, 33), (4, 0, 0, 0)), ((99, 36), (4, 96, 0, 11)), ((99, 37), (6, 91, 3, 0)), ((99, 42), (0, 98, 2, 11)), ((99, 43), (0, 97, 0, 11)), ((99, 48), (0, 1, 1, 0)), ((99, 52), (0, 100, 1, 11)), ((99, 53), (0, 2, 0, 0)), ((99, 56), (0, 102, 0, 11)), ((99, 57), (6, 92, 2, 0)), ((99, 60), (0, 104, 0, 11)), ((99, 61), (6, 93, 3, 0)), ((99, 64), (0, 112, 1, 11)), ((99, 65), (0, 3, 0, 0)), ((99, 68), (0, 148, 0, 11)), ((99, 69), (0, 4, 0, 0)), ((99, 72), (0, 149, 0, 11)), ((99, 73), (0, 5, 0, 0)), ((99, 76), (0, 150, 0, 11)), ((99, 77), (0, 6, 2, 0)), ((99, 81), (0, 151, 2, 11)), ((99, 82), (0, 7, 2, 0)), ((99, 85), (0, 154, 2, 11)), ((99, 86), (6, 94, 2, 0)), ((99, 88), (0, 155, 0, 11)), ((99, 89), (6, 95, 2, 0)), ((99, 91), (0, 156, 0, 11)), ((99, 92), (0, 8, 1, 0)), ((99, 96), (0, 103, 1, 11)), ((99, 97), (0, 9, 0, 0)), ((99, 100), (0, 157, 0, 11))]
def ai_newL : List ((Nat × Nat) × Nat) := [((0, 9), 1), ((0, 16), 2), ((0, 23), 3), ((0, 30), 5), ((0, 32), 6), ((2, 9), 6), ((2, 23), 7), ((2, 30), 3), ((2, 40), 4), ((2, 57), 8), ((2, 66), 9), ((2, 75), 10), ((4, 9), 4), ((5, 15), 3), ((6, 9), 4), ((8, 18), 4), ((99, 8), 0), ((99, 34), 11)]
def ai_anwL : List (Nat × Nat) := [(5, 15)]
def ai_ldjL : List ((Nat × Nat) × Int64) := [((1, 23), 255), ((12, 79), 255), ((99, 46), 4294967295)]
def ai_objL : List (Nat × Nat) := [(0, 3), (1, 3), (2, 3), (3, 5), (4, 3), (5, 3), (6, 3), (7, 3), (8, 3), (9, 3), (10, 3), (12, 1)]
def ai_cpyL : List (Nat × Nat) := [(10, 23)]
def ai_fld (oi x : Nat) : Option (Nat × Nat × Bool) := ai_fldL.lookup (oi, x)
def ai_mth (oi x : Nat) : Option (Nat × Nat × Nat × Nat) := ai_mthL.lookup (oi, x)
def ai_new (oi x : Nat) : Option Nat := ai_newL.lookup (oi, x)
def ai_anw (oi x : Nat) : Bool := ai_anwL.contains (oi, x)
def ai_ldc (_ _ : Nat) : Option Int32 := none
def ai_ldcJ (oi x : Nat) : Option Int64 := ai_ldjL.lookup (oi, x)
def ai_isObj (oi x : Nat) : Bool := ai_objL.contains (oi, x)
def ai_isCpy (oi x : Nat) : Bool := ai_cpyL.contains (oi, x)
def ai_at (M : ai_M) (pc : Nat) : Option (Instr × Nat) := (ai_code M).lookup pc
def ai_thr (M : ai_M) (pc : Nat) : Option String := ((ai_thrL M).lookup pc).map fun q => q.1
/-- the handler that takes an exception of just that kind -/
def ai_hand (M : ai_M) (pc : Nat) (E : String) : Option Nat := ((ai_ex M).find? fun h => decide (h.1 ≤ pc) && decide (pc < h.2.1) && decide (h.2.2.2.2 = E)).map fun h => h.2.2.1
def ai_ivk (i : Instr) : Option Nat := match i with
  | .invokevirtual x => some x
  | .invokestatic x => some x
  | .invokespecial x => some x
  | _ => none
/-- a method's own word -/
def ai_cw (M : ai_M) : Cond := match ai_ex M with
  | [] => .code (ai_y M) (ai_cc M) (ai_nL M) (ai_ret M)
  | h :: t => .codeWith (ai_y M) (ai_cc M) (ai_nL M) (ai_ret M) ((h :: t).map fun h => (h.1, h.2.1, h.2.2.1, h.2.2.2.1))
def ai_fw (e : (Nat × Nat) × (Nat × Nat × Bool)) : Cond := match ai_cl[e.2.1]? with
  | some (C, T, _) => if e.2.2.2 then .fieldLinkNest (ai_own e.1.1) e.1.2 C (T e.2.2.1).2.1 (T e.2.2.1).2.2.1 ai_host else .fieldLink (ai_own e.1.1) e.1.2 C (T e.2.2.1).2.1 (T e.2.2.1).2.2.1
  | none => .tt
def ai_yOf (mi : Nat) : MethodName := match ai_MT[mi]? with
  | some M => ai_y M
  | none => ⟨"", "", ""⟩
/-- a call's words, by its kind -/
def ai_mw (e : (Nat × Nat) × (Nat × Nat × Nat × Nat)) : List Cond := match e.2.1 with
  | 0 => [.methodLink (ai_own e.1.1) e.1.2 (ai_yOf e.2.2.1), .instanceMethod (ai_yOf e.2.2.1), .selects (ai_yOf e.2.2.1).cls (ai_yOf e.2.2.1) (ai_yOf e.2.2.1), .initialized (ai_yOf e.2.2.1).cls]
  | 1 => [.instanceMethod (ai_yOf e.2.2.1), .selects (ai_yOf e.2.2.1).cls (ai_yOf e.2.2.1) (ai_yOf e.2.2.1), .initialized (ai_yOf e.2.2.1).cls]
  | 2 => [.methodLink (ai_own e.1.1) e.1.2 (ai_yOf e.2.2.1), .static (ai_yOf e.2.2.1), .initialized (ai_yOf e.2.2.1).cls]
  | 3 => [.static (ai_yOf e.2.2.1), .initialized (ai_yOf e.2.2.1).cls]
  | 4 => [.methodLink (ai_own e.1.1) e.1.2 (ai_yOf e.2.2.1), .instanceMethod (ai_yOf e.2.2.1), .initialized (ai_yOf e.2.2.1).cls]
  | 5 => [.instanceMethod (ai_yOf e.2.2.1), .initialized (ai_yOf e.2.2.1).cls]
  | _ => [.methodLink (ai_own e.1.1) e.1.2 (ai_yOf e.2.2.1), .static (ai_yOf e.2.2.1), .initialized (ai_yOf e.2.2.1).cls]
def ai_nest (kd : Nat) : Bool := kd == 1 || kd == 3 || kd == 5
def ai_w1 : List Cond := (ai_MT.filter fun M => !(ai_oi M == 99)).map ai_cw
def ai_w2 : List Cond := ai_cl.flatMap fun q => u_ws q.1 q.2.1 q.2.2
def ai_w3 : List Cond := (ai_fldL.filter fun e => !e.2.2.2).map ai_fw
def ai_w4 : List Cond := ai_mthL.flatMap ai_mw
def ai_w5 : List Cond := ai_newL.flatMap fun e => match ai_cl[e.2]? with
  | some (C, _, N) => [.classLink (ai_own e.1.1) e.1.2 C, .instantiable C N, .initialized C]
  | none => []
def ai_w6 : List Cond := ai_anwL.map (fun e => .classLink (ai_own e.1) e.2 ai_pairN) ++ [.arrayClass .int, .arrayClass .char, .arrayClass .boolean, .arrayClass .long] ++ ai_ldjL.map (fun e => .constantLong (ai_own e.1.1) e.1.2 e.2) ++ ai_objL.map (fun e => .methodLink (ai_own e.1) e.2 objectInit) ++ [.instanceMethod objectInit, .code objectInit ⟨#[0xb1]⟩ 1 none] ++ ai_cpyL.map (fun e => .methodLink (ai_own e.1) e.2 arraycopyName) ++ [.native arraycopyName, .static arraycopyName, .initialized "java/lang/System"]
/-- the exceptions: their kind, the entries of 'new' and of the constructor -/
def ai_sup : List String := ["java/lang/RuntimeException", "java/lang/Exception"]
def ai_dcL : List MethodName := [Bundle.initS "java/lang/RuntimeException", Bundle.initS "java/lang/Exception", Bundle.initS Bundle.tN]
/-- words of a throw that callees' lists may not hold: they are carried by themselves -/
def ai_bad (E : String) : List Cond := [.castable E E, .isRef (.static Bundle.tN "UNASSIGNED_STACK" Bundle.steD), .isRef (.static Bundle.tN "SUPPRESSED_SENTINEL" Bundle.listD), .laysStatic Bundle.tN "UNASSIGNED_STACK" Bundle.steD, .laysStatic Bundle.tN "SUPPRESSED_SENTINEL" Bundle.listD, .declares (Bundle.initS "java/lang/RuntimeException"), .declares (Bundle.initS "java/lang/Exception"), .declares (Bundle.initS Bundle.tN)]
def ai_no (E : String) (w : Cond) : Bool := decide (w ∉ ai_bad E)
def ai_exL : List (String × Nat × Nat) := [("java/lang/IllegalArgumentException", 44, 48), ("java/lang/IllegalStateException", 55, 59), ("java/lang/UnsupportedOperationException", 136, 140)]
def ai_ca : List String := ai_exL.map fun q => q.1
def ai_ncL : List (String × String) := [("java/lang/IllegalStateException", "java/lang/IllegalArgumentException"), ("java/lang/UnsupportedOperationException", "java/lang/IllegalArgumentException")]
def ai_w7 : List Cond := ai_exL.flatMap fun q => Cond.classLink "RuleCompletion" q.2.1 q.1 :: .initialized q.1 :: (Bundle.ownAtoms "RuleCompletion" q.2.2 q.1 ai_sup).filter (ai_no q.1)
def ai_w8 : List Cond := ai_MT.flatMap fun M => (ai_ex M).flatMap fun h => [.classLink (ai_own (ai_oi M)) h.2.2.2.1 h.2.2.2.2]
def ai_ws : List Cond := ai_w1 ++ (ai_w2 ++ (ai_w3 ++ (ai_w4 ++ (ai_w5 ++ (ai_w6 ++ (ai_w7 ++ ai_w8))))))
/-- the links between nest mates -/
def ai_nf : List (String × Nat × String × String × String) := (ai_fldL.filter fun e => e.2.2.2).map fun e => match ai_cl[e.2.1]? with
  | some (C, T, _) => (ai_own e.1.1, e.1.2, C, (T e.2.2.1).2.1, (T e.2.2.1).2.2.1)
  | none => ("", 0, "", "", "")
def ai_nm : List (String × Nat × MethodName) := (ai_mthL.filter fun e => ai_nest e.2.1).map fun e => (ai_own e.1.1, e.1.2, ai_yOf e.2.2.1)
def ai_nw : List Cond := ai_nf.map (fun q => .fieldLinkNest q.1 q.2.1 q.2.2.1 q.2.2.2.1 q.2.2.2.2 ai_host) ++ ai_nm.map (fun q => .methodLinkNest q.1 q.2.1 q.2.2 ai_host)
end
section
/-! What the tables say is so: by decision. -/
/-- how long an instruction is -/
def ai_len (i : Instr) : Nat := match i with
  | .bipush _ | .iload _ | .aload _ | .lload _ | .istore _ | .astore _ | .ldc _ | .newarray _ => 2
  | .sipush _ | .iinc _ _ | .goto _ | .ifCond _ _ | .if_icmp _ _ | .getfield _ | .putfield _ | .new _ | .anewarray _ | .invokevirtual _ | .invokestatic _ | .invokespecial _ | .ldc2_w _ => 3
  | _ => 1
def ai_tgt (x : Nat × Instr × Nat) : Bool := match x.2.1 with
  | .goto off => decide (0 ≤ (x.1 : Int) + off)
  | .ifCond _ off => decide (0 ≤ (x.1 : Int) + off)
  | .if_icmp _ off => decide (0 ≤ (x.1 : Int) + off)
  | .tableswitch d _ _ offs => decide (0 ≤ (x.1 : Int) + d) && offs.toList.all fun o => decide (0 ≤ (x.1 : Int) + o)
  | _ => true
def ai_isSw (i : Instr) : Bool := match i with
  | .tableswitch .. => true
  | _ => false
def ai_chk (M : ai_M) : Bool := (ai_code M).all fun x => decide (decode (ai_cc M) x.1 = .ok x.2) && (ai_isSw x.2.1 || x.2.2 == ai_len x.2.1) && ai_tgt x
/-- the room of a method is enough for what it calls -/
def ai_rck (M : ai_M) : Bool := (ai_code M).all fun x => match ai_ivk x.2.1 with
  | none => true
  | some z => (match ai_mth (ai_oi M) z with
      | some q => (match ai_MT[q.2.1]? with
        | some M' => decide (ai_Fr M' + 1 ≤ ai_Fr M) && decide (19 + ai_nL M' + ai_Lc M' ≤ ai_Lc M)
        | none => false)
      | none => true) && (!(ai_isObj (ai_oi M) z) || (decide (1 ≤ ai_Fr M) && decide (20 ≤ ai_Lc M))) && (!(ai_isCpy (ai_oi M) z) || (decide (1 ≤ ai_Fr M) && decide (26 ≤ ai_Lc M)))
set_option maxRecDepth 100000 in
theorem ck_0 : ai_chk ai_m0 = true := by decide +kernel
set_option maxRecDepth 100000 in
theorem ck_1 : ai_chk ai_m1 = true := by decide +kernel
set_option maxRecDepth 100000 in
theorem ck_2 : ai_chk ai_m2 = true := by decide +kernel
set_option maxRecDepth 100000 in
theorem ck_3 : ai_chk ai_m3 = true := by decide +kernel
set_option maxRecDepth 100000 in
theorem ck_4 : ai_chk ai_m4 = true := by decide +kernel
set_option maxRecDepth 100000 in
theorem ck_5 : ai_chk ai_m5 = true := by decide +kernel
set_option maxRecDepth 100000 in
theorem ck_6 : ai_chk ai_m6 = true := by decide +kernel
set_option maxRecDepth 100000 in
theorem ck_7 : ai_chk ai_m7 = true := by decide +kernel
set_option maxRecDepth 100000 in
theorem ck_8 : ai_chk ai_m8 = true := by decide +kernel
set_option maxRecDepth 100000 in
theorem ck_9 : ai_chk ai_m9 = true := by decide +kernel
set_option maxRecDepth 100000 in
theorem ck_10 : ai_chk ai_m10 = true := by decide +kernel
set_option maxRecDepth 100000 in
theorem ck_11 : ai_chk ai_m11 = true := by decide +kernel
set_option maxRecDepth 100000 in
theorem ck_12 : ai_chk ai_m12 = true := by decide +kernel
set_option maxRecDepth 100000 in
theorem ck_13 : ai_chk ai_m13 = true := by decide +kernel
set_option maxRecDepth 100000 in
theorem ck_14 : ai_chk ai_m14 = true := by decide +kernel
set_option maxRecDepth 100000 in
theorem ck_15 : ai_chk ai_m15 = true := by decide +kernel
set_option maxRecDepth 100000 in
theorem ck_16 : ai_chk ai_m16 = true := by decide +kernel
set_option maxRecDepth 100000 in
theorem ck_17 : ai_chk ai_m17 = true := by decide +kernel
set_option maxRecDepth 100000 in
theorem ck_18 : ai_chk ai_m18 = true := by decide +kernel
set_option maxRecDepth 100000 in
theorem ck_19 : ai_chk ai_m19 = true := by decide +kernel
set_option maxRecDepth 100000 in
theorem ck_20 : ai_chk ai_m20 = true := by decide +kernel
set_option maxRecDepth 100000 in
theorem ck_21 : ai_chk ai_m21 = true := by decide +kernel
set_option maxRecDepth 100000 in
theorem ck_22 : ai_chk ai_m22 = true := by decide +kernel
set_option maxRecDepth 100000 in
theorem ck_23 : ai_chk ai_m23 = true := by decide +kernel
set_option maxRecDepth 100000 in
theorem ck_24 : ai_chk ai_m24 = true := by decide +kernel
set_option maxRecDepth 100000 in
theorem ck_25 : ai_chk ai_m25 = true := by decide +kernel
set_option maxRecDepth 100000 in
theorem ck_26 : ai_chk ai_m26 = true := by decide +kernel
set_option maxRecDepth 100000 in
theorem ck_27 : ai_chk ai_m27 = true := by decide +kernel
set_option maxRecDepth 100000 in
theorem ck_28 : ai_chk ai_m28 = true := by decide +kernel
set_option maxRecDepth 100000 in
theorem ck_29 : ai_chk ai_m29 = true := by decide +kernel
set_option maxRecDepth 100000 in
theorem ck_30 : ai_chk ai_m30 = true := by decide +kernel
set_option maxRecDepth 100000 in
theorem ck_31 : ai_chk ai_m31 = true := by decide +kernel
set_option maxRecDepth 100000 in
theorem ck_32 : ai_chk ai_m32 = true := by decide +kernel
set_option maxRecDepth 100000 in
theorem ck_33 : ai_chk ai_m33 = true := by decide +kernel
set_option maxRecDepth 100000 in
theorem ck_34 : ai_chk ai_m34 = true := by decide +kernel
set_option maxRecDepth 100000 in
theorem ck_35 : ai_chk ai_m35 = true := by decide +kernel
set_option maxRecDepth 100000 in
theorem ck_36 : ai_chk ai_m36 = true := by decide +kernel
set_option maxRecDepth 100000 in
theorem ck_37 : ai_chk ai_m37 = true := by decide +kernel
set_option maxRecDepth 100000 in
theorem ck_38 : ai_chk ai_m38 = true := by decide +kernel
set_option maxRecDepth 100000 in
theorem ck_39 : ai_chk ai_m39 = true := by decide +kernel
set_option maxRecDepth 100000 in
theorem ck_40 : ai_chk ai_m40 = true := by decide +kernel
set_option maxRecDepth 100000 in
theorem ck_41 : ai_chk ai_m41 = true := by decide +kernel
set_option maxRecDepth 100000 in
theorem ck_42 : ai_chk ai_m42 = true := by decide +kernel
set_option maxRecDepth 100000 in
theorem ck_43 : ai_chk ai_m43 = true := by decide +kernel
set_option maxRecDepth 100000 in
theorem ck_44 : ai_chk ai_m44 = true := by decide +kernel
set_option maxRecDepth 100000 in
theorem ck_45 : ai_chk ai_m45 = true := by decide +kernel
set_option maxRecDepth 100000 in
theorem ck_46 : ai_chk ai_m46 = true := by decide +kernel
set_option maxRecDepth 100000 in
theorem ck_47 : ai_chk ai_m47 = true := by decide +kernel
set_option maxRecDepth 100000 in
theorem ck_48 : ai_chk ai_m48 = true := by decide +kernel
set_option maxRecDepth 100000 in
theorem ck_49 : ai_chk ai_m49 = true := by decide +kernel
set_option maxRecDepth 100000 in
theorem ck_50 : ai_chk ai_m50 = true := by decide +kernel
set_option maxRecDepth 100000 in
theorem ck_51 : ai_chk ai_m51 = true := by decide +kernel
set_option maxRecDepth 100000 in
theorem ck_52 : ai_chk ai_m52 = true := by decide +kernel
set_option maxRecDepth 100000 in
theorem ck_53 : ai_chk ai_m53 = true := by decide +kernel
set_option maxRecDepth 100000 in
theorem ck_54 : ai_chk ai_m54 = true := by decide +kernel
set_option maxRecDepth 100000 in
theorem ck_55 : ai_chk ai_m55 = true := by decide +kernel
set_option maxRecDepth 100000 in
theorem ck_56 : ai_chk ai_m56 = true := by decide +kernel
set_option maxRecDepth 100000 in
theorem ck_57 : ai_chk ai_m57 = true := by decide +kernel
set_option maxRecDepth 100000 in
theorem ck_58 : ai_chk ai_m58 = true := by decide +kernel
set_option maxRecDepth 100000 in
theorem ck_59 : ai_chk ai_m59 = true := by decide +kernel
set_option maxRecDepth 100000 in
theorem ck_60 : ai_chk ai_m60 = true := by decide +kernel
set_option maxRecDepth 100000 in
theorem ck_61 : ai_chk ai_m61 = true := by decide +kernel
set_option maxRecDepth 100000 in
theorem ck_62 : ai_chk ai_m62 = true := by decide +kernel
set_option maxRecDepth 100000 in
theorem ck_63 : ai_chk ai_m63 = true := by decide +kernel
set_option maxRecDepth 100000 in
theorem ck_64 : ai_chk ai_m64 = true := by decide +kernel
set_option maxRecDepth 100000 in
theorem ck_65 : ai_chk ai_m65 = true := by decide +kernel
set_option maxRecDepth 100000 in
theorem ck_66 : ai_chk ai_m66 = true := by decide +kernel
set_option maxRecDepth 100000 in
theorem ck_67 : ai_chk ai_m67 = true := by decide +kernel
set_option maxRecDepth 100000 in
theorem ck_68 : ai_chk ai_m68 = true := by decide +kernel
set_option maxRecDepth 100000 in
theorem ck_69 : ai_chk ai_m69 = true := by decide +kernel
set_option maxRecDepth 100000 in
theorem ck_70 : ai_chk ai_m70 = true := by decide +kernel
set_option maxRecDepth 100000 in
theorem ck_71 : ai_chk ai_m71 = true := by decide +kernel
set_option maxRecDepth 100000 in
theorem ck_72 : ai_chk ai_m72 = true := by decide +kernel
set_option maxRecDepth 100000 in
theorem ck_73 : ai_chk ai_m73 = true := by decide +kernel
set_option maxRecDepth 100000 in
theorem ck_74 : ai_chk ai_m74 = true := by decide +kernel
set_option maxRecDepth 100000 in
theorem ck_75 : ai_chk ai_m75 = true := by decide +kernel
set_option maxRecDepth 100000 in
theorem ck_76 : ai_chk ai_m76 = true := by decide +kernel
set_option maxRecDepth 100000 in
theorem ck_77 : ai_chk ai_m77 = true := by decide +kernel
set_option maxRecDepth 100000 in
theorem ck_78 : ai_chk ai_m78 = true := by decide +kernel
set_option maxRecDepth 100000 in
theorem ck_79 : ai_chk ai_m79 = true := by decide +kernel
set_option maxRecDepth 100000 in
theorem ck_80 : ai_chk ai_m80 = true := by decide +kernel
set_option maxRecDepth 100000 in
theorem ck_81 : ai_chk ai_m81 = true := by decide +kernel
set_option maxRecDepth 100000 in
theorem ck_82 : ai_chk ai_m82 = true := by decide +kernel
set_option maxRecDepth 100000 in
theorem ck_83 : ai_chk ai_m83 = true := by decide +kernel
set_option maxRecDepth 100000 in
theorem ck_84 : ai_chk ai_m84 = true := by decide +kernel
set_option maxRecDepth 100000 in
theorem ck_85 : ai_chk ai_m85 = true := by decide +kernel
set_option maxRecDepth 100000 in
theorem ck_86 : ai_chk ai_m86 = true := by decide +kernel
set_option maxRecDepth 100000 in
theorem ck_87 : ai_chk ai_m87 = true := by decide +kernel
set_option maxRecDepth 100000 in
theorem ck_88 : ai_chk ai_m88 = true := by decide +kernel
set_option maxRecDepth 100000 in
theorem ck_89 : ai_chk ai_m89 = true := by decide +kernel
set_option maxRecDepth 100000 in
theorem ck_90 : ai_chk ai_m90 = true := by decide +kernel
set_option maxRecDepth 100000 in
theorem ck_91 : ai_chk ai_m91 = true := by decide +kernel
set_option maxRecDepth 100000 in
theorem ck_92 : ai_chk ai_m92 = true := by decide +kernel
set_option maxRecDepth 100000 in
theorem ck_93 : ai_chk ai_m93 = true := by decide +kernel
set_option maxRecDepth 100000 in
theorem ck_94 : ai_chk ai_m94 = true := by decide +kernel
set_option maxRecDepth 100000 in
theorem ck_95 : ai_chk ai_m95 = true := by decide +kernel
set_option maxRecDepth 100000 in
theorem ck_96 : ai_chk ai_m96 = true := by decide +kernel
set_option maxRecDepth 100000 in
theorem ck_97 : ai_chk ai_m97 = true := by decide +kernel
set_option maxRecDepth 100000 in
theorem ck_98 : ai_chk ai_m98 = true := by decide +kernel
set_option maxRecDepth 100000 in
theorem ck_99 : ai_chk ai_m99 = true := by decide +kernel
set_option maxRecDepth 100000 in
theorem ck_100 : ai_chk ai_m100 = true := by decide +kernel
set_option maxRecDepth 100000 in
theorem ck_101 : ai_chk ai_m101 = true := by decide +kernel
set_option maxRecDepth 100000 in
theorem ck_102 : ai_chk ai_m102 = true := by decide +kernel
set_option maxRecDepth 100000 in
theorem ck_103 : ai_chk ai_m103 = true := by decide +kernel
set_option maxRecDepth 100000 in
theorem ck_104 : ai_chk ai_m104 = true := by decide +kernel
set_option maxRecDepth 100000 in
theorem ck_105 : ai_chk ai_m105 = true := by decide +kernel
set_option maxRecDepth 100000 in
theorem ck_106 : ai_chk ai_m106 = true := by decide +kernel
set_option maxRecDepth 100000 in
theorem ck_107 : ai_chk ai_m107 = true := by decide +kernel
set_option maxRecDepth 100000 in
theorem ck_108 : ai_chk ai_m108 = true := by decide +kernel
set_option maxRecDepth 100000 in
theorem ck_109 : ai_chk ai_m109 = true := by decide +kernel
set_option maxRecDepth 100000 in
theorem ck_110 : ai_chk ai_m110 = true := by decide +kernel
set_option maxRecDepth 100000 in
theorem ck_111 : ai_chk ai_m111 = true := by decide +kernel
set_option maxRecDepth 100000 in
theorem ck_112 : ai_chk ai_m112 = true := by decide +kernel
set_option maxRecDepth 100000 in
theorem ck_113 : ai_chk ai_m113 = true := by decide +kernel
set_option maxRecDepth 100000 in
theorem ck_114 : ai_chk ai_m114 = true := by decide +kernel
set_option maxRecDepth 100000 in
theorem ck_115 : ai_chk ai_m115 = true := by decide +kernel
set_option maxRecDepth 100000 in
theorem ck_116 : ai_chk ai_m116 = true := by decide +kernel
set_option maxRecDepth 100000 in
theorem ck_117 : ai_chk ai_m117 = true := by decide +kernel
set_option maxRecDepth 100000 in
theorem ck_118 : ai_chk ai_m118 = true := by decide +kernel
set_option maxRecDepth 100000 in
theorem ck_119 : ai_chk ai_m119 = true := by decide +kernel
set_option maxRecDepth 100000 in
theorem ck_120 : ai_chk ai_m120 = true := by decide +kernel
set_option maxRecDepth 100000 in
theorem ck_121 : ai_chk ai_m121 = true := by decide +kernel
set_option maxRecDepth 100000 in
theorem ck_122 : ai_chk ai_m122 = true := by decide +kernel
set_option maxRecDepth 100000 in
theorem ck_123 : ai_chk ai_m123 = true := by decide +kernel
set_option maxRecDepth 100000 in
theorem ck_124 : ai_chk ai_m124 = true := by decide +kernel
set_option maxRecDepth 100000 in
theorem ck_125 : ai_chk ai_m125 = true := by decide +kernel
set_option maxRecDepth 100000 in
theorem ck_126 : ai_chk ai_m126 = true := by decide +kernel
set_option maxRecDepth 100000 in
theorem ck_127 : ai_chk ai_m127 = true := by decide +kernel
set_option maxRecDepth 100000 in
theorem ck_128 : ai_chk ai_m128 = true := by decide +kernel
set_option maxRecDepth 100000 in
theorem ck_129 : ai_chk ai_m129 = true := by decide +kernel
set_option maxRecDepth 100000 in
theorem ck_130 : ai_chk ai_m130 = true := by decide +kernel
set_option maxRecDepth 100000 in
theorem ck_131 : ai_chk ai_m131 = true := by decide +kernel
set_option maxRecDepth 100000 in
theorem ck_132 : ai_chk ai_m132 = true := by decide +kernel
set_option maxRecDepth 100000 in
theorem ck_133 : ai_chk ai_m133 = true := by decide +kernel
set_option maxRecDepth 100000 in
theorem ck_134 : ai_chk ai_m134 = true := by decide +kernel
set_option maxRecDepth 100000 in
theorem ck_135 : ai_chk ai_m135 = true := by decide +kernel
set_option maxRecDepth 100000 in
theorem ck_136 : ai_chk ai_m136 = true := by decide +kernel
set_option maxRecDepth 100000 in
theorem ck_137 : ai_chk ai_m137 = true := by decide +kernel
set_option maxRecDepth 100000 in
theorem ck_138 : ai_chk ai_m138 = true := by decide +kernel
set_option maxRecDepth 100000 in
theorem ck_139 : ai_chk ai_m139 = true := by decide +kernel
set_option maxRecDepth 100000 in
theorem ck_140 : ai_chk ai_m140 = true := by decide +kernel
set_option maxRecDepth 100000 in
theorem ck_141 : ai_chk ai_m141 = true := by decide +kernel
set_option maxRecDepth 100000 in
theorem ck_142 : ai_chk ai_m142 = true := by decide +kernel
set_option maxRecDepth 100000 in
theorem ck_143 : ai_chk ai_m143 = true := by decide +kernel
set_option maxRecDepth 100000 in
theorem ck_144 : ai_chk ai_m144 = true := by decide +kernel
set_option maxRecDepth 100000 in
theorem ck_145 : ai_chk ai_m145 = true := by decide +kernel
set_option maxRecDepth 100000 in
theorem ck_146 : ai_chk ai_m146 = true := by decide +kernel
set_option maxRecDepth 100000 in
theorem ck_147 : ai_chk ai_m147 = true := by decide +kernel
set_option maxRecDepth 100000 in
theorem ck_148 : ai_chk ai_m148 = true := by decide +kernel
set_option maxRecDepth 100000 in
theorem ck_149 : ai_chk ai_m149 = true := by decide +kernel
set_option maxRecDepth 100000 in
theorem ck_150 : ai_chk ai_m150 = true := by decide +kernel
set_option maxRecDepth 100000 in
theorem ck_151 : ai_chk ai_m151 = true := by decide +kernel
set_option maxRecDepth 100000 in
theorem ck_152 : ai_chk ai_m152 = true := by decide +kernel
set_option maxRecDepth 100000 in
theorem ck_153 : ai_chk ai_m153 = true := by decide +kernel
set_option maxRecDepth 100000 in
theorem ck_154 : ai_chk ai_m154 = true := by decide +kernel
set_option maxRecDepth 100000 in
theorem ck_155 : ai_chk ai_m155 = true := by decide +kernel
set_option maxRecDepth 100000 in
theorem ck_156 : ai_chk ai_m156 = true := by decide +kernel
set_option maxRecDepth 100000 in
theorem ck_157 : ai_chk ai_m157 = true := by decide +kernel
set_option maxRecDepth 100000 in
theorem ck_158 : ai_chk ai_m158 = true := by decide +kernel
set_option maxRecDepth 100000 in
theorem ck_159 : ai_chk ai_m159 = true := by decide +kernel
set_option maxRecDepth 100000 in
theorem ai_chks : ∀ M ∈ ai_MT, ai_chk M = true := List.forall_mem_cons.mpr ⟨ck_0, List.forall_mem_cons.mpr ⟨ck_1, List.forall_mem_cons.mpr ⟨ck_2, List.forall_mem_cons.mpr ⟨ck_3, List.forall_mem_cons.mpr ⟨ck_4, List.forall_mem_cons.mpr ⟨ck_5, List.forall_mem_cons.mpr ⟨ck_6, List.forall_mem_cons.mpr ⟨ck_7, List.forall_mem_cons.mpr ⟨ck_8, List.forall_mem_cons.mpr ⟨ck_9, List.forall_mem_cons.mpr ⟨ck_10, List.forall_mem_cons.mpr ⟨ck_11, List.forall_mem_cons.mpr ⟨ck_12, List.forall_mem_cons.mpr ⟨ck_13, List.forall_mem_cons.mpr ⟨ck_14, List.forall_mem_cons.mpr ⟨ck_15, List.forall_mem_cons.mpr ⟨ck_16, List.forall_mem_cons.mpr ⟨ck_17, List.forall_mem_cons.mpr ⟨ck_18, List.forall_mem_cons.mpr ⟨ck_19, List.forall_mem_cons.mpr ⟨ck_20, List.forall_mem_cons.mpr ⟨ck_21, List.forall_mem_cons.mpr ⟨ck_22, List.forall_mem_cons.mpr ⟨ck_23, List.forall_mem_cons.mpr ⟨ck_24, List.forall_mem_cons.mpr ⟨ck_25, List.forall_mem_cons.mpr ⟨ck_26, List.forall_mem_cons.mpr ⟨ck_27, List.forall_mem_cons.mpr ⟨ck_28, List.forall_mem_cons.mpr ⟨ck_29, List.forall_mem_cons.mpr ⟨ck_30, List.forall_mem_cons.mpr ⟨ck_31, List.forall_mem_cons.mpr ⟨ck_32, List.forall_mem_cons.mpr ⟨ck_33, List.forall_mem_cons.mpr ⟨ck_34, List.forall_mem_cons.mpr ⟨ck_35, List.forall_mem_cons.mpr ⟨ck_36, List.forall_mem_cons.mpr ⟨ck_37, List.forall_mem_cons.mpr ⟨ck_38, List.forall_mem_cons.mpr ⟨ck_39, List.forall_mem_cons.mpr ⟨ck_40, List.forall_mem_cons.mpr ⟨ck_41, List.forall_mem_cons.mpr ⟨ck_42, List.forall_mem_cons.mpr ⟨ck_43, List.forall_mem_cons.mpr ⟨ck_44, List.forall_mem_cons.mpr ⟨ck_45, List.forall_mem_cons.mpr ⟨ck_46, List.forall_mem_cons.mpr ⟨ck_47, List.forall_mem_cons.mpr ⟨ck_48, List.forall_mem_cons.mpr ⟨ck_49, List.forall_mem_cons.mpr ⟨ck_50, List.forall_mem_cons.mpr ⟨ck_51, List.forall_mem_cons.mpr ⟨ck_52, List.forall_mem_cons.mpr ⟨ck_53, List.forall_mem_cons.mpr ⟨ck_54, List.forall_mem_cons.mpr ⟨ck_55, List.forall_mem_cons.mpr ⟨ck_56, List.forall_mem_cons.mpr ⟨ck_57, List.forall_mem_cons.mpr ⟨ck_58, List.forall_mem_cons.mpr ⟨ck_59, List.forall_mem_cons.mpr ⟨ck_60, List.forall_mem_cons.mpr ⟨ck_61, List.forall_mem_cons.mpr ⟨ck_62, List.forall_mem_cons.mpr ⟨ck_63, List.forall_mem_cons.mpr ⟨ck_64, List.forall_mem_cons.mpr ⟨ck_65, List.forall_mem_cons.mpr ⟨ck_66, List.forall_mem_cons.mpr ⟨ck_67, List.forall_mem_cons.mpr ⟨ck_68, List.forall_mem_cons.mpr ⟨ck_69, List.forall_mem_cons.mpr ⟨ck_70, List.forall_mem_cons.mpr ⟨ck_71, List.forall_mem_cons.mpr ⟨ck_72, List.forall_mem_cons.mpr ⟨ck_73, List.forall_mem_cons.mpr ⟨ck_74, List.forall_mem_cons.mpr ⟨ck_75, List.forall_mem_cons.mpr ⟨ck_76, List.forall_mem_cons.mpr ⟨ck_77, List.forall_mem_cons.mpr ⟨ck_78, List.forall_mem_cons.mpr ⟨ck_79, List.forall_mem_cons.mpr ⟨ck_80, List.forall_mem_cons.mpr ⟨ck_81, List.forall_mem_cons.mpr ⟨ck_82, List.forall_mem_cons.mpr ⟨ck_83, List.forall_mem_cons.mpr ⟨ck_84, List.forall_mem_cons.mpr ⟨ck_85, List.forall_mem_cons.mpr ⟨ck_86, List.forall_mem_cons.mpr ⟨ck_87, List.forall_mem_cons.mpr ⟨ck_88, List.forall_mem_cons.mpr ⟨ck_89, List.forall_mem_cons.mpr ⟨ck_90, List.forall_mem_cons.mpr ⟨ck_91, List.forall_mem_cons.mpr ⟨ck_92, List.forall_mem_cons.mpr ⟨ck_93, List.forall_mem_cons.mpr ⟨ck_94, List.forall_mem_cons.mpr ⟨ck_95, List.forall_mem_cons.mpr ⟨ck_96, List.forall_mem_cons.mpr ⟨ck_97, List.forall_mem_cons.mpr ⟨ck_98, List.forall_mem_cons.mpr ⟨ck_99, List.forall_mem_cons.mpr ⟨ck_100, List.forall_mem_cons.mpr ⟨ck_101, List.forall_mem_cons.mpr ⟨ck_102, List.forall_mem_cons.mpr ⟨ck_103, List.forall_mem_cons.mpr ⟨ck_104, List.forall_mem_cons.mpr ⟨ck_105, List.forall_mem_cons.mpr ⟨ck_106, List.forall_mem_cons.mpr ⟨ck_107, List.forall_mem_cons.mpr ⟨ck_108, List.forall_mem_cons.mpr ⟨ck_109, List.forall_mem_cons.mpr ⟨ck_110, List.forall_mem_cons.mpr ⟨ck_111, List.forall_mem_cons.mpr ⟨ck_112, List.forall_mem_cons.mpr ⟨ck_113, List.forall_mem_cons.mpr ⟨ck_114, List.forall_mem_cons.mpr ⟨ck_115, List.forall_mem_cons.mpr ⟨ck_116, List.forall_mem_cons.mpr ⟨ck_117, List.forall_mem_cons.mpr ⟨ck_118, List.forall_mem_cons.mpr ⟨ck_119, List.forall_mem_cons.mpr ⟨ck_120, List.forall_mem_cons.mpr ⟨ck_121, List.forall_mem_cons.mpr ⟨ck_122, List.forall_mem_cons.mpr ⟨ck_123, List.forall_mem_cons.mpr ⟨ck_124, List.forall_mem_cons.mpr ⟨ck_125, List.forall_mem_cons.mpr ⟨ck_126, List.forall_mem_cons.mpr ⟨ck_127, List.forall_mem_cons.mpr ⟨ck_128, List.forall_mem_cons.mpr ⟨ck_129, List.forall_mem_cons.mpr ⟨ck_130, List.forall_mem_cons.mpr ⟨ck_131, List.forall_mem_cons.mpr ⟨ck_132, List.forall_mem_cons.mpr ⟨ck_133, List.forall_mem_cons.mpr ⟨ck_134, List.forall_mem_cons.mpr ⟨ck_135, List.forall_mem_cons.mpr ⟨ck_136, List.forall_mem_cons.mpr ⟨ck_137, List.forall_mem_cons.mpr ⟨ck_138, List.forall_mem_cons.mpr ⟨ck_139, List.forall_mem_cons.mpr ⟨ck_140, List.forall_mem_cons.mpr ⟨ck_141, List.forall_mem_cons.mpr ⟨ck_142, List.forall_mem_cons.mpr ⟨ck_143, List.forall_mem_cons.mpr ⟨ck_144, List.forall_mem_cons.mpr ⟨ck_145, List.forall_mem_cons.mpr ⟨ck_146, List.forall_mem_cons.mpr ⟨ck_147, List.forall_mem_cons.mpr ⟨ck_148, List.forall_mem_cons.mpr ⟨ck_149, List.forall_mem_cons.mpr ⟨ck_150, List.forall_mem_cons.mpr ⟨ck_151, List.forall_mem_cons.mpr ⟨ck_152, List.forall_mem_cons.mpr ⟨ck_153, List.forall_mem_cons.mpr ⟨ck_154, List.forall_mem_cons.mpr ⟨ck_155, List.forall_mem_cons.mpr ⟨ck_156, List.forall_mem_cons.mpr ⟨ck_157, List.forall_mem_cons.mpr ⟨ck_158, List.forall_mem_cons.mpr ⟨ck_159, fun _ h => absurd h List.not_mem_nil⟩⟩⟩⟩⟩⟩⟩⟩⟩⟩⟩⟩⟩⟩⟩⟩⟩⟩⟩⟩⟩⟩⟩⟩⟩⟩⟩⟩⟩⟩⟩⟩⟩⟩⟩⟩⟩⟩⟩⟩⟩⟩⟩⟩⟩⟩⟩⟩⟩⟩⟩⟩⟩⟩⟩⟩⟩⟩⟩⟩⟩⟩⟩⟩⟩⟩⟩⟩⟩⟩⟩⟩⟩⟩⟩⟩⟩⟩⟩⟩⟩⟩⟩⟩⟩⟩⟩⟩⟩⟩⟩⟩⟩⟩⟩⟩⟩⟩⟩⟩⟩⟩⟩⟩⟩⟩⟩⟩⟩⟩⟩⟩⟩⟩⟩⟩⟩⟩⟩⟩⟩⟩⟩⟩⟩⟩⟩⟩⟩⟩⟩⟩⟩⟩⟩⟩⟩⟩⟩⟩⟩⟩⟩⟩⟩⟩⟩⟩⟩⟩⟩⟩⟩⟩⟩⟩⟩⟩⟩⟩
set_option maxRecDepth 100000 in
theorem ai_rcks : ai_MT.all ai_rck = true := by decide +kernel
end
section
/-! The tables' facts, as the machine's rows ask for them. -/
def ai_kind (ty : ArrayType) : Option Nat := match ty with
  | .int => some 0
  | .char => some 1
  | .boolean => some 2
  | .long => some 3
  | _ => none
theorem ai_zip {l : List Cond} {ps : List Nat} (hl : l.length ≤ ps.length) (h : (l.zip ps).all (fun q => decide (lw_tbl[q.2]? = some q.1) && goodWord q.1) = true) {w : Cond} (hw : w ∈ l) : w ∈ lw_tbl ∧ goodWord w = true := by
  obtain ⟨i, hi⟩ := List.getElem?_of_mem hw
  have hil : i < l.length := (List.getElem?_eq_some_iff.mp hi).1
  have hip : i < ps.length := by omega
  have hz : (w, ps[i]) ∈ l.zip ps := by
    apply List.mem_of_getElem? (i := i)
    rw [List.getElem?_zip_eq_some]
    exact ⟨hi, List.getElem?_eq_getElem hip⟩
  have h1 := List.all_eq_true.mp h _ hz
  simp only [Bool.and_eq_true, decide_eq_true_eq] at h1
  exact ⟨List.mem_of_getElem? h1.1, h1.2⟩
theorem ai_up1 {w : Cond} (h : w ∈ tables_1_1) : w ∈ lw_tbl := List.mem_append_right _ (show w ∈ tables_1_1 ++ (tables_1_2 ++ (tables_1_3 ++ (tables_1_4 ++ tables_1_5))) from List.mem_append_left _ h)
theorem ai_up2 {w : Cond} (h : w ∈ tables_1_2) : w ∈ lw_tbl := List.mem_append_right _ (show w ∈ tables_1_1 ++ (tables_1_2 ++ (tables_1_3 ++ (tables_1_4 ++ tables_1_5))) from List.mem_append_right _ (List.mem_append_left _ h))
theorem ai_up3 {w : Cond} (h : w ∈ tables_1_3) : w ∈ lw_tbl := List.mem_append_right _ (show w ∈ tables_1_1 ++ (tables_1_2 ++ (tables_1_3 ++ (tables_1_4 ++ tables_1_5))) from List.mem_append_right _ (List.mem_append_right _ (List.mem_append_left _ h)))
theorem ai_up4 {w : Cond} (h : w ∈ tables_1_4) : w ∈ lw_tbl := List.mem_append_right _ (show w ∈ tables_1_1 ++ (tables_1_2 ++ (tables_1_3 ++ (tables_1_4 ++ tables_1_5))) from List.mem_append_right _ (List.mem_append_right _ (List.mem_append_right _ (List.mem_append_left _ h))))
theorem ai_up5 {w : Cond} (h : w ∈ tables_1_5) : w ∈ lw_tbl := List.mem_append_right _ (show w ∈ tables_1_1 ++ (tables_1_2 ++ (tables_1_3 ++ (tables_1_4 ++ tables_1_5))) from List.mem_append_right _ (List.mem_append_right _ (List.mem_append_right _ (List.mem_append_right _ h))))
set_option maxRecDepth 100000 in
theorem wc_0 : ai_oi ai_m0 ≠ 99 → ai_cw ai_m0 ∈ lw_tbl := fun _ => ai_up1 (List.mem_of_getElem? (i := 25) rfl)
set_option maxRecDepth 100000 in
theorem wc_1 : ai_oi ai_m1 ≠ 99 → ai_cw ai_m1 ∈ lw_tbl := fun _ => ai_up2 (List.mem_of_getElem? (i := 75) rfl)
set_option maxRecDepth 100000 in
theorem wc_2 : ai_oi ai_m2 ≠ 99 → ai_cw ai_m2 ∈ lw_tbl := fun _ => ai_up2 (List.mem_of_getElem? (i := 87) rfl)
set_option maxRecDepth 100000 in
theorem wc_3 : ai_oi ai_m3 ≠ 99 → ai_cw ai_m3 ∈ lw_tbl := fun _ => ai_up2 (List.mem_of_getElem? (i := 91) rfl)
set_option maxRecDepth 100000 in
theorem wc_4 : ai_oi ai_m4 ≠ 99 → ai_cw ai_m4 ∈ lw_tbl := fun _ => ai_up2 (List.mem_of_getElem? (i := 95) rfl)
set_option maxRecDepth 100000 in
theorem wc_5 : ai_oi ai_m5 ≠ 99 → ai_cw ai_m5 ∈ lw_tbl := fun _ => ai_up2 (List.mem_of_getElem? (i := 99) rfl)
set_option maxRecDepth 100000 in
theorem wc_6 : ai_oi ai_m6 ≠ 99 → ai_cw ai_m6 ∈ lw_tbl := fun _ => ai_up2 (List.mem_of_getElem? (i := 103) rfl)
set_option maxRecDepth 100000 in
theorem wc_7 : ai_oi ai_m7 ≠ 99 → ai_cw ai_m7 ∈ lw_tbl := fun _ => ai_up2 (List.mem_of_getElem? (i := 119) rfl)
set_option maxRecDepth 100000 in
theorem wc_8 : ai_oi ai_m8 ≠ 99 → ai_cw ai_m8 ∈ lw_tbl := fun _ => ai_up2 (List.mem_of_getElem? (i := 123) rfl)
set_option maxRecDepth 100000 in
theorem wc_9 : ai_oi ai_m9 ≠ 99 → ai_cw ai_m9 ∈ lw_tbl := fun _ => ai_up2 (List.mem_of_getElem? (i := 127) rfl)
set_option maxRecDepth 100000 in
theorem wc_10 : ai_oi ai_m10 ≠ 99 → ai_cw ai_m10 ∈ lw_tbl := fun _ => ai_up2 (List.mem_of_getElem? (i := 140) rfl)
set_option maxRecDepth 100000 in
theorem wc_11 : ai_oi ai_m11 ≠ 99 → ai_cw ai_m11 ∈ lw_tbl := fun _ => ai_up3 (List.mem_of_getElem? (i := 3) rfl)
set_option maxRecDepth 100000 in
theorem wc_12 : ai_oi ai_m12 ≠ 99 → ai_cw ai_m12 ∈ lw_tbl := fun _ => ai_up3 (List.mem_of_getElem? (i := 15) rfl)
set_option maxRecDepth 100000 in
theorem wc_13 : ai_oi ai_m13 ≠ 99 → ai_cw ai_m13 ∈ lw_tbl := fun _ => ai_up3 (List.mem_of_getElem? (i := 76) rfl)
set_option maxRecDepth 100000 in
theorem wc_14 : ai_oi ai_m14 ≠ 99 → ai_cw ai_m14 ∈ lw_tbl := fun _ => ai_up4 (List.mem_of_getElem? (i := 37) rfl)
set_option maxRecDepth 100000 in
theorem wc_15 : ai_oi ai_m15 ≠ 99 → ai_cw ai_m15 ∈ lw_tbl := fun _ => ai_up4 (List.mem_of_getElem? (i := 67) rfl)
set_option maxRecDepth 100000 in
theorem wc_16 : ai_oi ai_m16 ≠ 99 → ai_cw ai_m16 ∈ lw_tbl := fun _ => ai_up1 (List.mem_of_getElem? (i := 50) rfl)
set_option maxRecDepth 100000 in
theorem wc_17 : ai_oi ai_m17 ≠ 99 → ai_cw ai_m17 ∈ lw_tbl := fun _ => ai_up2 (List.mem_of_getElem? (i := 79) rfl)
set_option maxRecDepth 100000 in
theorem wc_18 : ai_oi ai_m18 ≠ 99 → ai_cw ai_m18 ∈ lw_tbl := fun _ => ai_up2 (List.mem_of_getElem? (i := 82) rfl)
set_option maxRecDepth 100000 in
theorem wc_19 : ai_oi ai_m19 ≠ 99 → ai_cw ai_m19 ∈ lw_tbl := fun _ => ai_up3 (List.mem_of_getElem? (i := 7) rfl)
set_option maxRecDepth 100000 in
theorem wc_20 : ai_oi ai_m20 ≠ 99 → ai_cw ai_m20 ∈ lw_tbl := fun _ => ai_up3 (List.mem_of_getElem? (i := 11) rfl)
set_option maxRecDepth 100000 in
theorem wc_21 : ai_oi ai_m21 ≠ 99 → ai_cw ai_m21 ∈ lw_tbl := fun _ => ai_up4 (List.mem_of_getElem? (i := 60) rfl)
set_option maxRecDepth 100000 in
theorem wc_22 : ai_oi ai_m22 ≠ 99 → ai_cw ai_m22 ∈ lw_tbl := fun _ => ai_up1 (List.mem_of_getElem? (i := 137) rfl)
set_option maxRecDepth 100000 in
theorem wc_23 : ai_oi ai_m23 ≠ 99 → ai_cw ai_m23 ∈ lw_tbl := fun _ => ai_up2 (List.mem_of_getElem? (i := 131) rfl)
set_option maxRecDepth 100000 in
theorem wc_24 : ai_oi ai_m24 ≠ 99 → ai_cw ai_m24 ∈ lw_tbl := fun _ => ai_up3 (List.mem_of_getElem? (i := 37) rfl)
set_option maxRecDepth 100000 in
theorem wc_25 : ai_oi ai_m25 ≠ 99 → ai_cw ai_m25 ∈ lw_tbl := fun _ => ai_up3 (List.mem_of_getElem? (i := 81) rfl)
set_option maxRecDepth 100000 in
theorem wc_26 : ai_oi ai_m26 ≠ 99 → ai_cw ai_m26 ∈ lw_tbl := fun _ => ai_up3 (List.mem_of_getElem? (i := 85) rfl)
set_option maxRecDepth 100000 in
theorem wc_27 : ai_oi ai_m27 ≠ 99 → ai_cw ai_m27 ∈ lw_tbl := fun _ => ai_up3 (List.mem_of_getElem? (i := 174) rfl)
set_option maxRecDepth 100000 in
theorem wc_28 : ai_oi ai_m28 ≠ 99 → ai_cw ai_m28 ∈ lw_tbl := fun _ => ai_up3 (List.mem_of_getElem? (i := 186) rfl)
set_option maxRecDepth 100000 in
theorem wc_29 : ai_oi ai_m29 ≠ 99 → ai_cw ai_m29 ∈ lw_tbl := fun _ => ai_up3 (List.mem_of_getElem? (i := 191) rfl)
set_option maxRecDepth 100000 in
theorem wc_30 : ai_oi ai_m30 ≠ 99 → ai_cw ai_m30 ∈ lw_tbl := fun _ => ai_up3 (List.mem_of_getElem? (i := 195) rfl)
set_option maxRecDepth 100000 in
theorem wc_31 : ai_oi ai_m31 ≠ 99 → ai_cw ai_m31 ∈ lw_tbl := fun _ => ai_up3 (List.mem_of_getElem? (i := 209) rfl)
set_option maxRecDepth 100000 in
theorem wc_32 : ai_oi ai_m32 ≠ 99 → ai_cw ai_m32 ∈ lw_tbl := fun _ => ai_up1 (List.mem_of_getElem? (i := 217) rfl)
set_option maxRecDepth 100000 in
theorem wc_33 : ai_oi ai_m33 ≠ 99 → ai_cw ai_m33 ∈ lw_tbl := fun _ => ai_up3 (List.mem_of_getElem? (i := 213) rfl)
set_option maxRecDepth 100000 in
theorem wc_34 : ai_oi ai_m34 ≠ 99 → ai_cw ai_m34 ∈ lw_tbl := fun _ => ai_up3 (List.mem_of_getElem? (i := 217) rfl)
set_option maxRecDepth 100000 in
theorem wc_35 : ai_oi ai_m35 ≠ 99 → ai_cw ai_m35 ∈ lw_tbl := fun _ => ai_up3 (List.mem_of_getElem? (i := 223) rfl)
set_option maxRecDepth 100000 in
theorem wc_36 : ai_oi ai_m36 ≠ 99 → ai_cw ai_m36 ∈ lw_tbl := fun _ => ai_up3 (List.mem_of_getElem? (i := 227) rfl)
set_option maxRecDepth 100000 in
theorem wc_37 : ai_oi ai_m37 ≠ 99 → ai_cw ai_m37 ∈ lw_tbl := fun _ => ai_up3 (List.mem_of_getElem? (i := 231) rfl)
set_option maxRecDepth 100000 in
theorem wc_38 : ai_oi ai_m38 ≠ 99 → ai_cw ai_m38 ∈ lw_tbl := fun _ => ai_up3 (List.mem_of_getElem? (i := 235) rfl)
set_option maxRecDepth 100000 in
theorem wc_39 : ai_oi ai_m39 ≠ 99 → ai_cw ai_m39 ∈ lw_tbl := fun _ => ai_up3 (List.mem_of_getElem? (i := 239) rfl)
set_option maxRecDepth 100000 in
theorem wc_40 : ai_oi ai_m40 ≠ 99 → ai_cw ai_m40 ∈ lw_tbl := fun _ => ai_up4 (List.mem_of_getElem? (i := 3) rfl)
set_option maxRecDepth 100000 in
theorem wc_41 : ai_oi ai_m41 ≠ 99 → ai_cw ai_m41 ∈ lw_tbl := fun _ => ai_up4 (List.mem_of_getElem? (i := 8) rfl)
set_option maxRecDepth 100000 in
theorem wc_42 : ai_oi ai_m42 ≠ 99 → ai_cw ai_m42 ∈ lw_tbl := fun _ => ai_up4 (List.mem_of_getElem? (i := 12) rfl)
set_option maxRecDepth 100000 in
theorem wc_43 : ai_oi ai_m43 ≠ 99 → ai_cw ai_m43 ∈ lw_tbl := fun _ => ai_up4 (List.mem_of_getElem? (i := 16) rfl)
set_option maxRecDepth 100000 in
theorem wc_44 : ai_oi ai_m44 ≠ 99 → ai_cw ai_m44 ∈ lw_tbl := fun _ => ai_up4 (List.mem_of_getElem? (i := 20) rfl)
set_option maxRecDepth 100000 in
theorem wc_45 : ai_oi ai_m45 ≠ 99 → ai_cw ai_m45 ∈ lw_tbl := fun _ => ai_up4 (List.mem_of_getElem? (i := 24) rfl)
set_option maxRecDepth 100000 in
theorem wc_46 : ai_oi ai_m46 ≠ 99 → ai_cw ai_m46 ∈ lw_tbl := fun _ => ai_up4 (List.mem_of_getElem? (i := 29) rfl)
set_option maxRecDepth 100000 in
theorem wc_47 : ai_oi ai_m47 ≠ 99 → ai_cw ai_m47 ∈ lw_tbl := fun _ => ai_up1 (List.mem_of_getElem? (i := 66) rfl)
set_option maxRecDepth 100000 in
theorem wc_48 : ai_oi ai_m48 ≠ 99 → ai_cw ai_m48 ∈ lw_tbl := fun _ => ai_up2 (List.mem_of_getElem? (i := 111) rfl)
set_option maxRecDepth 100000 in
theorem wc_49 : ai_oi ai_m49 ≠ 99 → ai_cw ai_m49 ∈ lw_tbl := fun _ => ai_up2 (List.mem_of_getElem? (i := 115) rfl)
set_option maxRecDepth 100000 in
theorem wc_50 : ai_oi ai_m50 ≠ 99 → ai_cw ai_m50 ∈ lw_tbl := fun _ => ai_up3 (List.mem_of_getElem? (i := 62) rfl)
set_option maxRecDepth 100000 in
theorem wc_51 : ai_oi ai_m51 ≠ 99 → ai_cw ai_m51 ∈ lw_tbl := fun _ => ai_up3 (List.mem_of_getElem? (i := 178) rfl)
set_option maxRecDepth 100000 in
theorem wc_52 : ai_oi ai_m52 ≠ 99 → ai_cw ai_m52 ∈ lw_tbl := fun _ => ai_up3 (List.mem_of_getElem? (i := 204) rfl)
set_option maxRecDepth 100000 in
theorem wc_53 : ai_oi ai_m53 ≠ 99 → ai_cw ai_m53 ∈ lw_tbl := fun _ => ai_up1 (List.mem_of_getElem? (i := 118) rfl)
set_option maxRecDepth 100000 in
theorem wc_54 : ai_oi ai_m54 ≠ 99 → ai_cw ai_m54 ∈ lw_tbl := fun _ => ai_up2 (List.mem_of_getElem? (i := 107) rfl)
set_option maxRecDepth 100000 in
theorem wc_55 : ai_oi ai_m55 ≠ 99 → ai_cw ai_m55 ∈ lw_tbl := fun _ => ai_up3 (List.mem_of_getElem? (i := 32) rfl)
set_option maxRecDepth 100000 in
theorem wc_56 : ai_oi ai_m56 ≠ 99 → ai_cw ai_m56 ∈ lw_tbl := fun _ => ai_up3 (List.mem_of_getElem? (i := 57) rfl)
set_option maxRecDepth 100000 in
theorem wc_57 : ai_oi ai_m57 ≠ 99 → ai_cw ai_m57 ∈ lw_tbl := fun _ => ai_up3 (List.mem_of_getElem? (i := 89) rfl)
set_option maxRecDepth 100000 in
theorem wc_58 : ai_oi ai_m58 ≠ 99 → ai_cw ai_m58 ∈ lw_tbl := fun _ => ai_up3 (List.mem_of_getElem? (i := 95) rfl)
set_option maxRecDepth 100000 in
theorem wc_59 : ai_oi ai_m59 ≠ 99 → ai_cw ai_m59 ∈ lw_tbl := fun _ => ai_up3 (List.mem_of_getElem? (i := 200) rfl)
set_option maxRecDepth 100000 in
theorem wc_60 : ai_oi ai_m60 ≠ 99 → ai_cw ai_m60 ∈ lw_tbl := fun _ => ai_up1 (List.mem_of_getElem? (i := 189) rfl)
set_option maxRecDepth 100000 in
theorem wc_61 : ai_oi ai_m61 ≠ 99 → ai_cw ai_m61 ∈ lw_tbl := fun _ => ai_up3 (List.mem_of_getElem? (i := 134) rfl)
set_option maxRecDepth 100000 in
theorem wc_62 : ai_oi ai_m62 ≠ 99 → ai_cw ai_m62 ∈ lw_tbl := fun _ => ai_up3 (List.mem_of_getElem? (i := 143) rfl)
set_option maxRecDepth 100000 in
theorem wc_63 : ai_oi ai_m63 ≠ 99 → ai_cw ai_m63 ∈ lw_tbl := fun _ => ai_up3 (List.mem_of_getElem? (i := 149) rfl)
set_option maxRecDepth 100000 in
theorem wc_64 : ai_oi ai_m64 ≠ 99 → ai_cw ai_m64 ∈ lw_tbl := fun _ => ai_up3 (List.mem_of_getElem? (i := 154) rfl)
set_option maxRecDepth 100000 in
theorem wc_65 : ai_oi ai_m65 ≠ 99 → ai_cw ai_m65 ∈ lw_tbl := fun _ => ai_up3 (List.mem_of_getElem? (i := 159) rfl)
set_option maxRecDepth 100000 in
theorem wc_66 : ai_oi ai_m66 ≠ 99 → ai_cw ai_m66 ∈ lw_tbl := fun _ => ai_up3 (List.mem_of_getElem? (i := 164) rfl)
set_option maxRecDepth 100000 in
theorem wc_67 : ai_oi ai_m67 ≠ 99 → ai_cw ai_m67 ∈ lw_tbl := fun _ => ai_up3 (List.mem_of_getElem? (i := 168) rfl)
set_option maxRecDepth 100000 in
theorem wc_68 : ai_oi ai_m68 ≠ 99 → ai_cw ai_m68 ∈ lw_tbl := fun _ => ai_up1 (List.mem_of_getElem? (i := 145) rfl)
set_option maxRecDepth 100000 in
theorem wc_69 : ai_oi ai_m69 ≠ 99 → ai_cw ai_m69 ∈ lw_tbl := fun _ => ai_up3 (List.mem_of_getElem? (i := 41) rfl)
set_option maxRecDepth 100000 in
theorem wc_70 : ai_oi ai_m70 ≠ 99 → ai_cw ai_m70 ∈ lw_tbl := fun _ => ai_up3 (List.mem_of_getElem? (i := 48) rfl)
set_option maxRecDepth 100000 in
theorem wc_71 : ai_oi ai_m71 ≠ 99 → ai_cw ai_m71 ∈ lw_tbl := fun _ => ai_up3 (List.mem_of_getElem? (i := 53) rfl)
set_option maxRecDepth 100000 in
theorem wc_72 : ai_oi ai_m72 ≠ 99 → ai_cw ai_m72 ∈ lw_tbl := fun _ => ai_up1 (List.mem_of_getElem? (i := 162) rfl)
set_option maxRecDepth 100000 in
theorem wc_73 : ai_oi ai_m73 ≠ 99 → ai_cw ai_m73 ∈ lw_tbl := fun _ => ai_up3 (List.mem_of_getElem? (i := 99) rfl)
set_option maxRecDepth 100000 in
theorem wc_74 : ai_oi ai_m74 ≠ 99 → ai_cw ai_m74 ∈ lw_tbl := fun _ => ai_up3 (List.mem_of_getElem? (i := 104) rfl)
set_option maxRecDepth 100000 in
theorem wc_75 : ai_oi ai_m75 ≠ 99 → ai_cw ai_m75 ∈ lw_tbl := fun _ => ai_up3 (List.mem_of_getElem? (i := 113) rfl)
set_option maxRecDepth 100000 in
theorem wc_76 : ai_oi ai_m76 ≠ 99 → ai_cw ai_m76 ∈ lw_tbl := fun _ => ai_up3 (List.mem_of_getElem? (i := 123) rfl)
set_option maxRecDepth 100000 in
theorem wc_77 : ai_oi ai_m77 ≠ 99 → ai_cw ai_m77 ∈ lw_tbl := fun _ => ai_up3 (List.mem_of_getElem? (i := 182) rfl)
set_option maxRecDepth 100000 in
theorem wc_78 : ai_oi ai_m78 ≠ 99 → ai_cw ai_m78 ∈ lw_tbl := fun _ => ai_up1 (List.mem_of_getElem? (i := 33) rfl)
set_option maxRecDepth 100000 in
theorem wc_79 : ai_oi ai_m79 ≠ 99 → ai_cw ai_m79 ∈ lw_tbl := fun _ => ai_up2 (List.mem_of_getElem? (i := 212) rfl)
set_option maxRecDepth 100000 in
theorem wc_80 : ai_oi ai_m80 ≠ 99 → ai_cw ai_m80 ∈ lw_tbl := fun _ => ai_up2 (List.mem_of_getElem? (i := 216) rfl)
set_option maxRecDepth 100000 in
theorem wc_81 : ai_oi ai_m81 ≠ 99 → ai_cw ai_m81 ∈ lw_tbl := fun _ => ai_up2 (List.mem_of_getElem? (i := 236) rfl)
set_option maxRecDepth 100000 in
theorem wc_82 : ai_oi ai_m82 ≠ 99 → ai_cw ai_m82 ∈ lw_tbl := fun _ => ai_up3 (List.mem_of_getElem? (i := 19) rfl)
set_option maxRecDepth 100000 in
theorem wc_83 : ai_oi ai_m83 ≠ 99 → ai_cw ai_m83 ∈ lw_tbl := fun _ => ai_up3 (List.mem_of_getElem? (i := 108) rfl)
set_option maxRecDepth 100000 in
theorem wc_84 : ai_oi ai_m84 ≠ 99 → ai_cw ai_m84 ∈ lw_tbl := fun _ => ai_up1 (List.mem_of_getElem? (i := 72) rfl)
set_option maxRecDepth 100000 in
theorem wc_85 : ai_oi ai_m85 ≠ 99 → ai_cw ai_m85 ∈ lw_tbl := fun _ => ai_up3 (List.mem_of_getElem? (i := 23) rfl)
set_option maxRecDepth 100000 in
theorem wc_86 : ai_oi ai_m86 ≠ 99 → ai_cw ai_m86 ∈ lw_tbl := fun _ => ai_up3 (List.mem_of_getElem? (i := 27) rfl)
set_option maxRecDepth 100000 in
theorem wc_87 : ai_oi ai_m87 ≠ 99 → ai_cw ai_m87 ∈ lw_tbl := fun _ => ai_up3 (List.mem_of_getElem? (i := 66) rfl)
set_option maxRecDepth 100000 in
theorem wc_88 : ai_oi ai_m88 ≠ 99 → ai_cw ai_m88 ∈ lw_tbl := fun _ => ai_up3 (List.mem_of_getElem? (i := 119) rfl)
set_option maxRecDepth 100000 in
theorem wc_89 : ai_oi ai_m89 ≠ 99 → ai_cw ai_m89 ∈ lw_tbl := fun _ => ai_up3 (List.mem_of_getElem? (i := 127) rfl)
set_option maxRecDepth 100000 in
theorem wc_90 : ai_oi ai_m90 ≠ 99 → ai_cw ai_m90 ∈ lw_tbl := fun _ => ai_up3 (List.mem_of_getElem? (i := 138) rfl)
set_option maxRecDepth 100000 in
theorem wc_91 : ai_oi ai_m91 ≠ 99 → ai_cw ai_m91 ∈ lw_tbl := fun _ => ai_up2 (List.mem_of_getElem? (i := 134) rfl)
set_option maxRecDepth 100000 in
theorem wc_92 : ai_oi ai_m92 ≠ 99 → ai_cw ai_m92 ∈ lw_tbl := fun _ => ai_up2 (List.mem_of_getElem? (i := 239) rfl)
set_option maxRecDepth 100000 in
theorem wc_93 : ai_oi ai_m93 ≠ 99 → ai_cw ai_m93 ∈ lw_tbl := fun _ => ai_up3 (List.mem_of_getElem? (i := 72) rfl)
set_option maxRecDepth 100000 in
theorem wc_94 : ai_oi ai_m94 ≠ 99 → ai_cw ai_m94 ∈ lw_tbl := fun _ => ai_up4 (List.mem_of_getElem? (i := 32) rfl)
set_option maxRecDepth 100000 in
theorem wc_95 : ai_oi ai_m95 ≠ 99 → ai_cw ai_m95 ∈ lw_tbl := fun _ => ai_up4 (List.mem_of_getElem? (i := 63) rfl)
set_option maxRecDepth 100000 in
theorem wc_96 : ai_oi ai_m96 ≠ 99 → ai_cw ai_m96 ∈ lw_tbl := fun _ => ai_up4 (List.mem_of_getElem? (i := 73) rfl)
set_option maxRecDepth 100000 in
theorem wc_97 : ai_oi ai_m97 ≠ 99 → ai_cw ai_m97 ∈ lw_tbl := fun _ => ai_up4 (List.mem_of_getElem? (i := 160) rfl)
set_option maxRecDepth 100000 in
theorem wc_98 : ai_oi ai_m98 ≠ 99 → ai_cw ai_m98 ∈ lw_tbl := fun _ => ai_up4 (List.mem_of_getElem? (i := 164) rfl)
set_option maxRecDepth 100000 in
theorem wc_99 : ai_oi ai_m99 ≠ 99 → ai_cw ai_m99 ∈ lw_tbl := fun _ => ai_up4 (List.mem_of_getElem? (i := 168) rfl)
set_option maxRecDepth 100000 in
theorem wc_100 : ai_oi ai_m100 ≠ 99 → ai_cw ai_m100 ∈ lw_tbl := fun _ => ai_up4 (List.mem_of_getElem? (i := 172) rfl)
set_option maxRecDepth 100000 in
theorem wc_101 : ai_oi ai_m101 ≠ 99 → ai_cw ai_m101 ∈ lw_tbl := fun _ => ai_up4 (List.mem_of_getElem? (i := 175) rfl)
set_option maxRecDepth 100000 in
theorem wc_102 : ai_oi ai_m102 ≠ 99 → ai_cw ai_m102 ∈ lw_tbl := fun _ => ai_up4 (List.mem_of_getElem? (i := 180) rfl)
set_option maxRecDepth 100000 in
theorem wc_103 : ai_oi ai_m103 ≠ 99 → ai_cw ai_m103 ∈ lw_tbl := fun _ => ai_up4 (List.mem_of_getElem? (i := 184) rfl)
set_option maxRecDepth 100000 in
theorem wc_104 : ai_oi ai_m104 ≠ 99 → ai_cw ai_m104 ∈ lw_tbl := fun _ => ai_up4 (List.mem_of_getElem? (i := 188) rfl)
set_option maxRecDepth 100000 in
theorem wc_105 : ai_oi ai_m105 ≠ 99 → ai_cw ai_m105 ∈ lw_tbl := fun _ => ai_up4 (List.mem_of_getElem? (i := 192) rfl)
set_option maxRecDepth 100000 in
theorem wc_106 : ai_oi ai_m106 ≠ 99 → ai_cw ai_m106 ∈ lw_tbl := fun _ => ai_up4 (List.mem_of_getElem? (i := 196) rfl)
set_option maxRecDepth 100000 in
theorem wc_107 : ai_oi ai_m107 ≠ 99 → ai_cw ai_m107 ∈ lw_tbl := fun _ => ai_up4 (List.mem_of_getElem? (i := 200) rfl)
set_option maxRecDepth 100000 in
theorem wc_108 : ai_oi ai_m108 ≠ 99 → ai_cw ai_m108 ∈ lw_tbl := fun _ => ai_up4 (List.mem_of_getElem? (i := 204) rfl)
set_option maxRecDepth 100000 in
theorem wc_109 : ai_oi ai_m109 ≠ 99 → ai_cw ai_m109 ∈ lw_tbl := fun _ => ai_up4 (List.mem_of_getElem? (i := 208) rfl)
set_option maxRecDepth 100000 in
theorem wc_110 : ai_oi ai_m110 ≠ 99 → ai_cw ai_m110 ∈ lw_tbl := fun _ => ai_up4 (List.mem_of_getElem? (i := 212) rfl)
set_option maxRecDepth 100000 in
theorem wc_111 : ai_oi ai_m111 ≠ 99 → ai_cw ai_m111 ∈ lw_tbl := fun _ => ai_up4 (List.mem_of_getElem? (i := 216) rfl)
set_option maxRecDepth 100000 in
theorem wc_112 : ai_oi ai_m112 ≠ 99 → ai_cw ai_m112 ∈ lw_tbl := fun _ => ai_up4 (List.mem_of_getElem? (i := 220) rfl)
set_option maxRecDepth 100000 in
theorem wc_113 : ai_oi ai_m113 ≠ 99 → ai_cw ai_m113 ∈ lw_tbl := fun _ => ai_up4 (List.mem_of_getElem? (i := 224) rfl)
set_option maxRecDepth 100000 in
theorem wc_114 : ai_oi ai_m114 ≠ 99 → ai_cw ai_m114 ∈ lw_tbl := fun _ => ai_up4 (List.mem_of_getElem? (i := 228) rfl)
set_option maxRecDepth 100000 in
theorem wc_115 : ai_oi ai_m115 ≠ 99 → ai_cw ai_m115 ∈ lw_tbl := fun _ => ai_up4 (List.mem_of_getElem? (i := 232) rfl)
set_option maxRecDepth 100000 in
theorem wc_116 : ai_oi ai_m116 ≠ 99 → ai_cw ai_m116 ∈ lw_tbl := fun _ => ai_up4 (List.mem_of_getElem? (i := 236) rfl)
set_option maxRecDepth 100000 in
theorem wc_117 : ai_oi ai_m117 ≠ 99 → ai_cw ai_m117 ∈ lw_tbl := fun _ => ai_up5 (List.mem_of_getElem? (i := 0) rfl)
set_option maxRecDepth 100000 in
theorem wc_118 : ai_oi ai_m118 ≠ 99 → ai_cw ai_m118 ∈ lw_tbl := fun _ => ai_up5 (List.mem_of_getElem? (i := 4) rfl)
set_option maxRecDepth 100000 in
theorem wc_119 : ai_oi ai_m119 ≠ 99 → ai_cw ai_m119 ∈ lw_tbl := fun _ => ai_up5 (List.mem_of_getElem? (i := 8) rfl)
set_option maxRecDepth 100000 in
theorem wc_120 : ai_oi ai_m120 ≠ 99 → ai_cw ai_m120 ∈ lw_tbl := fun _ => ai_up5 (List.mem_of_getElem? (i := 12) rfl)
set_option maxRecDepth 100000 in
theorem wc_121 : ai_oi ai_m121 ≠ 99 → ai_cw ai_m121 ∈ lw_tbl := fun _ => ai_up5 (List.mem_of_getElem? (i := 16) rfl)
set_option maxRecDepth 100000 in
theorem wc_122 : ai_oi ai_m122 ≠ 99 → ai_cw ai_m122 ∈ lw_tbl := fun _ => ai_up5 (List.mem_of_getElem? (i := 20) rfl)
set_option maxRecDepth 100000 in
theorem wc_123 : ai_oi ai_m123 ≠ 99 → ai_cw ai_m123 ∈ lw_tbl := fun _ => ai_up5 (List.mem_of_getElem? (i := 24) rfl)
set_option maxRecDepth 100000 in
theorem wc_124 : ai_oi ai_m124 ≠ 99 → ai_cw ai_m124 ∈ lw_tbl := fun _ => ai_up5 (List.mem_of_getElem? (i := 28) rfl)
set_option maxRecDepth 100000 in
theorem wc_125 : ai_oi ai_m125 ≠ 99 → ai_cw ai_m125 ∈ lw_tbl := fun _ => ai_up5 (List.mem_of_getElem? (i := 32) rfl)
set_option maxRecDepth 100000 in
theorem wc_126 : ai_oi ai_m126 ≠ 99 → ai_cw ai_m126 ∈ lw_tbl := fun _ => ai_up5 (List.mem_of_getElem? (i := 36) rfl)
set_option maxRecDepth 100000 in
theorem wc_127 : ai_oi ai_m127 ≠ 99 → ai_cw ai_m127 ∈ lw_tbl := fun _ => ai_up5 (List.mem_of_getElem? (i := 40) rfl)
set_option maxRecDepth 100000 in
theorem wc_128 : ai_oi ai_m128 ≠ 99 → ai_cw ai_m128 ∈ lw_tbl := fun _ => ai_up5 (List.mem_of_getElem? (i := 44) rfl)
set_option maxRecDepth 100000 in
theorem wc_129 : ai_oi ai_m129 ≠ 99 → ai_cw ai_m129 ∈ lw_tbl := fun _ => ai_up5 (List.mem_of_getElem? (i := 48) rfl)
set_option maxRecDepth 100000 in
theorem wc_130 : ai_oi ai_m130 ≠ 99 → ai_cw ai_m130 ∈ lw_tbl := fun _ => ai_up5 (List.mem_of_getElem? (i := 52) rfl)
set_option maxRecDepth 100000 in
theorem wc_131 : ai_oi ai_m131 ≠ 99 → ai_cw ai_m131 ∈ lw_tbl := fun _ => ai_up5 (List.mem_of_getElem? (i := 56) rfl)
set_option maxRecDepth 100000 in
theorem wc_132 : ai_oi ai_m132 ≠ 99 → ai_cw ai_m132 ∈ lw_tbl := fun _ => ai_up5 (List.mem_of_getElem? (i := 60) rfl)
set_option maxRecDepth 100000 in
theorem wc_133 : ai_oi ai_m133 ≠ 99 → ai_cw ai_m133 ∈ lw_tbl := fun _ => ai_up5 (List.mem_of_getElem? (i := 64) rfl)
set_option maxRecDepth 100000 in
theorem wc_134 : ai_oi ai_m134 ≠ 99 → ai_cw ai_m134 ∈ lw_tbl := fun _ => ai_up5 (List.mem_of_getElem? (i := 68) rfl)
set_option maxRecDepth 100000 in
theorem wc_135 : ai_oi ai_m135 ≠ 99 → ai_cw ai_m135 ∈ lw_tbl := fun _ => ai_up5 (List.mem_of_getElem? (i := 72) rfl)
set_option maxRecDepth 100000 in
theorem wc_136 : ai_oi ai_m136 ≠ 99 → ai_cw ai_m136 ∈ lw_tbl := fun _ => ai_up5 (List.mem_of_getElem? (i := 76) rfl)
set_option maxRecDepth 100000 in
theorem wc_137 : ai_oi ai_m137 ≠ 99 → ai_cw ai_m137 ∈ lw_tbl := fun _ => ai_up5 (List.mem_of_getElem? (i := 80) rfl)
set_option maxRecDepth 100000 in
theorem wc_138 : ai_oi ai_m138 ≠ 99 → ai_cw ai_m138 ∈ lw_tbl := fun _ => ai_up5 (List.mem_of_getElem? (i := 84) rfl)
set_option maxRecDepth 100000 in
theorem wc_139 : ai_oi ai_m139 ≠ 99 → ai_cw ai_m139 ∈ lw_tbl := fun _ => ai_up5 (List.mem_of_getElem? (i := 88) rfl)
set_option maxRecDepth 100000 in
theorem wc_140 : ai_oi ai_m140 ≠ 99 → ai_cw ai_m140 ∈ lw_tbl := fun _ => ai_up5 (List.mem_of_getElem? (i := 92) rfl)
set_option maxRecDepth 100000 in
theorem wc_141 : ai_oi ai_m141 ≠ 99 → ai_cw ai_m141 ∈ lw_tbl := fun _ => ai_up5 (List.mem_of_getElem? (i := 96) rfl)
set_option maxRecDepth 100000 in
theorem wc_142 : ai_oi ai_m142 ≠ 99 → ai_cw ai_m142 ∈ lw_tbl := fun _ => ai_up5 (List.mem_of_getElem? (i := 99) rfl)
set_option maxRecDepth 100000 in
theorem wc_143 : ai_oi ai_m143 ≠ 99 → ai_cw ai_m143 ∈ lw_tbl := fun _ => ai_up5 (List.mem_of_getElem? (i := 103) rfl)
set_option maxRecDepth 100000 in
theorem wc_144 : ai_oi ai_m144 ≠ 99 → ai_cw ai_m144 ∈ lw_tbl := fun _ => ai_up5 (List.mem_of_getElem? (i := 107) rfl)
set_option maxRecDepth 100000 in
theorem wc_145 : ai_oi ai_m145 ≠ 99 → ai_cw ai_m145 ∈ lw_tbl := fun _ => ai_up5 (List.mem_of_getElem? (i := 111) rfl)
set_option maxRecDepth 100000 in
theorem wc_146 : ai_oi ai_m146 ≠ 99 → ai_cw ai_m146 ∈ lw_tbl := fun _ => ai_up5 (List.mem_of_getElem? (i := 115) rfl)
set_option maxRecDepth 100000 in
theorem wc_147 : ai_oi ai_m147 ≠ 99 → ai_cw ai_m147 ∈ lw_tbl := fun _ => ai_up5 (List.mem_of_getElem? (i := 119) rfl)
set_option maxRecDepth 100000 in
theorem wc_148 : ai_oi ai_m148 ≠ 99 → ai_cw ai_m148 ∈ lw_tbl := fun _ => ai_up5 (List.mem_of_getElem? (i := 123) rfl)
set_option maxRecDepth 100000 in
theorem wc_149 : ai_oi ai_m149 ≠ 99 → ai_cw ai_m149 ∈ lw_tbl := fun _ => ai_up5 (List.mem_of_getElem? (i := 127) rfl)
set_option maxRecDepth 100000 in
theorem wc_150 : ai_oi ai_m150 ≠ 99 → ai_cw ai_m150 ∈ lw_tbl := fun _ => ai_up5 (List.mem_of_getElem? (i := 131) rfl)
set_option maxRecDepth 100000 in
theorem wc_151 : ai_oi ai_m151 ≠ 99 → ai_cw ai_m151 ∈ lw_tbl := fun _ => ai_up5 (List.mem_of_getElem? (i := 135) rfl)
set_option maxRecDepth 100000 in
theorem wc_152 : ai_oi ai_m152 ≠ 99 → ai_cw ai_m152 ∈ lw_tbl := fun _ => ai_up5 (List.mem_of_getElem? (i := 139) rfl)
set_option maxRecDepth 100000 in
theorem wc_153 : ai_oi ai_m153 ≠ 99 → ai_cw ai_m153 ∈ lw_tbl := fun _ => ai_up5 (List.mem_of_getElem? (i := 142) rfl)
set_option maxRecDepth 100000 in
theorem wc_154 : ai_oi ai_m154 ≠ 99 → ai_cw ai_m154 ∈ lw_tbl := fun _ => ai_up5 (List.mem_of_getElem? (i := 146) rfl)
set_option maxRecDepth 100000 in
theorem wc_155 : ai_oi ai_m155 ≠ 99 → ai_cw ai_m155 ∈ lw_tbl := fun _ => ai_up5 (List.mem_of_getElem? (i := 150) rfl)
set_option maxRecDepth 100000 in
theorem wc_156 : ai_oi ai_m156 ≠ 99 → ai_cw ai_m156 ∈ lw_tbl := fun _ => ai_up5 (List.mem_of_getElem? (i := 154) rfl)
set_option maxRecDepth 100000 in
theorem wc_157 : ai_oi ai_m157 ≠ 99 → ai_cw ai_m157 ∈ lw_tbl := fun _ => ai_up5 (List.mem_of_getElem? (i := 158) rfl)
set_option maxRecDepth 100000 in
theorem wc_158 : ai_oi ai_m158 ≠ 99 → ai_cw ai_m158 ∈ lw_tbl := fun _ => ai_up3 (List.mem_of_getElem? (i := 44) rfl)
theorem wc_159 : ai_oi ai_m159 ≠ 99 → ai_cw ai_m159 ∈ lw_tbl := fun h => absurd rfl h
set_option maxRecDepth 100000 in
theorem ai_cws : ∀ M ∈ ai_MT, ai_oi M ≠ 99 → ai_cw M ∈ lw_tbl := List.forall_mem_cons.mpr ⟨wc_0, List.forall_mem_cons.mpr ⟨wc_1, List.forall_mem_cons.mpr ⟨wc_2, List.forall_mem_cons.mpr ⟨wc_3, List.forall_mem_cons.mpr ⟨wc_4, List.forall_mem_cons.mpr ⟨wc_5, List.forall_mem_cons.mpr ⟨wc_6, List.forall_mem_cons.mpr ⟨wc_7, List.forall_mem_cons.mpr ⟨wc_8, List.forall_mem_cons.mpr ⟨wc_9, List.forall_mem_cons.mpr ⟨wc_10, List.forall_mem_cons.mpr ⟨wc_11, List.forall_mem_cons.mpr ⟨wc_12, List.forall_mem_cons.mpr ⟨wc_13, List.forall_mem_cons.mpr ⟨wc_14, List.forall_mem_cons.mpr ⟨wc_15, List.forall_mem_cons.mpr ⟨wc_16, List.forall_mem_cons.mpr ⟨wc_17, List.forall_mem_cons.mpr ⟨wc_18, List.forall_mem_cons.mpr ⟨wc_19, List.forall_mem_cons.mpr ⟨wc_20, List.forall_mem_cons.mpr ⟨wc_21, List.forall_mem_cons.mpr ⟨wc_22, List.forall_mem_cons.mpr ⟨wc_23, List.forall_mem_cons.mpr ⟨wc_24, List.forall_mem_cons.mpr ⟨wc_25, List.forall_mem_cons.mpr ⟨wc_26, List.forall_mem_cons.mpr ⟨wc_27, List.forall_mem_cons.mpr ⟨wc_28, List.forall_mem_cons.mpr ⟨wc_29, List.forall_mem_cons.mpr ⟨wc_30, List.forall_mem_cons.mpr ⟨wc_31, List.forall_mem_cons.mpr ⟨wc_32, List.forall_mem_cons.mpr ⟨wc_33, List.forall_mem_cons.mpr ⟨wc_34, List.forall_mem_cons.mpr ⟨wc_35, List.forall_mem_cons.mpr ⟨wc_36, List.forall_mem_cons.mpr ⟨wc_37, List.forall_mem_cons.mpr ⟨wc_38, List.forall_mem_cons.mpr ⟨wc_39, List.forall_mem_cons.mpr ⟨wc_40, List.forall_mem_cons.mpr ⟨wc_41, List.forall_mem_cons.mpr ⟨wc_42, List.forall_mem_cons.mpr ⟨wc_43, List.forall_mem_cons.mpr ⟨wc_44, List.forall_mem_cons.mpr ⟨wc_45, List.forall_mem_cons.mpr ⟨wc_46, List.forall_mem_cons.mpr ⟨wc_47, List.forall_mem_cons.mpr ⟨wc_48, List.forall_mem_cons.mpr ⟨wc_49, List.forall_mem_cons.mpr ⟨wc_50, List.forall_mem_cons.mpr ⟨wc_51, List.forall_mem_cons.mpr ⟨wc_52, List.forall_mem_cons.mpr ⟨wc_53, List.forall_mem_cons.mpr ⟨wc_54, List.forall_mem_cons.mpr ⟨wc_55, List.forall_mem_cons.mpr ⟨wc_56, List.forall_mem_cons.mpr ⟨wc_57, List.forall_mem_cons.mpr ⟨wc_58, List.forall_mem_cons.mpr ⟨wc_59, List.forall_mem_cons.mpr ⟨wc_60, List.forall_mem_cons.mpr ⟨wc_61, List.forall_mem_cons.mpr ⟨wc_62, List.forall_mem_cons.mpr ⟨wc_63, List.forall_mem_cons.mpr ⟨wc_64, List.forall_mem_cons.mpr ⟨wc_65, List.forall_mem_cons.mpr ⟨wc_66, List.forall_mem_cons.mpr ⟨wc_67, List.forall_mem_cons.mpr ⟨wc_68, List.forall_mem_cons.mpr ⟨wc_69, List.forall_mem_cons.mpr ⟨wc_70, List.forall_mem_cons.mpr ⟨wc_71, List.forall_mem_cons.mpr ⟨wc_72, List.forall_mem_cons.mpr ⟨wc_73, List.forall_mem_cons.mpr ⟨wc_74, List.forall_mem_cons.mpr ⟨wc_75, List.forall_mem_cons.mpr ⟨wc_76, List.forall_mem_cons.mpr ⟨wc_77, List.forall_mem_cons.mpr ⟨wc_78, List.forall_mem_cons.mpr ⟨wc_79, List.forall_mem_cons.mpr ⟨wc_80, List.forall_mem_cons.mpr ⟨wc_81, List.forall_mem_cons.mpr ⟨wc_82, List.forall_mem_cons.mpr ⟨wc_83, List.forall_mem_cons.mpr ⟨wc_84, List.forall_mem_cons.mpr ⟨wc_85, List.forall_mem_cons.mpr ⟨wc_86, List.forall_mem_cons.mpr ⟨wc_87, List.forall_mem_cons.mpr ⟨wc_88, List.forall_mem_cons.mpr ⟨wc_89, List.forall_mem_cons.mpr ⟨wc_90, List.forall_mem_cons.mpr ⟨wc_91, List.forall_mem_cons.mpr ⟨wc_92, List.forall_mem_cons.mpr ⟨wc_93, List.forall_mem_cons.mpr ⟨wc_94, List.forall_mem_cons.mpr ⟨wc_95, List.forall_mem_cons.mpr ⟨wc_96, List.forall_mem_cons.mpr ⟨wc_97, List.forall_mem_cons.mpr ⟨wc_98, List.forall_mem_cons.mpr ⟨wc_99, List.forall_mem_cons.mpr ⟨wc_100, List.forall_mem_cons.mpr ⟨wc_101, List.forall_mem_cons.mpr ⟨wc_102, List.forall_mem_cons.mpr ⟨wc_103, List.forall_mem_cons.mpr ⟨wc_104, List.forall_mem_cons.mpr ⟨wc_105, List.forall_mem_cons.mpr ⟨wc_106, List.forall_mem_cons.mpr ⟨wc_107, List.forall_mem_cons.mpr ⟨wc_108, List.forall_mem_cons.mpr ⟨wc_109, List.forall_mem_cons.mpr ⟨wc_110, List.forall_mem_cons.mpr ⟨wc_111, List.forall_mem_cons.mpr ⟨wc_112, List.forall_mem_cons.mpr ⟨wc_113, List.forall_mem_cons.mpr ⟨wc_114, List.forall_mem_cons.mpr ⟨wc_115, List.forall_mem_cons.mpr ⟨wc_116, List.forall_mem_cons.mpr ⟨wc_117, List.forall_mem_cons.mpr ⟨wc_118, List.forall_mem_cons.mpr ⟨wc_119, List.forall_mem_cons.mpr ⟨wc_120, List.forall_mem_cons.mpr ⟨wc_121, List.forall_mem_cons.mpr ⟨wc_122, List.forall_mem_cons.mpr ⟨wc_123, List.forall_mem_cons.mpr ⟨wc_124, List.forall_mem_cons.mpr ⟨wc_125, List.forall_mem_cons.mpr ⟨wc_126, List.forall_mem_cons.mpr ⟨wc_127, List.forall_mem_cons.mpr ⟨wc_128, List.forall_mem_cons.mpr ⟨wc_129, List.forall_mem_cons.mpr ⟨wc_130, List.forall_mem_cons.mpr ⟨wc_131, List.forall_mem_cons.mpr ⟨wc_132, List.forall_mem_cons.mpr ⟨wc_133, List.forall_mem_cons.mpr ⟨wc_134, List.forall_mem_cons.mpr ⟨wc_135, List.forall_mem_cons.mpr ⟨wc_136, List.forall_mem_cons.mpr ⟨wc_137, List.forall_mem_cons.mpr ⟨wc_138, List.forall_mem_cons.mpr ⟨wc_139, List.forall_mem_cons.mpr ⟨wc_140, List.forall_mem_cons.mpr ⟨wc_141, List.forall_mem_cons.mpr ⟨wc_142, List.forall_mem_cons.mpr ⟨wc_143, List.forall_mem_cons.mpr ⟨wc_144, List.forall_mem_cons.mpr ⟨wc_145, List.forall_mem_cons.mpr ⟨wc_146, List.forall_mem_cons.mpr ⟨wc_147, List.forall_mem_cons.mpr ⟨wc_148, List.forall_mem_cons.mpr ⟨wc_149, List.forall_mem_cons.mpr ⟨wc_150, List.forall_mem_cons.mpr ⟨wc_151, List.forall_mem_cons.mpr ⟨wc_152, List.forall_mem_cons.mpr ⟨wc_153, List.forall_mem_cons.mpr ⟨wc_154, List.forall_mem_cons.mpr ⟨wc_155, List.forall_mem_cons.mpr ⟨wc_156, List.forall_mem_cons.mpr ⟨wc_157, List.forall_mem_cons.mpr ⟨wc_158, List.forall_mem_cons.mpr ⟨wc_159, fun _ h => absurd h List.not_mem_nil⟩⟩⟩⟩⟩⟩⟩⟩⟩⟩⟩⟩⟩⟩⟩⟩⟩⟩⟩⟩⟩⟩⟩⟩⟩⟩⟩⟩⟩⟩⟩⟩⟩⟩⟩⟩⟩⟩⟩⟩⟩⟩⟩⟩⟩⟩⟩⟩⟩⟩⟩⟩⟩⟩⟩⟩⟩⟩⟩⟩⟩⟩⟩⟩⟩⟩⟩⟩⟩⟩⟩⟩⟩⟩⟩⟩⟩⟩⟩⟩⟩⟩⟩⟩⟩⟩⟩⟩⟩⟩⟩⟩⟩⟩⟩⟩⟩⟩⟩⟩⟩⟩⟩⟩⟩⟩⟩⟩⟩⟩⟩⟩⟩⟩⟩⟩⟩⟩⟩⟩⟩⟩⟩⟩⟩⟩⟩⟩⟩⟩⟩⟩⟩⟩⟩⟩⟩⟩⟩⟩⟩⟩⟩⟩⟩⟩⟩⟩⟩⟩⟩⟩⟩⟩⟩⟩⟩⟩⟩⟩
theorem ai_gcw (M : ai_M) : goodWord (ai_cw M) = true := by
  unfold ai_cw
  split <;> rfl
set_option maxRecDepth 100000 in
theorem ai_pk7 : ai_w7.all (fun w => decide (w ∈ lw_tbl) && goodWord w) = true := by decide +kernel
set_option maxRecDepth 100000 in
theorem ai_pk8 : ai_w8.all (fun w => decide (w ∈ lw_tbl) && goodWord w) = true := by decide +kernel
def ai_p2 : List Nat := [375, 377, 379, 381, 110, 112, 114, 128, 130, 179, 181, 160, 162, 346, 348, 350, 352, 354, 356, 358, 360, 362, 364, 366, 368, 202, 204, 221, 223, 244, 246, 248, 250, 252, 254, 271, 273, 275, 277, 279, 281, 303, 305, 307, 309, 311, 313, 315, 317, 319, 321, 323, 325, 894, 896, 898, 900, 902, 904, 906, 908, 910, 912, 914, 916, 918, 920, 922, 924, 926, 928, 930, 932, 934, 936, 938, 940, 942, 944, 946]
set_option maxRecDepth 100000 in
theorem ai_pl2 : ai_w2.length ≤ ai_p2.length := by decide +kernel
set_option maxRecDepth 100000 in
theorem ai_pk2 : (ai_w2.zip ai_p2).all (fun q => decide (lw_tbl[q.2]? = some q.1) && goodWord q.1) = true := by decide +kernel
def ai_p3 : List Nat := [371, 372, 373, 374, 124, 126, 330, 332, 338, 339, 340, 341, 342, 344, 328, 333, 335, 337, 292, 293, 294, 295, 296, 297, 298, 299, 300, 301, 302, 291, 165, 172, 198, 195, 266, 267, 268, 269, 270, 265, 219, 220, 240, 241, 242, 243, 238, 239, 107, 108, 109, 146, 153, 868, 869, 872, 874, 875, 876, 879, 880, 881, 884, 885, 886, 887, 888, 889, 890, 891, 892, 893, 867, 870, 871, 877, 873, 882, 878, 883]
set_option maxRecDepth 100000 in
theorem ai_pl3 : ai_w3.length ≤ ai_p3.length := by decide +kernel
set_option maxRecDepth 100000 in
theorem ai_pk3 : (ai_w3.zip ai_p3).all (fun q => decide (lw_tbl[q.2]? = some q.1) && goodWord q.1) = true := by decide +kernel
def ai_p4 : List Nat := [104, 74, 121, 75, 137, 76, 188, 189, 79, 207, 208, 78, 521, 522, 523, 74, 545, 546, 547, 74, 388, 389, 390, 75, 556, 557, 558, 75, 581, 582, 583, 79, 586, 587, 588, 78, 630, 631, 632, 78, 634, 635, 636, 78, 416, 417, 418, 79, 830, 561, 562, 75, 832, 649, 650, 81, 849, 850, 851, 75, 860, 684, 685, 82, 440, 441, 442, 78, 392, 393, 75, 560, 561, 562, 75, 564, 522, 523, 74, 566, 73, 568, 569, 570, 74, 572, 573, 574, 77, 576, 577, 578, 77, 212, 189, 79, 216, 80, 137, 76, 143, 77, 232, 233, 81, 259, 260, 82, 287, 288, 83, 590, 591, 592, 80, 606, 607, 608, 79, 638, 639, 640, 79, 643, 612, 613, 76, 644, 645, 646, 79, 648, 649, 650, 81, 683, 684, 685, 82, 722, 582, 583, 79, 723, 725, 12, 78, 735, 737, 13, 78, 740, 742, 14, 78, 758, 760, 16, 78, 727, 728, 729, 76, 731, 732, 733, 81, 739, 616, 617, 77, 744, 746, 15, 78, 762, 763, 764, 83, 772, 773, 774, 83, 748, 688, 689, 77, 749, 750, 751, 79, 766, 768, 17, 83, 566, 73, 771, 658, 659, 74, 776, 778, 18, 83, 797, 799, 23, 83, 809, 811, 26, 83, 780, 782, 19, 83, 784, 786, 20, 83, 788, 790, 21, 83, 792, 794, 22, 83, 796, 569, 570, 74, 801, 803, 24, 83, 805, 807, 25, 83, 813, 815, 27, 83, 817, 573, 574, 77, 818, 820, 28, 83, 143, 77, 615, 616, 617, 77, 757, 688, 689, 77, 424, 425, 426, 76, 137, 76, 610, 582, 583, 79, 611, 612, 613, 76, 753, 754, 755, 76, 642, 425, 426, 76, 420, 421, 422, 76, 143, 77, 687, 688, 689, 77, 692, 694, 6, 82, 696, 616, 617, 77, 697, 658, 659, 74, 698, 700, 7, 82, 708, 710, 9, 82, 702, 569, 570, 74, 703, 705, 8, 82, 566, 73, 713, 715, 10, 82, 717, 719, 11, 82, 721, 526, 527, 74, 707, 669, 670, 77, 594, 595, 90, 597, 599, 1, 80, 566, 73, 602, 604, 2, 80, 143, 77, 652, 577, 578, 77, 653, 655, 3, 81, 672, 674, 5, 81, 657, 658, 659, 74, 662, 664, 4, 81, 666, 595, 90, 566, 73, 668, 669, 670, 77, 676, 677, 678, 77, 681, 573, 574, 77, 682, 616, 617, 77, 525, 526, 527, 74, 661, 569, 570, 74, 680, 573, 574, 77, 691, 669, 670, 77, 449, 450, 451, 73, 552, 553, 554, 73, 625, 626, 627, 73, 826, 827, 828, 73, 856, 857, 858, 73, 957, 959, 29, 84, 965, 966, 84, 989, 991, 32, 84, 993, 995, 33, 84, 997, 999, 34, 84, 985, 987, 31, 84, 1053, 1055, 47, 84, 1117, 1119, 63, 84, 1041, 1043, 44, 84, 1045, 1047, 45, 84, 1037, 1039, 43, 84, 1049, 1051, 46, 84, 1033, 1035, 42, 84, 1069, 1071, 51, 84, 1073, 1075, 52, 84, 1077, 1079, 53, 84, 1065, 1067, 50, 84, 1029, 1031, 41, 84, 1057, 1059, 48, 84, 1001, 1003, 35, 84, 1113, 1115, 62, 84, 1081, 1083, 54, 84, 1005, 1007, 36, 84, 1129, 1130, 84, 1136, 1138, 67, 84, 1144, 1146, 69, 84, 1140, 1142, 68, 84, 1125, 1127, 65, 84, 1132, 1134, 66, 84, 1148, 1150, 70, 84, 1109, 1111, 61, 84, 1097, 1099, 58, 84, 1101, 1103, 59, 84, 1089, 1091, 56, 84, 1093, 1095, 57, 84, 1105, 1107, 60, 84, 1021, 1023, 39, 84, 1121, 1123, 64, 84, 1017, 1019, 38, 84, 1025, 1027, 40, 84, 1061, 1063, 49, 84, 1085, 1087, 55, 84, 981, 983, 30, 84, 1013, 1015, 37, 84, 1172, 1173, 84, 1168, 1170, 71, 84, 95, 96, 73, 863, 864, 84, 444, 445, 72, 953, 954, 955, 84, 949, 950, 951, 84, 384, 385, 386, 73, 961, 962, 963, 84, 396, 397, 398, 73, 969, 970, 971, 84, 549, 550, 72, 977, 978, 979, 84, 622, 623, 72, 1009, 1010, 1011, 84, 400, 401, 402, 73, 1152, 1153, 1154, 84, 404, 405, 406, 73, 1156, 1157, 1158, 84, 408, 409, 410, 73, 1160, 1161, 1162, 84, 412, 413, 414, 73, 1164, 1165, 1166, 84, 428, 429, 430, 73, 1175, 1176, 1177, 84, 822, 823, 72, 1179, 1180, 1181, 84, 853, 854, 72, 1183, 1184, 1185, 84, 432, 433, 434, 73, 973, 974, 975, 84, 436, 437, 438, 73, 1187, 1188, 1189, 84]
set_option maxRecDepth 100000 in
theorem ai_pl4 : ai_w4.length ≤ ai_p4.length := by decide +kernel
set_option maxRecDepth 100000 in
theorem ai_pk4 : (ai_w4.zip ai_p4).all (fun q => decide (lw_tbl[q.2]? = some q.1) && goodWord q.1) = true := by decide +kernel
def ai_p5 : List Nat := [101, 102, 74, 118, 119, 75, 134, 135, 76, 184, 185, 78, 186, 187, 79, 211, 187, 79, 213, 214, 80, 226, 135, 76, 228, 141, 77, 230, 231, 81, 257, 258, 82, 285, 286, 83, 140, 141, 77, 192, 135, 76, 263, 141, 77, 236, 141, 77, 93, 94, 73, 861, 862, 84]
set_option maxRecDepth 100000 in
theorem ai_pl5 : ai_w5.length ≤ ai_p5.length := by decide +kernel
set_option maxRecDepth 100000 in
theorem ai_pk5 : (ai_w5.zip ai_p5).all (fun q => decide (lw_tbl[q.2]? = some q.1) && goodWord q.1) = true := by decide +kernel
def ai_p6 : List Nat := [192, 117, 133, 284, 1192, 395, 968, 1191, 98, 123, 210, 290, 139, 191, 262, 218, 235, 106, 145, 866, 99, 100, 619, 621, 620, 91]
set_option maxRecDepth 100000 in
theorem ai_pl6 : ai_w6.length ≤ ai_p6.length := by decide +kernel
set_option maxRecDepth 100000 in
theorem ai_pk6 : (ai_w6.zip ai_p6).all (fun q => decide (lw_tbl[q.2]? = some q.1) && goodWord q.1) = true := by decide +kernel
theorem ai_wsin {w : Cond} (h : w ∈ ai_ws) : w ∈ lw_tbl ∧ goodWord w = true := by
  unfold ai_ws at h
  rcases List.mem_append.mp h with h | h
  · obtain ⟨M, hM, rfl⟩ := List.mem_map.mp h
    obtain ⟨h1, h2⟩ := List.mem_filter.mp hM
    exact ⟨ai_cws M h1 (by simpa using h2), ai_gcw M⟩
  rcases List.mem_append.mp h with h | h
  · exact ai_zip ai_pl2 ai_pk2 h
  rcases List.mem_append.mp h with h | h
  · exact ai_zip ai_pl3 ai_pk3 h
  rcases List.mem_append.mp h with h | h
  · exact ai_zip ai_pl4 ai_pk4 h
  rcases List.mem_append.mp h with h | h
  · exact ai_zip ai_pl5 ai_pk5 h
  rcases List.mem_append.mp h with h | h
  · exact ai_zip ai_pl6 ai_pk6 h
  rcases List.mem_append.mp h with h | h
  · have h1 := List.all_eq_true.mp ai_pk7 w h
    simp only [Bool.and_eq_true, decide_eq_true_eq] at h1
    exact h1
  · have h1 := List.all_eq_true.mp ai_pk8 w h
    simp only [Bool.and_eq_true, decide_eq_true_eq] at h1
    exact h1
theorem ai_good (w : Cond) (h : w ∈ ai_ws) : (w.onTables && w.keeps) = true ∨ ∃ ty, w = .arrayClass ty := good_of_word (ai_wsin h).2
theorem ai_ws1 {w : Cond} (h : w ∈ ai_w1) : w ∈ ai_ws := List.mem_append_left _ h
theorem ai_ws2 {w : Cond} (h : w ∈ ai_w2) : w ∈ ai_ws := List.mem_append_right _ (List.mem_append_left _ h)
theorem ai_ws3 {w : Cond} (h : w ∈ ai_w3) : w ∈ ai_ws := List.mem_append_right _ (List.mem_append_right _ (List.mem_append_left _ h))
theorem ai_ws4 {w : Cond} (h : w ∈ ai_w4) : w ∈ ai_ws := List.mem_append_right _ (List.mem_append_right _ (List.mem_append_right _ (List.mem_append_left _ h)))
theorem ai_ws5 {w : Cond} (h : w ∈ ai_w5) : w ∈ ai_ws := List.mem_append_right _ (List.mem_append_right _ (List.mem_append_right _ (List.mem_append_right _ (List.mem_append_left _ h))))
theorem ai_ws6 {w : Cond} (h : w ∈ ai_w6) : w ∈ ai_ws := List.mem_append_right _ (List.mem_append_right _ (List.mem_append_right _ (List.mem_append_right _ (List.mem_append_right _ (List.mem_append_left _ h)))))
theorem ai_ws7 {w : Cond} (h : w ∈ ai_w7) : w ∈ ai_ws := List.mem_append_right _ (List.mem_append_right _ (List.mem_append_right _ (List.mem_append_right _ (List.mem_append_right _ (List.mem_append_right _ (List.mem_append_left _ h))))))
theorem ai_ws8 {w : Cond} (h : w ∈ ai_w8) : w ∈ ai_ws := List.mem_append_right _ (List.mem_append_right _ (List.mem_append_right _ (List.mem_append_right _ (List.mem_append_right _ (List.mem_append_right _ (List.mem_append_right _ h))))))
theorem ai_lookN {β : Type} {l : List (Nat × β)} {a : Nat} {x : β} (h : l.lookup a = some x) : (a, x) ∈ l := by
  induction l with
  | nil => cases h
  | cons q l ih =>
    obtain ⟨k, v⟩ := q
    rw [List.lookup_cons] at h
    by_cases hk : a = k
    · subst hk
      simp only [beq_self_eq_true] at h
      cases h
      exact List.mem_cons_self
    · have : (a == k) = false := by simpa using hk
      simp only [this] at h
      exact List.mem_cons_of_mem _ (ih h)
theorem ai_lookP {β : Type} {l : List ((Nat × Nat) × β)} {a : Nat × Nat} {x : β} (h : l.lookup a = some x) : (a, x) ∈ l := by
  induction l with
  | nil => cases h
  | cons q l ih =>
    obtain ⟨k, v⟩ := q
    rw [List.lookup_cons] at h
    by_cases hk : a = k
    · subst hk
      simp only [beq_self_eq_true] at h
      cases h
      exact List.mem_cons_self
    · have : (a == k) = false := by simpa using hk
      simp only [this] at h
      exact List.mem_cons_of_mem _ (ih h)
theorem ai_dec {M : ai_M} {pc len : Nat} {i : Instr} (hM : M ∈ ai_MT) (h : ai_at M pc = some (i, len)) : decode (ai_cc M) pc = .ok (i, len) ∧ ((∀ a b c d, i ≠ .tableswitch a b c d) → len = ai_len i) ∧ (∀ off, i = .goto off → 0 ≤ (pc : Int) + off) ∧ (∀ cd off, i = .ifCond cd off → 0 ≤ (pc : Int) + off) ∧ (∀ cd off, i = .if_icmp cd off → 0 ≤ (pc : Int) + off) ∧ (∀ a b c d, i = .tableswitch a b c d → 0 ≤ (pc : Int) + a ∧ ∀ (j : Nat) (off : Int), d[j]? = some off → 0 ≤ (pc : Int) + off) := by
  have h1 := List.all_eq_true.mp (ai_chks M hM) _ (ai_lookN h)
  simp only [Bool.and_eq_true, decide_eq_true_eq, Bool.or_eq_true, beq_iff_eq] at h1
  obtain ⟨⟨h2, h3⟩, h4⟩ := h1
  refine ⟨h2, fun hn => ?_, ?_, ?_, ?_, ?_⟩
  · rcases h3 with h3 | h3
    · cases i <;> simp [ai_isSw] at h3
      exact absurd rfl (hn _ _ _ _)
    · exact h3
  · rintro off rfl
    simpa [ai_tgt] using h4
  · rintro cd off rfl
    simpa [ai_tgt] using h4
  · rintro cd off rfl
    simpa [ai_tgt] using h4
  · rintro a b c d rfl
    simp only [ai_tgt, Bool.and_eq_true, decide_eq_true_eq, List.all_eq_true] at h4
    refine ⟨h4.1, fun j off hj => h4.2 off ?_⟩
    rw [← Array.getElem?_toList] at hj
    exact List.mem_of_getElem? hj
theorem ai_room_ok {M M' : ai_M} {pc len x kd mi na ci : Nat} {i : Instr} (hM : M ∈ ai_MT) (h : ai_at M pc = some (i, len)) (hi : ai_ivk i = some x) (ht : ai_mth (ai_oi M) x = some (kd, mi, na, ci)) (hM' : ai_MT[mi]? = some M') : ai_Fr M' + 1 ≤ ai_Fr M ∧ 19 + ai_nL M' + ai_Lc M' ≤ ai_Lc M := by
  have h1 := List.all_eq_true.mp (List.all_eq_true.mp ai_rcks M hM) _ (ai_lookN h)
  simp only [hi, ht, hM', Bool.and_eq_true, decide_eq_true_eq] at h1
  exact h1.1.1
theorem ai_robj {M : ai_M} {pc len x : Nat} (hM : M ∈ ai_MT) (h : ai_at M pc = some (.invokespecial x, len)) (hx : ai_isObj (ai_oi M) x = true) : 1 ≤ ai_Fr M ∧ 20 ≤ ai_Lc M := by
  have h1 := List.all_eq_true.mp (List.all_eq_true.mp ai_rcks M hM) _ (ai_lookN h)
  simp only [ai_ivk, hx, Bool.not_true, Bool.false_or, Bool.and_eq_true, decide_eq_true_eq] at h1
  exact h1.1.2
theorem ai_rcpy {M : ai_M} {pc len x : Nat} (hM : M ∈ ai_MT) (h : ai_at M pc = some (.invokestatic x, len)) (hx : ai_isCpy (ai_oi M) x = true) : 1 ≤ ai_Fr M ∧ 26 ≤ ai_Lc M := by
  have h1 := List.all_eq_true.mp (List.all_eq_true.mp ai_rcks M hM) _ (ai_lookN h)
  simp only [ai_ivk, hx, Bool.not_true, Bool.false_or, Bool.and_eq_true, decide_eq_true_eq] at h1
  exact h1.2
theorem ai_c0t : ∀ k, k < 4 → parseFieldDescriptor (ai_T0 k).2.2.1 = some (ai_ty 0 k) := by decide +kernel
theorem ai_c0n : ∀ a, a < 4 → ∀ b, b < 4 → a ≠ b → (ai_T0 a).2.1 ≠ (ai_T0 b).2.1 := by decide +kernel
theorem ai_c0o : ∀ k, k < 4 → (ai_T0 k).1 = "RuleCompletion" := by decide +kernel
theorem ai_c1t : ∀ k, k < 3 → parseFieldDescriptor (ai_T1 k).2.2.1 = some (ai_ty 1 k) := by decide +kernel
theorem ai_c1n : ∀ a, a < 3 → ∀ b, b < 3 → a ≠ b → (ai_T1 a).2.1 ≠ (ai_T1 b).2.1 := by decide +kernel
theorem ai_c1o : ∀ k, k < 3 → (ai_T1 k).1 = "RuleCompletion$Symbols" := by decide +kernel
theorem ai_c2t : ∀ k, k < 2 → parseFieldDescriptor (ai_T2 k).2.2.1 = some (ai_ty 2 k) := by decide +kernel
theorem ai_c2n : ∀ a, a < 2 → ∀ b, b < 2 → a ≠ b → (ai_T2 a).2.1 ≠ (ai_T2 b).2.1 := by decide +kernel
theorem ai_c2o : ∀ k, k < 2 → (ai_T2 k).1 = "RuleCompletion$Draft" := by decide +kernel
theorem ai_c3t : ∀ k, k < 2 → parseFieldDescriptor (ai_T3 k).2.2.1 = some (ai_ty 3 k) := by decide +kernel
theorem ai_c3n : ∀ a, a < 2 → ∀ b, b < 2 → a ≠ b → (ai_T3 a).2.1 ≠ (ai_T3 b).2.1 := by decide +kernel
theorem ai_c3o : ∀ k, k < 2 → (ai_T3 k).1 = "RuleCompletion$Pair" := by decide +kernel
theorem ai_c4t : ∀ k, k < 2 → parseFieldDescriptor (ai_T4 k).2.2.1 = some (ai_ty 4 k) := by decide +kernel
theorem ai_c4n : ∀ a, a < 2 → ∀ b, b < 2 → a ≠ b → (ai_T4 a).2.1 ≠ (ai_T4 b).2.1 := by decide +kernel
theorem ai_c4o : ∀ k, k < 2 → (ai_T4 k).1 = "RuleCompletion$Term" := by decide +kernel
theorem ai_c5t : ∀ k, k < 12 → parseFieldDescriptor (ai_T5 k).2.2.1 = some (ai_ty 5 k) := by decide +kernel
theorem ai_c5n : ∀ a, a < 12 → ∀ b, b < 12 → a ≠ b → (ai_T5 a).2.1 ≠ (ai_T5 b).2.1 := by decide +kernel
theorem ai_c5o : ∀ k, k < 12 → (ai_T5 k).1 = "RuleCompletion$Engine" := by decide +kernel
theorem ai_c6t : ∀ k, k < 2 → parseFieldDescriptor (ai_T6 k).2.2.1 = some (ai_ty 6 k) := by decide +kernel
theorem ai_c6n : ∀ a, a < 2 → ∀ b, b < 2 → a ≠ b → (ai_T6 a).2.1 ≠ (ai_T6 b).2.1 := by decide +kernel
theorem ai_c6o : ∀ k, k < 2 → (ai_T6 k).1 = "RuleCompletion$PairList" := by decide +kernel
theorem ai_c7t : ∀ k, k < 2 → parseFieldDescriptor (ai_T7 k).2.2.1 = some (ai_ty 7 k) := by decide +kernel
theorem ai_c7n : ∀ a, a < 2 → ∀ b, b < 2 → a ≠ b → (ai_T7 a).2.1 ≠ (ai_T7 b).2.1 := by decide +kernel
theorem ai_c7o : ∀ k, k < 2 → (ai_T7 k).1 = "RuleCompletion$Renaming" := by decide +kernel
theorem ai_c8t : ∀ k, k < 6 → parseFieldDescriptor (ai_T8 k).2.2.1 = some (ai_ty 8 k) := by decide +kernel
theorem ai_c8n : ∀ a, a < 6 → ∀ b, b < 6 → a ≠ b → (ai_T8 a).2.1 ≠ (ai_T8 b).2.1 := by decide +kernel
theorem ai_c8o : ∀ k, k < 6 → (ai_T8 k).1 = "RuleCompletion$Rewriter" := by decide +kernel
theorem ai_c9t : ∀ k, k < 6 → parseFieldDescriptor (ai_T9 k).2.2.1 = some (ai_ty 9 k) := by decide +kernel
theorem ai_c9n : ∀ a, a < 6 → ∀ b, b < 6 → a ≠ b → (ai_T9 a).2.1 ≠ (ai_T9 b).2.1 := by decide +kernel
theorem ai_c9o : ∀ k, k < 6 → (ai_T9 k).1 = "RuleCompletion$PathOrder" := by decide +kernel
theorem ai_c10t : ∀ k, k < 12 → parseFieldDescriptor (ai_T10 k).2.2.1 = some (ai_ty 10 k) := by decide +kernel
theorem ai_c10n : ∀ a, a < 12 → ∀ b, b < 12 → a ≠ b → (ai_T10 a).2.1 ≠ (ai_T10 b).2.1 := by decide +kernel
theorem ai_c10o : ∀ k, k < 12 → (ai_T10 k).1 = "RuleCompletion$Overlap" := by decide +kernel
theorem ai_c11t : ∀ k, k < 27 → parseFieldDescriptor (ai_T11 k).2.2.1 = some (ai_ty 11 k) := by decide +kernel
theorem ai_c11n : ∀ a, a < 27 → ∀ b, b < 27 → a ≠ b → (ai_T11 a).2.1 ≠ (ai_T11 b).2.1 := by decide +kernel
theorem ai_c11o : ∀ k, k < 27 → (ai_T11 k).1 = "RuleCompletionModel" := by decide +kernel
theorem ai_cl_ok {ci : Nat} {C : String} {T : u_T} {N : Nat} (h : ai_cl[ci]? = some (C, T, N)) : (∀ k, k < N → parseFieldDescriptor (T k).2.2.1 = some (ai_ty ci k)) ∧ (∀ a, a < N → ∀ b, b < N → a ≠ b → (T a).2.1 ≠ (T b).2.1) := by
  match ci, h with
  | 0, h => cases h; exact ⟨ai_c0t, ai_c0n⟩
  | 1, h => cases h; exact ⟨ai_c1t, ai_c1n⟩
  | 2, h => cases h; exact ⟨ai_c2t, ai_c2n⟩
  | 3, h => cases h; exact ⟨ai_c3t, ai_c3n⟩
  | 4, h => cases h; exact ⟨ai_c4t, ai_c4n⟩
  | 5, h => cases h; exact ⟨ai_c5t, ai_c5n⟩
  | 6, h => cases h; exact ⟨ai_c6t, ai_c6n⟩
  | 7, h => cases h; exact ⟨ai_c7t, ai_c7n⟩
  | 8, h => cases h; exact ⟨ai_c8t, ai_c8n⟩
  | 9, h => cases h; exact ⟨ai_c9t, ai_c9n⟩
  | 10, h => cases h; exact ⟨ai_c10t, ai_c10n⟩
  | 11, h => cases h; exact ⟨ai_c11t, ai_c11n⟩
  | n + 12, h => simp [ai_cl] at h
theorem ai_cl_own {ci : Nat} {C : String} {T : u_T} {N : Nat} (h : ai_cl[ci]? = some (C, T, N)) : ∀ k, k < N → (T k).1 = C := by
  match ci, h with
  | 0, h => cases h; exact ai_c0o
  | 1, h => cases h; exact ai_c1o
  | 2, h => cases h; exact ai_c2o
  | 3, h => cases h; exact ai_c3o
  | 4, h => cases h; exact ai_c4o
  | 5, h => cases h; exact ai_c5o
  | 6, h => cases h; exact ai_c6o
  | 7, h => cases h; exact ai_c7o
  | 8, h => cases h; exact ai_c8o
  | 9, h => cases h; exact ai_c9o
  | 10, h => cases h; exact ai_c10o
  | 11, h => cases h; exact ai_c11o
  | n + 12, h => simp [ai_cl] at h
theorem ai_cl_in {ci : Nat} {C : String} {T : u_T} {N : Nat} (h : ai_cl[ci]? = some (C, T, N)) : ∀ w ∈ u_ws C T N, w ∈ ai_ws := fun w hw => ai_ws2 (List.mem_flatMap.mpr ⟨(C, T, N), List.mem_of_getElem? h, hw⟩)
def ai_fck (e : (Nat × Nat) × (Nat × Nat × Bool)) : Bool := match ai_cl[e.2.1]? with
  | some (_, _, N) => decide (e.2.2.1 < N)
  | none => false
set_option maxRecDepth 100000 in
theorem ai_fcks : ai_fldL.all ai_fck = true := by decide +kernel
theorem ai_fld_ok {oi x : Nat} {q : Nat × Nat × Bool} (h : ai_fld oi x = some q) : ∃ C T N, ai_cl[q.1]? = some (C, T, N) ∧ q.2.1 < N ∧ (T q.2.1).1 = C ∧ (∀ w ∈ u_ws C T N, w ∈ ai_ws) ∧ (if q.2.2 = true then Cond.fieldLinkNest (ai_own oi) x C (T q.2.1).2.1 (T q.2.1).2.2.1 ai_host ∈ ai_nw else Cond.fieldLink (ai_own oi) x C (T q.2.1).2.1 (T q.2.1).2.2.1 ∈ ai_ws) := by
  have hm : ((oi, x), q) ∈ ai_fldL := ai_lookP h
  have h1 := List.all_eq_true.mp ai_fcks _ hm
  unfold ai_fck at h1
  cases hc : ai_cl[q.1]? with
  | none => simp only [hc] at h1; cases h1
  | some z =>
    obtain ⟨C, T, N⟩ := z
    simp only [hc, decide_eq_true_eq] at h1
    refine ⟨C, T, N, rfl, h1, ai_cl_own hc _ h1, ai_cl_in hc, ?_⟩
    cases hn : q.2.2 with
    | true =>
      rw [if_pos rfl]
      refine List.mem_append_left _ (List.mem_map.mpr ⟨(ai_own oi, x, C, (T q.2.1).2.1, (T q.2.1).2.2.1), ?_, rfl⟩)
      exact List.mem_map.mpr ⟨((oi, x), q), List.mem_filter.mpr ⟨hm, hn⟩, by simp only [hc]⟩
    | false =>
      rw [if_neg (by simp)]
      refine ai_ws3 (List.mem_map.mpr ⟨((oi, x), q), List.mem_filter.mpr ⟨hm, by simp [hn]⟩, ?_⟩)
      simp only [ai_fw, hc, hn]
      rfl
theorem ai_new_ok {oi x ci : Nat} (h : ai_new oi x = some ci) : ∃ C T N, ai_cl[ci]? = some (C, T, N) ∧ Cond.classLink (ai_own oi) x C ∈ ai_ws ∧ Cond.instantiable C N ∈ ai_ws ∧ Cond.initialized C ∈ ai_ws := by
  have hm : ((oi, x), ci) ∈ ai_newL := ai_lookP h
  have key : ai_newL.all (fun e => (ai_cl[e.2]?).isSome) = true := by decide +kernel
  have h1 := List.all_eq_true.mp key _ hm
  obtain ⟨⟨C, T, N⟩, hc⟩ := Option.isSome_iff_exists.mp h1
  have hc' : ai_cl[ci]? = some (C, T, N) := hc
  have hin : ∀ w ∈ ([.classLink (ai_own oi) x C, .instantiable C N, .initialized C] : List Cond), w ∈ ai_ws := fun w hw => ai_ws5 (List.mem_flatMap.mpr ⟨((oi, x), ci), hm, by simp only [hc']; exact hw⟩)
  exact ⟨C, T, N, hc', hin _ (by simp), hin _ (by simp), hin _ (by simp)⟩
theorem ai_contains {l : List (Nat × Nat)} {a : Nat × Nat} (h : l.contains a = true) : a ∈ l := by simpa using h
theorem ai_anw_ok {oi x : Nat} (h : ai_anw oi x = true) : Cond.classLink (ai_own oi) x ai_pairN ∈ ai_ws := by
  have hm : (oi, x) ∈ ai_anwL := ai_contains h
  refine ai_ws6 ?_
  unfold ai_w6
  simp only [List.mem_append]
  exact Or.inl (Or.inl (Or.inl (Or.inl (Or.inl (Or.inl (List.mem_map.mpr ⟨(oi, x), hm, rfl⟩))))))
theorem ai_arr_ok {ty : ArrayType} {t : Nat} (h : ai_kind ty = some t) : Cond.arrayClass (newarray.typeOf ty) ∈ ai_ws := by
  refine ai_ws6 ?_
  unfold ai_w6
  simp only [List.mem_append]
  refine Or.inl (Or.inl (Or.inl (Or.inl (Or.inl (Or.inr ?_)))))
  cases ty <;> simp [ai_kind] at h <;> simp [newarray.typeOf]
theorem ai_ldc_ok {oi x : Nat} {v : Int32} (h : ai_ldc oi x = some v) : Cond.constant (ai_own oi) x v ∈ ai_ws := by cases h
theorem ai_ldcJ_ok {oi x : Nat} {v : Int64} (h : ai_ldcJ oi x = some v) : Cond.constantLong (ai_own oi) x v ∈ ai_ws := by
  have hm : ((oi, x), v) ∈ ai_ldjL := ai_lookP h
  refine ai_ws6 ?_
  unfold ai_w6
  simp only [List.mem_append]
  exact Or.inl (Or.inl (Or.inl (Or.inl (Or.inr (List.mem_map.mpr ⟨_, hm, rfl⟩)))))
theorem ai_obj_ok {oi x : Nat} (h : ai_isObj oi x = true) : Cond.methodLink (ai_own oi) x objectInit ∈ ai_ws ∧ Cond.instanceMethod objectInit ∈ ai_ws ∧ Cond.code objectInit ⟨#[0xb1]⟩ 1 none ∈ ai_ws := by
  have hm : (oi, x) ∈ ai_objL := ai_contains h
  refine ⟨ai_ws6 ?_, ai_ws6 ?_, ai_ws6 ?_⟩ <;> unfold ai_w6 <;> simp only [List.mem_append]
  · exact Or.inl (Or.inl (Or.inl (Or.inr (List.mem_map.mpr ⟨(oi, x), hm, rfl⟩))))
  · exact Or.inl (Or.inl (Or.inr (by simp)))
  · exact Or.inl (Or.inl (Or.inr (by simp)))
theorem ai_cpy_ok {oi x : Nat} (h : ai_isCpy oi x = true) : Cond.methodLink (ai_own oi) x arraycopyName ∈ ai_ws ∧ Cond.native arraycopyName ∈ ai_ws ∧ Cond.static arraycopyName ∈ ai_ws ∧ Cond.initialized "java/lang/System" ∈ ai_ws := by
  have hm : (oi, x) ∈ ai_cpyL := ai_contains h
  refine ⟨ai_ws6 ?_, ai_ws6 ?_, ai_ws6 ?_, ai_ws6 ?_⟩ <;> unfold ai_w6 <;> simp only [List.mem_append]
  · exact Or.inl (Or.inr (List.mem_map.mpr ⟨(oi, x), hm, rfl⟩))
  · exact Or.inr (by simp)
  · exact Or.inr (by simp)
  · exact Or.inr (by simp)
theorem ai_pair_ok : ∃ T N, ai_cl[ai_pair]? = some (ai_pairN, T, N) := ⟨_, _, rfl⟩
theorem ai_nw_ok {w : Cond} (h : w ∈ ai_nw) : (∃ a i r n d hh, w = .fieldLinkNest a i r n d hh) ∨ ∃ a i y hh, w = .methodLinkNest a i y hh := by
  rcases List.mem_append.mp h with h | h
  · obtain ⟨q, -, rfl⟩ := List.mem_map.mp h
    exact Or.inl ⟨_, _, _, _, _, _, rfl⟩
  · obtain ⟨q, -, rfl⟩ := List.mem_map.mp h
    exact Or.inr ⟨_, _, _, _, rfl⟩
theorem ai_code_in {M : ai_M} (hM : M ∈ ai_MT) (ho : ai_oi M ≠ 99) : ai_cw M ∈ ai_ws := ai_ws1 (List.mem_map.mpr ⟨M, List.mem_filter.mpr ⟨hM, by simpa using ho⟩, rfl⟩)
def ai_mck (e : (Nat × Nat) × (Nat × Nat × Nat × Nat)) : Bool := match ai_MT[e.2.2.1]? with
  | none => false
  | some M => decide (ai_oi M ≠ 99) && decide ((ai_y M).cls ≠ "java/lang/invoke/MethodHandle") && decide ((ai_y M).cls ≠ "java/lang/invoke/VarHandle") && decide ((parseMethodDescriptor (ai_y M).desc).map (fun d => d.parameters.length) = some e.2.2.2.1) && (match e.2.1 with
    | 0 => (ai_ex M).isEmpty && decide ((ai_cl[e.2.2.2.2]?).map (fun q => q.1) = some (ai_y M).cls)
    | 1 => (ai_ex M).isEmpty && decide ((ai_cl[e.2.2.2.2]?).map (fun q => q.1) = some (ai_y M).cls)
    | 2 => (ai_ex M).isEmpty
    | 3 => (ai_ex M).isEmpty
    | 4 => (ai_ex M).isEmpty && decide ((ai_y M).name = "<init>") && decide (ai_ret M = none)
    | 5 => (ai_ex M).isEmpty && decide ((ai_y M).name = "<init>") && decide (ai_ret M = none)
    | 6 => !(ai_ex M).isEmpty
    | _ => false)
set_option maxRecDepth 100000 in
theorem ai_mcks : ai_mthL.all ai_mck = true := by decide +kernel
theorem ai_cw_e {M : ai_M} (h : (ai_ex M).isEmpty = true) : ai_cw M = .code (ai_y M) (ai_cc M) (ai_nL M) (ai_ret M) := by
  unfold ai_cw
  rw [List.isEmpty_iff.mp h]
theorem ai_cw_h {M : ai_M} (h : (ai_ex M).isEmpty = false) : ∃ hh, ai_cw M = .codeWith (ai_y M) (ai_cc M) (ai_nL M) (ai_ret M) hh := by
  unfold ai_cw
  cases hx : ai_ex M with
  | nil => rw [hx] at h; cases h
  | cons a t => exact ⟨_, rfl⟩
theorem ai_cl_n {ci : Nat} {C : String} (h : (ai_cl[ci]?).map (fun q => q.1) = some C) : ∃ T N, ai_cl[ci]? = some (C, T, N) := by
  cases hc : ai_cl[ci]? with
  | none => rw [hc] at h; cases h
  | some q =>
    obtain ⟨C', T, N⟩ := q
    rw [hc] at h
    cases h
    exact ⟨T, N, rfl⟩
theorem ai_mth_ok {oi x kd mi na ci : Nat} {M : ai_M} (h : ai_mth oi x = some (kd, mi, na, ci)) (hM : ai_MT[mi]? = some M) :
    ((ai_y M).cls ≠ "java/lang/invoke/MethodHandle" ∧ (ai_y M).cls ≠ "java/lang/invoke/VarHandle") ∧ (parseMethodDescriptor (ai_y M).desc).map (fun d => d.parameters.length) = some na ∧ Cond.initialized (ai_y M).cls ∈ ai_ws ∧ ai_oi M ≠ 99 ∧
    (kd = 0 → Cond.methodLink (ai_own oi) x (ai_y M) ∈ ai_ws ∧ Cond.instanceMethod (ai_y M) ∈ ai_ws ∧ Cond.selects (ai_y M).cls (ai_y M) (ai_y M) ∈ ai_ws ∧ ai_cw M = .code (ai_y M) (ai_cc M) (ai_nL M) (ai_ret M) ∧ ∃ T N, ai_cl[ci]? = some ((ai_y M).cls, T, N)) ∧
    (kd = 1 → Cond.methodLinkNest (ai_own oi) x (ai_y M) ai_host ∈ ai_nw ∧ Cond.instanceMethod (ai_y M) ∈ ai_ws ∧ Cond.selects (ai_y M).cls (ai_y M) (ai_y M) ∈ ai_ws ∧ ai_cw M = .code (ai_y M) (ai_cc M) (ai_nL M) (ai_ret M) ∧ ∃ T N, ai_cl[ci]? = some ((ai_y M).cls, T, N)) ∧
    (kd = 2 → Cond.methodLink (ai_own oi) x (ai_y M) ∈ ai_ws ∧ Cond.static (ai_y M) ∈ ai_ws ∧ ai_cw M = .code (ai_y M) (ai_cc M) (ai_nL M) (ai_ret M)) ∧
    (kd = 3 → Cond.methodLinkNest (ai_own oi) x (ai_y M) ai_host ∈ ai_nw ∧ Cond.static (ai_y M) ∈ ai_ws ∧ ai_cw M = .code (ai_y M) (ai_cc M) (ai_nL M) (ai_ret M)) ∧
    (kd = 4 → Cond.methodLink (ai_own oi) x (ai_y M) ∈ ai_ws ∧ Cond.instanceMethod (ai_y M) ∈ ai_ws ∧ (ai_y M).name = "<init>" ∧ ai_cw M = .code (ai_y M) (ai_cc M) (ai_nL M) none) ∧
    (kd = 5 → Cond.methodLinkNest (ai_own oi) x (ai_y M) ai_host ∈ ai_nw ∧ Cond.instanceMethod (ai_y M) ∈ ai_ws ∧ (ai_y M).name = "<init>" ∧ ai_cw M = .code (ai_y M) (ai_cc M) (ai_nL M) none) ∧
    (kd = 6 → Cond.methodLink (ai_own oi) x (ai_y M) ∈ ai_ws ∧ Cond.static (ai_y M) ∈ ai_ws ∧ ∃ hh, ai_cw M = .codeWith (ai_y M) (ai_cc M) (ai_nL M) (ai_ret M) hh) := by
  have hm : ((oi, x), (kd, mi, na, ci)) ∈ ai_mthL := ai_lookP h
  have h1 := List.all_eq_true.mp ai_mcks _ hm
  simp only [ai_mck, hM, Bool.and_eq_true, decide_eq_true_eq] at h1
  obtain ⟨⟨⟨⟨g0, g1⟩, g2⟩, g3⟩, g4⟩ := h1
  have hy : ai_yOf mi = ai_y M := by simp [ai_yOf, hM]
  have hw : ∀ w ∈ ai_mw ((oi, x), (kd, mi, na, ci)), w ∈ ai_ws := fun w hw => ai_ws4 (List.mem_flatMap.mpr ⟨_, hm, hw⟩)
  have hn : ai_nest kd = true → Cond.methodLinkNest (ai_own oi) x (ai_y M) ai_host ∈ ai_nw := fun hk => List.mem_append_right _ (List.mem_map.mpr ⟨(ai_own oi, x, ai_y M), List.mem_map.mpr ⟨_, List.mem_filter.mpr ⟨hm, hk⟩, by simp only [hy]⟩, rfl⟩)
  simp only [ai_mw, hy] at hw
  have hini : Cond.initialized (ai_y M).cls ∈ ai_ws := by
    split at hw <;> exact hw _ (by simp)
  refine ⟨⟨g1, g2⟩, g3, hini, g0, ?_, ?_, ?_, ?_, ?_, ?_, ?_⟩ <;> rintro rfl <;> simp only [Bool.and_eq_true, decide_eq_true_eq] at g4 hw
  · exact ⟨hw _ (by simp), hw _ (by simp), hw _ (by simp), ai_cw_e g4.1, ai_cl_n g4.2⟩
  · exact ⟨hn rfl, hw _ (by simp), hw _ (by simp), ai_cw_e g4.1, ai_cl_n g4.2⟩
  · exact ⟨hw _ (by simp), hw _ (by simp), ai_cw_e g4⟩
  · exact ⟨hn rfl, hw _ (by simp), ai_cw_e g4⟩
  · exact ⟨hw _ (by simp), hw _ (by simp), g4.1.2, by rw [ai_cw_e g4.1.1, g4.2]⟩
  · exact ⟨hn rfl, hw _ (by simp), g4.1.2, by rw [ai_cw_e g4.1.1, g4.2]⟩
  · exact ⟨hw _ (by simp), hw _ (by simp), ai_cw_h (by simpa using g4)⟩
end
section
/-! The tables' facts about exceptions. -/
/-- the texts: owner, entry, text -/
def ai_txt : List (String × Nat × String) := ai_MT.flatMap fun M => (ai_thrL M).map fun q => (ai_own (ai_oi M), q.2.2.2.1, q.2.2.2.2.2)
def ai_tck (M : ai_M) : Bool := (ai_thrL M).all fun q => decide (6 ≤ ai_Fr M) && decide (90 ≤ ai_Lc M) && (ai_ex M).isEmpty && decide (ai_oi M ≠ 99) && decide (ai_own (ai_oi M) = "RuleCompletion") && decide ((q.2.1, q.2.2.1, q.2.2.2.2.1) ∈ ai_exL) && decide (decode (ai_cc M) q.1 = .ok (.new q.2.2.1, 3)) && decide (decode (ai_cc M) (q.1 + 3) = .ok (.dup, 1)) && decide (decode (ai_cc M) (q.1 + 4) = .ok (.ldc q.2.2.2.1, 2)) && decide (decode (ai_cc M) (q.1 + 6) = .ok (.invokespecial q.2.2.2.2.1, 3)) && decide (decode (ai_cc M) (q.1 + 9) = .ok (.athrow, 1)) && Bundle.fit q.2.1
set_option maxRecDepth 100000 in
theorem ai_tcks : ai_MT.all ai_tck = true := by decide +kernel
theorem ai_thr_ok {M : ai_M} {pc : Nat} {E : String} (hM : M ∈ ai_MT) (ht : ai_thr M pc = some E) : ∃ ik is ic text, 6 ≤ ai_Fr M ∧ 90 ≤ ai_Lc M ∧ ai_ex M = [] ∧ ai_oi M ≠ 99 ∧ decode (ai_cc M) pc = .ok (.new ik, 3) ∧ decode (ai_cc M) (pc + 3) = .ok (.dup, 1) ∧ decode (ai_cc M) (pc + 4) = .ok (.ldc is, 2) ∧ decode (ai_cc M) (pc + 6) = .ok (.invokespecial ic, 3) ∧ decode (ai_cc M) (pc + 9) = .ok (.athrow, 1) ∧ Bundle.fit E = true ∧ (∀ n ∈ ai_sup, Bundle.fit n = true) ∧ (ai_own (ai_oi M), is, text) ∈ ai_txt ∧ Cond.classLink (ai_own (ai_oi M)) ik E ∈ ai_ws ∧ Cond.initialized E ∈ ai_ws ∧ E ∈ ai_ca ∧ ∀ w ∈ (Bundle.ownAtoms (ai_own (ai_oi M)) ic E ai_sup).filter (ai_no E), w ∈ ai_ws := by
  unfold ai_thr at ht
  cases hq : (ai_thrL M).lookup pc with
  | none => rw [hq] at ht; cases ht
  | some q =>
    rw [hq] at ht
    cases ht
    obtain ⟨E, ik, is, ic, text⟩ := q
    have hm := ai_lookN hq
    have h1 := List.all_eq_true.mp (List.all_eq_true.mp ai_tcks M hM) _ hm
    simp only [Bool.and_eq_true, decide_eq_true_eq] at h1
    obtain ⟨⟨⟨⟨⟨⟨⟨⟨⟨⟨⟨g1, g2⟩, g3⟩, g4⟩, g5⟩, g6⟩, g7⟩, g8⟩, g9⟩, g10⟩, g11⟩, g12⟩ := h1
    have hin : ∀ w ∈ (Cond.classLink "RuleCompletion" ik E :: .initialized E :: (Bundle.ownAtoms "RuleCompletion" ic E ai_sup).filter (ai_no E)), w ∈ ai_ws := fun w hw => ai_ws7 (List.mem_flatMap.mpr ⟨(E, ik, ic), g6, hw⟩)
    refine ⟨ik, is, ic, text, g1, g2, List.isEmpty_iff.mp g3, g4, g7, g8, g9, g10, g11, g12, by decide +kernel, ?_, ?_, ?_, List.mem_map.mpr ⟨_, g6, rfl⟩, ?_⟩
    · exact List.mem_flatMap.mpr ⟨M, hM, List.mem_map.mpr ⟨_, hm, rfl⟩⟩
    · rw [g5]; exact hin _ List.mem_cons_self
    · exact hin _ (List.mem_cons_of_mem _ List.mem_cons_self)
    · rw [g5]; exact fun w hw => hin _ (List.mem_cons_of_mem _ (List.mem_cons_of_mem _ hw))
theorem ai_hand_ok {M : ai_M} {pc hp : Nat} {E : String} (h : ai_hand M pc E = some hp) : ∃ pre x suf, ai_ex M = pre ++ x :: suf ∧ x.2.2.1 = hp ∧ (x.1 ≤ pc ∧ pc < x.2.1) ∧ x.2.2.2.2 = E ∧ ∀ z ∈ pre, ¬ (z.1 ≤ pc ∧ pc < z.2.1 ∧ z.2.2.2.2 = E) := by
  unfold ai_hand at h
  cases hf : (ai_ex M).find? fun h => decide (h.1 ≤ pc) && decide (pc < h.2.1) && decide (h.2.2.2.2 = E) with
  | none => rw [hf] at h; cases h
  | some x =>
    rw [hf] at h
    cases h
    obtain ⟨h1, pre, suf, h2, h3⟩ := List.find?_eq_some_iff_append.mp hf
    simp only [Bool.and_eq_true, decide_eq_true_eq] at h1
    refine ⟨pre, x, suf, h2, rfl, h1.1, h1.2, fun z hz hn => ?_⟩
    have := h3 z hz
    simp [hn.1, hn.2.1, hn.2.2] at this
set_option maxRecDepth 100000 in
theorem ai_lawck : ai_MT.all (fun M => !(ai_oi M == 99) || (ai_ex M).isEmpty) = true := by decide +kernel
theorem ai_law_ex {M : ai_M} (hM : M ∈ ai_MT) (h : ai_oi M = 99) : ai_ex M = [] := by
  have h1 := List.all_eq_true.mp ai_lawck M hM
  simp only [h, beq_self_eq_true, Bool.not_true, Bool.false_or] at h1
  exact List.isEmpty_iff.mp h1
set_option maxRecDepth 100000 in
theorem ai_rowck : ai_MT.all (fun M => (ai_ex M).all fun z => decide (z.2.2.2.1 ≠ 0) && decide (z.2.2.2.2 ∈ ai_ca)) = true := by decide +kernel
theorem ai_row_ok {M : ai_M} {z : Nat × Nat × Nat × Nat × String} (hM : M ∈ ai_MT) (hz : z ∈ ai_ex M) : z.2.2.2.1 ≠ 0 ∧ Cond.classLink (ai_own (ai_oi M)) z.2.2.2.1 z.2.2.2.2 ∈ ai_ws ∧ z.2.2.2.2 ∈ ai_ca := by
  have h1 := List.all_eq_true.mp (List.all_eq_true.mp ai_rowck M hM) _ hz
  have hin : ∀ w ∈ ([.classLink (ai_own (ai_oi M)) z.2.2.2.1 z.2.2.2.2] : List Cond), w ∈ ai_ws := fun w hw => ai_ws8 (List.mem_flatMap.mpr ⟨M, hM, List.mem_flatMap.mpr ⟨z, hz, hw⟩⟩)
  simp only [Bool.and_eq_true, decide_eq_true_eq] at h1
  exact ⟨h1.1, hin _ (by simp), h1.2⟩
set_option maxRecDepth 100000 in
theorem ai_passck : ai_MT.all (fun M => decide ((ai_ex M).Pairwise (fun z y => z.2.2.2.2 ≠ y.2.2.2.2 → (y.2.2.2.2, z.2.2.2.2) ∈ ai_ncL))) = true := by decide +kernel
theorem ai_pass_ok {M : ai_M} {pre suf : List (Nat × Nat × Nat × Nat × String)} {x w : Nat × Nat × Nat × Nat × String} (hM : M ∈ ai_MT) (hs : ai_ex M = pre ++ x :: suf) (hw : w ∈ pre) (hn : w.2.2.2.2 ≠ x.2.2.2.2) : (x.2.2.2.2, w.2.2.2.2) ∈ ai_ncL := by
  have h1 := List.all_eq_true.mp ai_passck M hM
  simp only [decide_eq_true_eq] at h1
  rw [hs, List.pairwise_append] at h1
  exact h1.2.2 w hw x List.mem_cons_self hn
set_option maxRecDepth 100000 in
theorem ai_ownck : ai_MT.all (fun M => decide (ai_own (ai_oi M) = (ai_y M).cls)) = true := by decide +kernel
theorem ai_own_ok {M : ai_M} (hM : M ∈ ai_MT) : ai_own (ai_oi M) = (ai_y M).cls := by
  have h1 := List.all_eq_true.mp ai_ownck M hM
  simpa using h1
end
section
/-! An abstract machine over our own cells. Cells and references go by number (the i-th cell that the law makes); what stands here is pure. -/
/-- a cell: an array (its kind, its length, what it holds) or an object (its kind, its fields) -/
abbrev ai_C : Type := (Nat × vp_A) ⊕ (Nat × List Value)
/-- the cells of ours; all cells made; all slots made; what the cells hold -/
abbrev ai_S : Type := Nat × Nat × Nat × (Nat → ai_C)
abbrev ai_L : Type := List (Option Value)
abbrev ai_F : Type := Nat × ai_L × List Value × ai_S
abbrev ai_O : Type := (Option Value ⊕ String) × ai_S
/-- an answer that comes by 'return' -/
abbrev ai_ok (v : Option Value) (S : ai_S) : ai_O := (.inl v, S)
def ai_isl (x : Option Value) : Bool := match x with
  | some v => v.category == 2
  | none => false
/-- a value of one word is stored -/
def ai_st1 (lv : ai_L) (i : Nat) (v : Value) : Option ai_L := if i < lv.length ∧ (i = 0 ∨ ai_isl (lv.getD (i - 1) none) = false) then some (lv.set i (some v)) else none
def ai_ld (lv : ai_L) (i : Nat) : Option Value := lv.getD i none
def ai_isI (v : Value) : Bool := match v with
  | .int _ => true
  | _ => false
def ai_isJ (v : Value) : Bool := match v with
  | .long _ => true
  | _ => false
def ai_isA (v : Value) : Bool := match v with
  | .ref _ => true
  | .null => true
  | .retAddr _ => true
  | _ => false
def ai_1 (f : Int32 → Option Value) (st : List Value) : Option (List Value) := match st with
  | .int x :: r => (f x).map (· :: r)
  | _ => none
def ai_1j (f : Int64 → Option Value) (st : List Value) : Option (List Value) := match st with
  | .long x :: r => (f x).map (· :: r)
  | _ => none
def ai_2 (f : Int32 → Int32 → Option Value) (st : List Value) : Option (List Value) := match st with
  | .int y :: .int x :: r => (f x y).map (· :: r)
  | _ => none
def ai_2j (f : Int64 → Int64 → Option Value) (st : List Value) : Option (List Value) := match st with
  | .long y :: .long x :: r => (f x y).map (· :: r)
  | _ => none
def ai_2ji (f : Int64 → Int32 → Option Value) (st : List Value) : Option (List Value) := match st with
  | .int y :: .long x :: r => (f x y).map (· :: r)
  | _ => none
/-- what the instructions do that touch the stack alone -/
def ai_pure (i : Instr) (st : List Value) : Option (List Value) := match i with
  | .iconst n => some (.int (Int32.ofInt n) :: st)
  | .bipush n => some (.int (Int8.ofInt n).toInt32 :: st)
  | .sipush n => some (.int (Int16.ofInt n).toInt32 :: st)
  | .lconst n => some (.long (Int64.ofNat (n : Nat)) :: st)
  | .iadd => ai_2 (fun x y => some (.int (x + y))) st
  | .isub => ai_2 (fun x y => some (.int (x - y))) st
  | .imul => ai_2 (fun x y => some (.int (x * y))) st
  | .iand => ai_2 (fun x y => some (.int (x &&& y))) st
  | .idiv => ai_2 (fun x y => if y = 0 then none else some (.int (x / y))) st
  | .irem => ai_2 (fun x y => if y = 0 then none else some (.int (x - x / y * y))) st
  | .ineg => ai_1 (fun x => some (.int (-x))) st
  | .land => ai_2j (fun x y => some (.long (x &&& y))) st
  | .lor => ai_2j (fun x y => some (.long (x ||| y))) st
  | .lcmp => ai_2j (fun x y => some (.int (lg_cmp x y))) st
  | .lshl => ai_2ji (fun x y => some (.long (x <<< (y.toInt64 &&& 63)))) st
  | .lshr => ai_2ji (fun x y => some (.long (x >>> (y.toInt64 &&& 63)))) st
  | .lushr => ai_2ji (fun x y => some (.long (x.toUInt64 >>> (y.toInt64.toUInt64 &&& Int64.toUInt64 63)).toInt64)) st
  | .i2l => ai_1 (fun x => some (.long x.toInt64)) st
  | .l2i => ai_1j (fun x => some (.int x.toInt32)) st
  | .i2c => ai_1 (fun x => some (.int (x.toUInt32 % 65536).toInt32)) st
  | .dup => match st with
    | v :: r => if v.category = 1 then some (v :: v :: r) else none
    | _ => none
  | .dup_x1 => match st with
    | v :: w :: r => if v.category = 1 ∧ w.category = 1 then some (v :: w :: v :: r) else none
    | _ => none
  | .dup2 => match st with
    | v :: w :: r => if v.category = 1 ∧ w.category = 1 then some (v :: w :: v :: w :: r) else none
    | _ => none
  | .pop => match st with
    | v :: r => if v.category = 1 then some r else none
    | _ => none
  | _ => none
/-- the locals' instructions -/
def ai_loc (i : Instr) (lv : ai_L) (st : List Value) : Option (ai_L × List Value) := match i with
  | .iload_n k => (ai_ld lv k).bind fun v => if ai_isI v then some (lv, v :: st) else none
  | .iload k => (ai_ld lv k).bind fun v => if ai_isI v then some (lv, v :: st) else none
  | .lload_n k => (ai_ld lv k).bind fun v => if ai_isJ v then some (lv, v :: st) else none
  | .lload k => (ai_ld lv k).bind fun v => if ai_isJ v then some (lv, v :: st) else none
  | .aload_n k => (ai_ld lv k).bind fun v => if ai_isA v then some (lv, v :: st) else none
  | .aload k => (ai_ld lv k).bind fun v => if ai_isA v then some (lv, v :: st) else none
  | .istore_n k => match st with
    | .int x :: r => (ai_st1 lv k (.int x)).map fun l => (l, r)
    | _ => none
  | .istore k => match st with
    | .int x :: r => (ai_st1 lv k (.int x)).map fun l => (l, r)
    | _ => none
  | .astore_n k => match st with
    | .ref x :: r => (ai_st1 lv k (.ref x)).map fun l => (l, r)
    | _ => none
  | .astore k => match st with
    | .ref x :: r => (ai_st1 lv k (.ref x)).map fun l => (l, r)
    | _ => none
  | .iinc k n => match ai_ld lv k with
    | some (.int x) => (ai_st1 lv k (.int (x + Int32.ofInt n))).map fun l => (l, st)
    | _ => none
  | _ => none
/-- an array of numbers of that kind -/
def ai_arr (S : ai_S) (a t : Nat) : Option (Nat × (Nat → Int32)) := if a < S.1 then match S.2.2.2 a with
    | .inl (t', n, .inl f) => if t' = t then some (n, f) else none
    | _ => none
  else none
def ai_arrJ (S : ai_S) (a t : Nat) : Option (Nat × (Nat → Int64)) := if a < S.1 then match S.2.2.2 a with
    | .inl (t', n, .inr (.inl f)) => if t' = t then some (n, f) else none
    | _ => none
  else none
def ai_arrA (S : ai_S) (a t : Nat) : Option (Nat × (Nat → Option Nat)) := if a < S.1 then match S.2.2.2 a with
    | .inl (t', n, .inr (.inr (.inr (.inr f)))) => if t' = t then some (n, f) else none
    | _ => none
  else none
def ai_obj (S : ai_S) (a c : Nat) : Option (List Value) := if a < S.1 then match S.2.2.2 a with
    | .inr (c', fs) => if c' = c then some fs else none
    | _ => none
  else none
def ai_wr (S : ai_S) (a : Nat) (x : ai_C) : ai_S := (S.1, S.2.1, S.2.2.1, va_up S.2.2.2 a x)
/-- a cell is made -/
def ai_mk (S : ai_S) (w : Nat) (x : ai_C) : ai_S := (S.1 + 1, S.2.1 + 1, S.2.2.1 + w, va_up S.2.2.2 S.1 x)
abbrev ai_I (n : Nat) (f : Nat → Int32) : vp_A := (n, .inl f)
abbrev ai_J (n : Nat) (f : Nat → Int64) : vp_A := (n, .inr (.inl f))
abbrev ai_A (n : Nat) (f : Nat → Option Nat) : vp_A := (n, .inr (.inr (.inr (.inr f))))
def ai_zero (t n : Nat) : vp_A := if t = 3 then ai_J n (fun _ => 0) else ai_I n (fun _ => 0)
/-- loads, stores and lengths of arrays; kinds: 0 int, 1 char, 2 boolean, 3 long, 4 a kind's objects -/
def ai_ldx (t : Nat) (st : List Value) (S : ai_S) : Option (List Value × ai_S) := match st with
  | .int i :: .ref a :: r => (ai_arr S a t).bind fun q => if i < 0 ∨ q.1 ≤ i.toNatClampNeg then none else some (.int (q.2 i.toNatClampNeg) :: r, S)
  | _ => none
def ai_stx (t : Nat) (nar : Int32 → Int32) (st : List Value) (S : ai_S) : Option (List Value × ai_S) := match st with
  | .int x :: .int i :: .ref a :: r => (ai_arr S a t).bind fun q => if i < 0 ∨ q.1 ≤ i.toNatClampNeg then none else some (r, ai_wr S a (.inl (t, ai_I q.1 (upd q.2 i.toNatClampNeg (nar x)))))
  | _ => none
def ai_heap (i : Instr) (st : List Value) (S : ai_S) : Option (List Value × ai_S) := match i with
  | .iaload => ai_ldx 0 st S
  | .caload => ai_ldx 1 st S
  | .baload => ai_ldx 2 st S
  | .iastore => ai_stx 0 (fun x => x) st S
  | .castore => ai_stx 1 (vp_nar .char) st S
  | .bastore => ai_stx 2 (vp_nar .boolean) st S
  | .laload => match st with
    | .int i :: .ref a :: r => (ai_arrJ S a 3).bind fun q => if i < 0 ∨ q.1 ≤ i.toNatClampNeg then none else some (.long (q.2 i.toNatClampNeg) :: r, S)
    | _ => none
  | .lastore => match st with
    | .long x :: .int i :: .ref a :: r => (ai_arrJ S a 3).bind fun q => if i < 0 ∨ q.1 ≤ i.toNatClampNeg then none else some (r, ai_wr S a (.inl (3, ai_J q.1 (vp_updL q.2 i.toNatClampNeg x))))
    | _ => none
  | .aaload => match st with
    | .int i :: .ref a :: r => (ai_arrA S a 4).bind fun q => if i < 0 ∨ q.1 ≤ i.toNatClampNeg then none else (q.2 i.toNatClampNeg).map fun x => (.ref x :: r, S)
    | _ => none
  | .arraylength => match st with
    | .ref a :: r => if a < S.1 then match S.2.2.2 a with
        | .inl (t, q) => if t < 5 then some (.int (Int32.ofNat q.1) :: r, S) else none
        | _ => none
      else none
    | _ => none
  | .newarray ty => match st with
    | .int k :: r => (ai_kind ty).bind fun t => if k < 0 ∨ ¬ S.1 = S.2.1 ∨ 65536 < k.toNatClampNeg then none else some (.ref S.1 :: r, ai_mk S k.toNatClampNeg (.inl (t, ai_zero t k.toNatClampNeg)))
    | _ => none
  | _ => none
/-- fits a field: numbers in fields of ints, references in fields of references -/
def ai_fits (ty : FieldType) (v : Value) : Bool := match ty with
  | .int => ai_isI v
  | .object _ => match v with
    | .ref _ => true
    | _ => false
  | .array _ => match v with
    | .ref _ => true
    | _ => false
  | _ => false
/-- may that method put that field: not final, or in the kind's own constructor -/
def ai_may (M : ai_M) (c k : Nat) (nest : Bool) : Bool := match ai_cl[c]? with
  | some (C, T, _) => if (T k).2.2.2 then !nest && decide ((ai_y M).name = "<init>") && decide (ai_own (ai_oi M) = C) && decide (ai_oi M ≠ 99) else true
  | none => false
def ai_N (c : Nat) : Nat := match ai_cl[c]? with
  | some (_, _, N) => N
  | none => 0
def ai_blank (c : Nat) : List Value := (List.range (ai_N c)).map fun k => defaultValue (ai_ty c k)
/-- fields, new cells, constants -/
def ai_fop (M : ai_M) (i : Instr) (st : List Value) (S : ai_S) : Option (List Value × ai_S) := match i with
  | .getfield x => (ai_fld (ai_oi M) x).bind fun q => match st with
    | .ref a :: r => (ai_obj S a q.1).bind fun fs => (fs[q.2.1]?).map fun v => (v :: r, S)
    | _ => none
  | .putfield x => (ai_fld (ai_oi M) x).bind fun q => match st with
    | v :: .ref a :: r => (ai_obj S a q.1).bind fun fs => if q.2.1 < fs.length ∧ ai_fits (ai_ty q.1 q.2.1) v = true ∧ ai_may M q.1 q.2.1 q.2.2 = true then some (r, ai_wr S a (.inr (q.1, fs.set q.2.1 v))) else none
    | _ => none
  | .new x => (ai_new (ai_oi M) x).bind fun c => if S.1 = S.2.1 then some (.ref S.1 :: st, ai_mk S (ai_N c) (.inr (c, ai_blank c))) else none
  | .anewarray x => if ai_anw (ai_oi M) x = true then match st with
    | .int k :: r => if k < 0 ∨ ¬ S.1 = S.2.1 ∨ 65536 < k.toNatClampNeg then none else some (.ref S.1 :: r, ai_mk S k.toNatClampNeg (.inl (4, ai_A k.toNatClampNeg (fun _ => none))))
    | _ => none
    else none
  | .aastore => match st with
    | .ref v :: .int i :: .ref a :: r => (ai_arrA S a 4).bind fun q => (ai_obj S v ai_pair).bind fun _ => if i < 0 ∨ q.1 ≤ i.toNatClampNeg then none else some (r, ai_wr S a (.inl (4, ai_A q.1 (va_up q.2 i.toNatClampNeg (some v)))))
    | _ => none
  | .ldc x => (ai_ldc (ai_oi M) x).map fun v => (.int v :: st, S)
  | .ldc2_w x => (ai_ldcJ (ai_oi M) x).map fun v => (.long v :: st, S)
  | _ => none
/-- the law's own script: L ints xs; only the law has it, as the value retAddr 0 -/
def ai_scr (L : Nat) (xs : Nat → Int32) (M : ai_M) (i : Instr) (st : List Value) : Option (List Value) := if ai_oi M = 99 then match i with
    | .iaload => match st with
      | .int j :: .retAddr _ :: r => if j < 0 ∨ L ≤ j.toNatClampNeg then none else some (.int (xs j.toNatClampNeg) :: r)
      | _ => none
    | .arraylength => match st with
      | .retAddr _ :: r => some (.int (Int32.ofNat L) :: r)
      | _ => none
    | _ => none
  else none
/-- one step of an instruction that goes on to the next one -/
def ai_step (L : Nat) (xs : Nat → Int32) (M : ai_M) (i : Instr) (len : Nat) (F : ai_F) : Option ai_F :=
  match ai_pure i F.2.2.1 with
  | some st => some (F.1 + len, F.2.1, st, F.2.2.2)
  | none => match ai_loc i F.2.1 F.2.2.1 with
    | some q => some (F.1 + len, q.1, q.2, F.2.2.2)
    | none => match ai_heap i F.2.2.1 F.2.2.2 with
      | some q => some (F.1 + len, F.2.1, q.1, q.2)
      | none => match ai_fop M i F.2.2.1 F.2.2.2 with
        | some q => some (F.1 + len, F.2.1, q.1, q.2)
        | none => match ai_scr L xs M i F.2.2.1 with
          | some st => some (F.1 + len, F.2.1, st, F.2.2.2)
          | none => none
def ai_cmp (c : ClassFile.Cond) (x y : Int32) : Prop := match c with
  | .eq => x = y
  | .ne => ¬ x = y
  | .lt => x < y
  | .ge => y ≤ x
  | .gt => y < x
  | .le => x ≤ y
def ai_to (pc : Nat) (off : Int) : Nat := ((pc : Int) + off).toNat
abbrev ai_call : Type := Nat → List Value → ai_S → (ai_O → Prop) → Prop
def ai_sum (st : List Value) : Nat := (st.map fun v => v.category).sum
/-- behind a call: the answer onto the stack; a thrown one into the handler, which keeps it in a slot that nobody reads -/
def ai_back (M : ai_M) (go : ai_F → Prop) (kd pc : Nat) (lv : ai_L) (rest : List Value) (o : ai_O) : Prop := match o.1 with
  | .inl v => go (pc + 3, lv, v.toList ++ rest, o.2)
  | .inr E => kd = 0 ∧ match ai_hand M pc E with
    | some h => match ai_at M h with
      | some (.astore_n k, 1) => (k : Nat) < lv.length ∧ ((k : Nat) = 0 ∨ ai_isl (lv.getD ((k : Nat) - 1) none) = false) ∧ go (h + 1, lv.set k none, [], o.2)
      | _ => False
    | none => False
/-- a call by its kind: 0 virtual, 1 virtual of a nest mate, 2 static, 3 static of a nest mate, 4 constructor, 5 constructor of a nest mate, 6 static with handlers -/
def ai_inv (call : ai_call) (M : ai_M) (go : ai_F → Prop) (ks : List Nat) (x : Nat) (F : ai_F) : Prop := match ai_mth (ai_oi M) x with
  | some (kd, mi, na, ci) => kd ∈ ks ∧
    (if kd = 2 ∨ kd = 3 ∨ kd = 6 then na ≤ F.2.2.1.length ∧ ai_sum (F.2.2.1.drop na) ≤ 8 ∧ call mi (F.2.2.1.take na).reverse F.2.2.2 (ai_back M go kd F.1 F.2.1 (F.2.2.1.drop na))
     else match F.2.2.1.drop na with
       | .ref a :: rest => na ≤ F.2.2.1.length ∧ ai_sum rest ≤ 8 ∧ (∃ fs, ai_obj F.2.2.2 a ci = some fs) ∧ call mi (.ref a :: (F.2.2.1.take na).reverse) F.2.2.2 (ai_back M go kd F.1 F.2.1 rest)
       | _ => False)
  | none => False
/-- System.arraycopy of chars -/
def ai_cpy (go : ai_F → Prop) (F : ai_F) : Prop := match F.2.2.1 with
  | .int n :: .int dp :: .ref a1 :: .int sp :: .ref a0 :: rest => ∃ n0 f n1 g, ai_arr F.2.2.2 a0 1 = some (n0, f) ∧ ai_arr F.2.2.2 a1 1 = some (n1, g) ∧ ai_sum rest ≤ 8 ∧ ¬ sp < 0 ∧ ¬ dp < 0 ∧ ¬ n < 0 ∧ sp.toNatClampNeg + n.toNatClampNeg ≤ n0 ∧ dp.toNatClampNeg + n.toNatClampNeg ≤ n1 ∧ (∀ i, i < n.toNatClampNeg → fits .char (.int (f (sp.toNatClampNeg + i))) = true) ∧
    go (F.1 + 3, F.2.1, rest, ai_wr F.2.2.2 a1 (.inl (1, ai_I n1 (va_cpy f g sp.toNatClampNeg dp.toNatClampNeg n.toNatClampNeg))))
  | _ => False
/-- one instruction of the method M, then go; or the end, with Q -/
def ai_one (L : Nat) (xs : Nat → Int32) (M : ai_M) (call : ai_call) (go : ai_F → Prop) (Q : ai_O → Prop) (F : ai_F) : Prop := match ai_at M F.1 with
  | none => False
  | some (i, len) => match i with
    | .goto off => go (ai_to F.1 off, F.2)
    | .ifCond c off => match F.2.2.1 with
      | .int x :: r => (ai_cmp c x 0 → go (ai_to F.1 off, F.2.1, r, F.2.2.2)) ∧ (¬ ai_cmp c x 0 → go (F.1 + 3, F.2.1, r, F.2.2.2))
      | _ => False
    | .if_icmp c off => match F.2.2.1 with
      | .int y :: .int x :: r => (ai_cmp c x y → go (ai_to F.1 off, F.2.1, r, F.2.2.2)) ∧ (¬ ai_cmp c x y → go (F.1 + 3, F.2.1, r, F.2.2.2))
      | _ => False
    | .tableswitch dflt lo hi offs => match F.2.2.1 with
      | .int x :: r => ((x.toInt < lo ∨ hi < x.toInt) → go (ai_to F.1 dflt, F.2.1, r, F.2.2.2)) ∧ (¬ (x.toInt < lo ∨ hi < x.toInt) → ∃ off, offs[(x.toInt - lo).toNat]? = some off ∧ go (ai_to F.1 off, F.2.1, r, F.2.2.2))
      | _ => False
    | .invokevirtual x => ai_inv call M go [0, 1] x F
    | .invokestatic x => if ai_isCpy (ai_oi M) x = true then ai_cpy go F else ai_inv call M go [2, 3, 6] x F
    | .invokespecial x => if ai_isObj (ai_oi M) x = true then (match F.2.2.1 with
        | .ref _ :: r => ai_sum r ≤ 8 ∧ go (F.1 + 3, F.2.1, r, F.2.2.2)
        | _ => False) else ai_inv call M go [4, 5] x F
    | .ireturn => match F.2.2.1 with
      | [.int v] => (∃ ty, ai_ret M = some ty ∧ narrow ty (.int v) = .int v) ∧ Q (ai_ok (some (.int v)) F.2.2.2)
      | _ => False
    | .return_ => F.2.2.1 = [] ∧ ai_ret M = none ∧ Q (ai_ok none F.2.2.2)
    | i => match ai_thr M F.1 with
      | some E => ai_sum F.2.2.1 ≤ 8 ∧ Q (.inr E, (F.2.2.2.1, F.2.2.2.2.1 + 1, F.2.2.2.2.2.1 + 6, F.2.2.2.2.2.2))
      | none => match ai_step L xs M i len F with
        | some G => go G
        | none => False
/-- from the frame F the method M comes, within n steps, to an end with Q -/
def ai_wp (L : Nat) (xs : Nat → Int32) (M : ai_M) (call : ai_call) (Q : ai_O → Prop) : Nat → ai_F → Prop
  | 0, _ => False
  | n + 1, F => ai_one L xs M call (ai_wp L xs M call Q n) Q F
/-- the locals at the entry -/
def ai_ent : List Value → ai_L
  | [] => []
  | v :: vs => if v.category = 2 then some v :: none :: ai_ent vs else some v :: ai_ent vs
def ai_in (M : ai_M) (as : List Value) : ai_L := ai_ent as ++ List.replicate (ai_nL M - (ai_ent as).length) none
/-- the runs of methods, by the depth that is left -/
def ai_run (L : Nat) (xs : Nat → Int32) : Nat → Nat → List Value → ai_S → ai_O → Prop
  | 0 => fun _ _ _ _ => False
  | d + 1 => fun mi as S o => ∃ M n, ai_MT[mi]? = some M ∧ ai_oi M ≠ 99 ∧ (ai_ent as).length ≤ ai_nL M ∧ ai_wp L xs M (fun mi as S Q => ∃ o, ai_run L xs d mi as S o ∧ Q o) (fun x => x = o) n (0, ai_in M as, [], S)
def ai_calls (L : Nat) (xs : Nat → Int32) (d : Nat) : ai_call := fun mi as S Q => ∃ o, ai_run L xs d mi as S o ∧ Q o
/-- the law's start: no cell of ours yet -/
def ai_S0 : ai_S := (0, 0, 0, fun _ => .inr (0, []))
end
section
/-! What the abstract machine's words mean on the real one: addresses, cells, locals. -/
def ai_v (sc b : Nat) (v : Value) : Value := match v with
  | .ref i => .ref (b + i)
  | .retAddr _ => .ref sc
  | .int x => .int x
  | .long x => .long x
  | .float x => .float x
  | .double x => .double x
  | .null => .null
theorem ai_v_cat (sc b : Nat) (v : Value) : (ai_v sc b v).category = v.category := by cases v <;> rfl
def ai_va (b : Nat) (a : vp_A) : vp_A := match a with
  | (n, .inl f) => (n, .inl f)
  | (n, .inr (.inl f)) => (n, .inr (.inl f))
  | (n, .inr (.inr (.inl f))) => (n, .inr (.inr (.inl f)))
  | (n, .inr (.inr (.inr (.inl f)))) => (n, .inr (.inr (.inr (.inl f))))
  | (n, .inr (.inr (.inr (.inr f)))) => (n, .inr (.inr (.inr (.inr (fun j => (f j).map (b + ·))))))
def ai_e (dA : Nat → ClassId) (sc b : Nat) (x : ai_C) : va_E := match x with
  | .inl (t, a) => .inl (dA t, ai_va b a)
  | .inr (c, fs) => .inr (c, fs.map (ai_v sc b))
def ai_W (dA : Nat → ClassId) (sc b n : Nat) (h : Nat → ai_C) : va_W := (List.range n).map fun i => (b + i, ai_e dA sc b (h i))
theorem ai_W_get {dA : Nat → ClassId} {sc b n i : Nat} {h : Nat → ai_C} (hi : i < n) : (ai_W dA sc b n h)[i]? = some (b + i, ai_e dA sc b (h i)) := by
  simp [ai_W, hi]
theorem ai_W_len {dA : Nat → ClassId} {sc b n : Nat} {h : Nat → ai_C} : (ai_W dA sc b n h).length = n := by
  simp [ai_W]
theorem ai_W_set {dA : Nat → ClassId} {sc b n i : Nat} {h : Nat → ai_C} {x : ai_C} : (ai_W dA sc b n h).set i (b + i, ai_e dA sc b x) = ai_W dA sc b n (va_up h i x) := by
  apply List.ext_getElem?
  intro j
  by_cases hj : j < n
  · rw [ai_W_get hj]
    by_cases hij : j = i
    · subst hij
      rw [List.getElem?_set_self (by rw [ai_W_len]; exact hj), va_up_self]
    · rw [List.getElem?_set_ne (Ne.symm hij), ai_W_get hj, va_up_ne _ _ hij]
  · rw [List.getElem?_eq_none (by rw [List.length_set, ai_W_len]; omega), List.getElem?_eq_none (by rw [ai_W_len]; omega)]
theorem ai_W_push {dA : Nat → ClassId} {sc b n : Nat} {h : Nat → ai_C} {x : ai_C} : ai_W dA sc b n h ++ [(b + n, ai_e dA sc b x)] = ai_W dA sc b (n + 1) (va_up h n x) := by
  simp only [ai_W, List.range_succ, List.map_append, List.map_cons, List.map_nil, va_up_self]
  congr 1
  apply List.map_congr_left
  intro i hi
  have : i ≠ n := Nat.ne_of_lt (List.mem_range.mp hi)
  rw [va_up_ne _ _ this]
theorem ai_W_D {dA : Nat → ClassId} {sc b n : Nat} {h : Nat → ai_C} : va_D (fun q => b ≤ q) (ai_W dA sc b n h) := by
  have key : ∀ (i : Nat) (p : Nat × va_E), (ai_W dA sc b n h)[i]? = some p → p.1 = b + i := fun i p hp => by
    have hi : i < n := by
      have := (List.getElem?_eq_some_iff.mp hp).1
      rwa [ai_W_len] at this
    rw [ai_W_get hi] at hp
    cases hp
    rfl
  refine ⟨fun i j p q hp hq e => ?_, fun k q hq => ?_⟩
  · have h1 := key i p hp
    have h2 := key j q hq
    omega
  · show b ≤ q.1
    rw [key k q hq]
    omega
/-- the cells of ours lie in the heap -/
theorem ai_P_lt {D : va_G} {cl : List vw_C} {dA : Nat → ClassId} {sc b n : Nat} {h : Nat → ai_C} {H : Heap} (hP : va_P D cl (ai_W dA sc b n h) H) (hn : 0 < n) : b + n ≤ H.size := by
  have := (hP (n - 1) _ (ai_W_get (by omega))).lt
  simp only at this
  omega
/-- locals -/
def ai_LH (sc b : Nat) (ls : Array Slot) (nL : Nat) (lv : ai_L) : Prop := ls.size = nL ∧ lv_wf ls ∧ lv.length = nL ∧ ∀ (i : Nat) (v : Value), lv[i]? = some (some v) → ls[i]? = some (.val (ai_v sc b v))
def ai_ll (sc b : Nat) (lv : ai_L) : List (Nat × Value) := (List.range lv.length).filterMap fun i => (lv.getD i none).map fun v => (i, ai_v sc b v)
theorem ai_ll_mem {sc b : Nat} {lv : ai_L} {q : Nat × Value} : q ∈ ai_ll sc b lv ↔ ∃ v, lv[q.1]? = some (some v) ∧ q.2 = ai_v sc b v := by
  obtain ⟨i, w⟩ := q
  simp only [ai_ll, List.mem_filterMap, List.mem_range]
  constructor
  · rintro ⟨j, hj, hm⟩
    rw [List.getD_eq_getElem?_getD, List.getElem?_eq_getElem hj] at hm
    cases hx : lv[j] with
    | none => simp [hx] at hm
    | some v =>
      simp only [hx, Option.getD_some, Option.map_some, Option.some.injEq, Prod.mk.injEq] at hm
      obtain ⟨rfl, rfl⟩ := hm
      exact ⟨v, by rw [List.getElem?_eq_getElem hj, hx], rfl⟩
  · rintro ⟨v, h1, rfl⟩
    have hj : i < lv.length := (List.getElem?_eq_some_iff.mp h1).1
    exact ⟨i, hj, by rw [List.getD_eq_getElem?_getD, h1]; rfl⟩
theorem ai_LH.has {sc b : Nat} {ls : Array Slot} {nL : Nat} {lv : ai_L} (h : ai_LH sc b ls nL lv) : lv_has ls nL (ai_ll sc b lv) := by
  refine ⟨h.1, h.2.1, fun q hq => ?_⟩
  obtain ⟨v, h1, h2⟩ := ai_ll_mem.mp hq
  rw [h2]
  exact h.2.2.2 q.1 v h1
theorem ai_LH.at {sc b : Nat} {ls : Array Slot} {nL : Nat} {lv : ai_L} (h : ai_LH sc b ls nL lv) {i : Nat} {v : Value} (hv : ai_ld lv i = some v) : ls[i]? = some (.val (ai_v sc b v)) := by
  refine h.2.2.2 i v ?_
  unfold ai_ld at hv
  rw [List.getD_eq_getElem?_getD] at hv
  cases hx : lv[i]? with
  | none => rw [hx] at hv; cases hv
  | some z => rw [hx] at hv; exact congrArg some hv
/-- behind a store at i -/
theorem ai_LH.st {sc b : Nat} {ls' : Array Slot} {nL i : Nat} {lv : ai_L} {w : Value} {x : Option Value} (hn : lv.length = nL) (hi : i < nL) (ho : i = 0 ∨ ai_isl (lv.getD (i - 1) none) = false) (hx : ∀ v, x = some v → w = ai_v sc b v)
    (h : lv_has ls' nL ((i, w) :: (ai_ll sc b lv).filter (fun q => !(q.1 == i) && !(q.1 + 1 == i && q.2.category == 2)))) : ai_LH sc b ls' nL (lv.set i x) := by
  refine ⟨h.1, h.2.1, by rw [List.length_set]; exact hn, fun j v hv => ?_⟩
  by_cases hj : j = i
  · subst hj
    rw [List.getElem?_set_self (by omega)] at hv
    have := hx v (Option.some.inj hv)
    rw [← this]
    exact h.2.2 (j, w) List.mem_cons_self
  · rw [List.getElem?_set_ne (Ne.symm hj)] at hv
    refine h.2.2 (j, ai_v sc b v) (List.mem_cons_of_mem _ (List.mem_filter.mpr ⟨ai_ll_mem.mpr ⟨v, hv, rfl⟩, ?_⟩))
    have h1 : (j == i) = false := by simpa using hj
    have h2 : (j + 1 == i && (ai_v sc b v).category == 2) = false := by
      by_cases hji : j + 1 = i
      · subst hji
        rcases ho with ho | ho
        · omega
        · simp only [Nat.add_sub_cancel, List.getD_eq_getElem?_getD, hv, Option.getD_some] at ho
          simp only [ai_isl] at ho
          rw [ai_v_cat, ho]
          simp
      · have : (j + 1 == i) = false := by simpa using hji
        rw [this]
        rfl
    simp [h1, h2]
theorem ai_ent_mem {sc b : Nat} (as : List Value) : ∀ (o i : Nat) (v : Value), (ai_ent as)[i]? = some (some v) → (o + i, ai_v sc b v) ∈ lv_args o (as.map (ai_v sc b)) := by
  induction as with
  | nil => intro o i v h; simp [ai_ent] at h
  | cons a as ih =>
    intro o i v h
    simp only [List.map_cons, lv_args, ai_v_cat]
    by_cases hc : a.category = 2
    · rw [ai_ent, if_pos hc] at h
      rw [if_pos hc]
      match i, h with
      | 0, h =>
        simp only [List.getElem?_cons_zero, Option.some.injEq] at h
        subst h
        exact List.mem_cons_self
      | 1, h => simp at h
      | i + 2, h =>
        simp only [List.getElem?_cons_succ] at h
        have := ih (o + 2) i v h
        rw [show o + 2 + i = o + (i + 2) by omega] at this
        exact List.mem_cons_of_mem _ this
    · rw [ai_ent, if_neg hc] at h
      rw [if_neg hc]
      match i, h with
      | 0, h =>
        simp only [List.getElem?_cons_zero, Option.some.injEq] at h
        subst h
        exact List.mem_cons_self
      | i + 1, h =>
        simp only [List.getElem?_cons_succ] at h
        have := ih (o + 1) i v h
        rw [show o + 1 + i = o + (i + 1) by omega] at this
        exact List.mem_cons_of_mem _ this
theorem ai_ent_len {sc b : Nat} (as : List Value) : (lg_sl (as.map (ai_v sc b))).length = (ai_ent as).length := by
  induction as with
  | nil => rfl
  | cons a as ih =>
    simp only [lg_sl, List.map_cons, List.flatMap_cons, List.length_append, ai_v_cat] at ih ⊢
    rw [ih, ai_ent]
    by_cases hc : a.category = 2
    · simp [hc]; omega
    · simp [hc]; omega
theorem ai_entry {sc b nL : Nat} (as : List Value) (h : (ai_ent as).length ≤ nL) : ai_LH sc b ((lg_sl (as.map (ai_v sc b)) ++ List.replicate (nL - (lg_sl (as.map (ai_v sc b))).length) Slot.unset).toArray) nL (ai_ent as ++ List.replicate (nL - (ai_ent as).length) none) := by
  have hl := lv_entry (as.map (ai_v sc b)) (n := nL) (by rw [ai_ent_len]; exact h)
  refine ⟨hl.1, hl.2.1, by simp; omega, fun i v hv => ?_⟩
  refine hl.2.2 (i, ai_v sc b v) ?_
  by_cases hi : i < (ai_ent as).length
  · rw [List.getElem?_append_left hi] at hv
    have := ai_ent_mem (sc := sc) (b := b) as 0 i v hv
    rwa [Nat.zero_add] at this
  · rw [List.getElem?_append_right (by omega)] at hv
    have := List.mem_of_getElem? hv
    have := List.eq_of_mem_replicate this
    cases this
end
section
/-! The abstract machine's steps are steps of the real one. -/
def ai_tys (dA : Nat → ClassId) : List (ClassId × FieldType) := [(dA 0, .int), (dA 1, .char), (dA 2, .boolean), (dA 3, .long), (dA 4, .object ai_pairN)]
/-- what the tables say: the kinds, the arrays, the links between nest mates -/
def ai_K (D : va_G) (dA : Nat → ClassId) (U : State) : Prop := va_K D ai_cl (ai_tys dA) U ∧ (∀ w ∈ ai_nw, va_Nw w U) ∧ va_AO ai_pairN U
section AIS
variable {p : Program} {l : Launch} {e : Env} {R : Room} {s : State} {m : MethodId} {args : Array Value} {below : List Frame} {meth : Method} {c : Code} {Q : State → Prop}
variable {D : va_G} {dA : Nat → ClassId} {sc b k0 s0 : Nat} {M : ai_M} {pc : Nat} {lv lv' : ai_L} {st st' : List Value} {S S' : ai_S} {i : Instr}
/-- the method that runs -/
def ai_X (p : Program) (s : State) (m : MethodId) (args : Array Value) (meth : Method) (c : Code) (M : ai_M) : Prop :=
  p.tables.exec = Jvm.exec ∧ c.code = ai_cc M ∧ c.maxLocals = ai_nL M ∧ s.vm.findClass (ai_own (ai_oi M)) = some m.cls ∧ (∀ w ∈ ai_ws, w.before args s = true) ∧ meth.sig.returnType = ai_ret M ∧ meth.locks = false ∧ (ai_oi M ≠ 99 → meth.name = (ai_y M).name) ∧ (ai_oi M ≠ 99 → c.exceptionTable.toList.map (fun h => (h.startPc, h.endPc, h.handlerPc, h.catchType)) = (ai_ex M).map (fun h => (h.1, h.2.1, h.2.2.1, h.2.2.2.1)))
/-- from that frame, in every heap that holds its cells, the real machine comes to Q -/
def ai_G (p : Program) (l : Launch) (e : Env) (R : Room) (s : State) (m : MethodId) (args : Array Value) (below : List Frame) (meth : Method) (c : Code) (Q : State → Prop) (D : va_G) (dA : Nat → ClassId) (sc b k0 s0 : Nat) (M : ai_M) (F : ai_F) : Prop :=
  ∀ (H : Heap) (ls : Array Slot) (locs : List Loc), ai_LH sc b ls (ai_nL M) F.2.1 → va_P D ai_cl (ai_W dA sc b F.2.2.2.1 F.2.2.2.2.2.2) H → va_S (fun q => b ≤ q) s.heap H locs →
    W p l e R s m args below meth c H locs (F.2.2.2.2.1 - k0) (F.2.2.2.2.2.1 - s0) Q (F0 m F.1 ls (F.2.2.1.map (ai_v sc b)))
theorem ai_1_inv {f : Int32 → Option Value} (h : ai_1 f st = some st') : ∃ x r v, st = .int x :: r ∧ f x = some v ∧ st' = v :: r := by
  unfold ai_1 at h
  split at h
  · rename_i x r
    cases hv : f x with
    | none => rw [hv] at h; cases h
    | some v => rw [hv] at h; cases h; exact ⟨x, r, v, rfl, hv, rfl⟩
  · cases h
theorem ai_1j_inv {f : Int64 → Option Value} (h : ai_1j f st = some st') : ∃ x r v, st = .long x :: r ∧ f x = some v ∧ st' = v :: r := by
  unfold ai_1j at h
  split at h
  · rename_i x r
    cases hv : f x with
    | none => rw [hv] at h; cases h
    | some v => rw [hv] at h; cases h; exact ⟨x, r, v, rfl, hv, rfl⟩
  · cases h
theorem ai_2_inv {f : Int32 → Int32 → Option Value} (h : ai_2 f st = some st') : ∃ x y r v, st = .int y :: .int x :: r ∧ f x y = some v ∧ st' = v :: r := by
  unfold ai_2 at h
  split at h
  · rename_i y x r
    cases hv : f x y with
    | none => rw [hv] at h; cases h
    | some v => rw [hv] at h; cases h; exact ⟨x, y, r, v, rfl, hv, rfl⟩
  · cases h
theorem ai_2j_inv {f : Int64 → Int64 → Option Value} (h : ai_2j f st = some st') : ∃ x y r v, st = .long y :: .long x :: r ∧ f x y = some v ∧ st' = v :: r := by
  unfold ai_2j at h
  split at h
  · rename_i y x r
    cases hv : f x y with
    | none => rw [hv] at h; cases h
    | some v => rw [hv] at h; cases h; exact ⟨x, y, r, v, rfl, hv, rfl⟩
  · cases h
theorem ai_2ji_inv {f : Int64 → Int32 → Option Value} (h : ai_2ji f st = some st') : ∃ x y r v, st = .int y :: .long x :: r ∧ f x y = some v ∧ st' = v :: r := by
  unfold ai_2ji at h
  split at h
  · rename_i y x r
    cases hv : f x y with
    | none => rw [hv] at h; cases h
    | some v => rw [hv] at h; cases h; exact ⟨x, y, r, v, rfl, hv, rfl⟩
  · cases h
theorem ai_pure_W (X : ai_X p s m args meth c M) (hd : decode (ai_cc M) pc = .ok (i, ai_len i)) (h : ai_pure i st = some st')
    (k : ai_G p l e R s m args below meth c Q D dA sc b k0 s0 M (pc + ai_len i, lv, st', S)) : ai_G p l e R s m args below meth c Q D dA sc b k0 s0 M (pc, lv, st, S) := by
  obtain ⟨hx, hb, -⟩ := X
  intro H ls locs hl hP hS
  have kk := k H ls locs hl hP hS
  clear k
  cases i with
  | iconst n => cases h; exact lv_iconst hx hb hd rfl kk
  | bipush n => cases h; exact lv_bipush hx hb hd rfl kk
  | sipush n => cases h; exact lv_sipush hx hb hd rfl kk
  | lconst n => cases h; exact lv_lconst hx hb hd rfl kk
  | iadd => obtain ⟨x, y, r, v, rfl, hv, rfl⟩ := ai_2_inv h; cases hv; exact lv_iadd hx hb hd kk
  | isub => obtain ⟨x, y, r, v, rfl, hv, rfl⟩ := ai_2_inv h; cases hv; exact lv_isub hx hb hd kk
  | imul => obtain ⟨x, y, r, v, rfl, hv, rfl⟩ := ai_2_inv h; cases hv; exact lv_imul hx hb hd kk
  | iand => obtain ⟨x, y, r, v, rfl, hv, rfl⟩ := ai_2_inv h; cases hv; exact lv_iand hx hb hd kk
  | idiv =>
    obtain ⟨x, y, r, v, rfl, hv, rfl⟩ := ai_2_inv h
    by_cases hy : y = 0
    · rw [if_pos hy] at hv; cases hv
    · rw [if_neg hy] at hv; cases hv; exact lv_idiv hx hb hd hy kk
  | irem =>
    obtain ⟨x, y, r, v, rfl, hv, rfl⟩ := ai_2_inv h
    by_cases hy : y = 0
    · rw [if_pos hy] at hv; cases hv
    · rw [if_neg hy] at hv; cases hv; exact lv_irem hx hb hd hy kk
  | ineg => obtain ⟨x, r, v, rfl, hv, rfl⟩ := ai_1_inv h; cases hv; exact lv_ineg hx hb hd kk
  | land => obtain ⟨x, y, r, v, rfl, hv, rfl⟩ := ai_2j_inv h; cases hv; exact lv_land hx hb hd kk
  | lor => obtain ⟨x, y, r, v, rfl, hv, rfl⟩ := ai_2j_inv h; cases hv; exact lv_lor hx hb hd kk
  | lcmp => obtain ⟨x, y, r, v, rfl, hv, rfl⟩ := ai_2j_inv h; cases hv; exact W.lcmp hx hb hd kk
  | lshl => obtain ⟨x, y, r, v, rfl, hv, rfl⟩ := ai_2ji_inv h; cases hv; exact lv_lshl hx hb hd rfl kk
  | lshr => obtain ⟨x, y, r, v, rfl, hv, rfl⟩ := ai_2ji_inv h; cases hv; exact lv_lshr hx hb hd rfl kk
  | lushr => obtain ⟨x, y, r, v, rfl, hv, rfl⟩ := ai_2ji_inv h; cases hv; exact lv_lushr hx hb hd rfl kk
  | i2l => obtain ⟨x, r, v, rfl, hv, rfl⟩ := ai_1_inv h; cases hv; exact lv_i2l hx hb hd rfl kk
  | l2i => obtain ⟨x, r, v, rfl, hv, rfl⟩ := ai_1j_inv h; cases hv; exact lv_l2i hx hb hd rfl kk
  | i2c => obtain ⟨x, r, v, rfl, hv, rfl⟩ := ai_1_inv h; cases hv; exact lv_i2c hx hb hd rfl kk
  | dup =>
    simp only [ai_pure] at h
    split at h
    · rename_i v r
      by_cases hc : v.category = 1
      · rw [if_pos hc] at h; cases h
        exact lv_dup hx hb hd (by rw [ai_v_cat]; exact hc) kk
      · rw [if_neg hc] at h; cases h
    · cases h
  | dup_x1 =>
    simp only [ai_pure] at h
    split at h
    · rename_i v w r
      by_cases hc : v.category = 1 ∧ w.category = 1
      · rw [if_pos hc] at h; cases h
        exact lv_dup_x1 hx hb hd (by rw [ai_v_cat]; exact hc.1) (by rw [ai_v_cat]; exact hc.2) kk
      · rw [if_neg hc] at h; cases h
    · cases h
  | dup2 =>
    simp only [ai_pure] at h
    split at h
    · rename_i v w r
      by_cases hc : v.category = 1 ∧ w.category = 1
      · rw [if_pos hc] at h; cases h
        exact lv_dup2_11 hx hb hd (by rw [ai_v_cat]; exact hc.1) (by rw [ai_v_cat]; exact hc.2) kk
      · rw [if_neg hc] at h; cases h
    · cases h
  | pop =>
    simp only [ai_pure] at h
    split at h
    · rename_i v r
      by_cases hc : v.category = 1
      · rw [if_pos hc] at h; cases h
        exact lv_pop hx hb hd (by rw [ai_v_cat]; exact hc) kk
      · rw [if_neg hc] at h; cases h
    · cases h
  | _ => exact absurd h (by simp [ai_pure])
theorem ai_st1_inv {j : Nat} {v : Value} (h : ai_st1 lv j v = some lv') : j < lv.length ∧ (j = 0 ∨ ai_isl (lv.getD (j - 1) none) = false) ∧ lv' = lv.set j (some v) := by
  unfold ai_st1 at h
  by_cases hc : j < lv.length ∧ (j = 0 ∨ ai_isl (lv.getD (j - 1) none) = false)
  · rw [if_pos hc] at h; cases h; exact ⟨hc.1, hc.2, rfl⟩
  · rw [if_neg hc] at h; cases h
theorem ai_ldI {j : Nat} (h : ((ai_ld lv j).bind fun v => if ai_isI v then some (lv, v :: st) else none) = some (lv', st')) : ∃ x, ai_ld lv j = some (.int x) ∧ lv' = lv ∧ st' = .int x :: st := by
  cases hv : ai_ld lv j with
  | none => rw [hv] at h; cases h
  | some v =>
    rw [hv] at h
    cases v <;> simp [ai_isI] at h
    obtain ⟨rfl, rfl⟩ := h
    exact ⟨_, rfl, rfl, rfl⟩
theorem ai_ldJ {j : Nat} (h : ((ai_ld lv j).bind fun v => if ai_isJ v then some (lv, v :: st) else none) = some (lv', st')) : ∃ x, ai_ld lv j = some (.long x) ∧ lv' = lv ∧ st' = .long x :: st := by
  cases hv : ai_ld lv j with
  | none => rw [hv] at h; cases h
  | some v =>
    rw [hv] at h
    cases v <;> simp [ai_isJ] at h
    obtain ⟨rfl, rfl⟩ := h
    exact ⟨_, rfl, rfl, rfl⟩
theorem ai_ldA {j : Nat} (h : ((ai_ld lv j).bind fun v => if ai_isA v then some (lv, v :: st) else none) = some (lv', st')) : ∃ v, ai_ld lv j = some v ∧ ((∃ x, v = .ref x) ∨ v = .null ∨ ∃ x, v = .retAddr x) ∧ lv' = lv ∧ st' = v :: st := by
  cases hv : ai_ld lv j with
  | none => rw [hv] at h; cases h
  | some v =>
    rw [hv] at h
    cases v <;> simp [ai_isA] at h
    · obtain ⟨rfl, rfl⟩ := h
      exact ⟨_, rfl, Or.inr (Or.inl rfl), rfl, rfl⟩
    · obtain ⟨rfl, rfl⟩ := h
      exact ⟨_, rfl, Or.inl ⟨_, rfl⟩, rfl, rfl⟩
    · obtain ⟨rfl, rfl⟩ := h
      exact ⟨_, rfl, Or.inr (Or.inr ⟨_, rfl⟩), rfl, rfl⟩
theorem ai_loc_W (X : ai_X p s m args meth c M) (hd : decode (ai_cc M) pc = .ok (i, ai_len i)) (h : ai_loc i lv st = some (lv', st'))
    (k : ai_G p l e R s m args below meth c Q D dA sc b k0 s0 M (pc + ai_len i, lv', st', S)) : ai_G p l e R s m args below meth c Q D dA sc b k0 s0 M (pc, lv, st, S) := by
  obtain ⟨hx, hb, -⟩ := X
  intro H ls locs hl hP hS
  have hn : lv.length = ai_nL M := hl.2.2.1
  cases i with
  | iload_n j => obtain ⟨x, h1, rfl, rfl⟩ := ai_ldI h; exact lv_iload_n hx hb hd rfl (hl.at h1) (k H ls locs hl hP hS)
  | iload j => obtain ⟨x, h1, rfl, rfl⟩ := ai_ldI h; exact lv_iload hx hb hd (hl.at h1) (k H ls locs hl hP hS)
  | lload_n j => obtain ⟨x, h1, rfl, rfl⟩ := ai_ldJ h; exact lv_lload_n hx hb hd rfl (hl.at h1) (k H ls locs hl hP hS)
  | lload j => obtain ⟨x, h1, rfl, rfl⟩ := ai_ldJ h; exact lv_lload hx hb hd (hl.at h1) (k H ls locs hl hP hS)
  | aload_n j =>
    obtain ⟨v, h1, hv, rfl, rfl⟩ := ai_ldA h
    rcases hv with ⟨x, rfl⟩ | rfl | ⟨x, rfl⟩
    · exact lv_aload_n hx hb hd rfl (hl.at h1) (k H ls locs hl hP hS)
    · exact lv_aload_nN hx hb hd rfl (hl.at h1) (k H ls locs hl hP hS)
    · exact lv_aload_n hx hb hd rfl (hl.at h1) (k H ls locs hl hP hS)
  | aload j =>
    obtain ⟨v, h1, hv, rfl, rfl⟩ := ai_ldA h
    rcases hv with ⟨x, rfl⟩ | rfl | ⟨x, rfl⟩
    · exact lv_aload hx hb hd (hl.at h1) (k H ls locs hl hP hS)
    · exact lv_aloadN hx hb hd (hl.at h1) (k H ls locs hl hP hS)
    · exact lv_aload hx hb hd (hl.at h1) (k H ls locs hl hP hS)
  | istore_n j =>
    simp only [ai_loc] at h
    split at h
    · rename_i x r
      cases hs : ai_st1 lv j (.int x) with
      | none => rw [hs] at h; cases h
      | some q =>
        rw [hs] at h; cases h
        obtain ⟨g1, g2, rfl⟩ := ai_st1_inv hs
        exact lv_istore_n hx hb hd rfl hl.has (by omega) rfl (fun ls' hl' => k H ls' locs (ai_LH.st hn (by omega) g2 (fun v hv => by cases hv; rfl) hl') hP hS)
    · cases h
  | istore j =>
    simp only [ai_loc] at h
    split at h
    · rename_i x r
      cases hs : ai_st1 lv j (.int x) with
      | none => rw [hs] at h; cases h
      | some q =>
        rw [hs] at h; cases h
        obtain ⟨g1, g2, rfl⟩ := ai_st1_inv hs
        exact lv_istore hx hb hd hl.has (by omega) rfl (fun ls' hl' => k H ls' locs (ai_LH.st hn (by omega) g2 (fun v hv => by cases hv; rfl) hl') hP hS)
    · cases h
  | astore_n j =>
    simp only [ai_loc] at h
    split at h
    · rename_i x r
      cases hs : ai_st1 lv j (.ref x) with
      | none => rw [hs] at h; cases h
      | some q =>
        rw [hs] at h; cases h
        obtain ⟨g1, g2, rfl⟩ := ai_st1_inv hs
        exact lv_astore_n hx hb hd rfl hl.has (by omega) rfl (fun ls' hl' => k H ls' locs (ai_LH.st hn (by omega) g2 (fun v hv => by cases hv; rfl) hl') hP hS)
    · cases h
  | astore j =>
    simp only [ai_loc] at h
    split at h
    · rename_i x r
      cases hs : ai_st1 lv j (.ref x) with
      | none => rw [hs] at h; cases h
      | some q =>
        rw [hs] at h; cases h
        obtain ⟨g1, g2, rfl⟩ := ai_st1_inv hs
        exact lv_astore hx hb hd hl.has (by omega) rfl (fun ls' hl' => k H ls' locs (ai_LH.st hn (by omega) g2 (fun v hv => by cases hv; rfl) hl') hP hS)
    · cases h
  | iinc j n =>
    simp only [ai_loc] at h
    split at h
    · rename_i x hx1
      cases hs : ai_st1 lv j (.int (x + Int32.ofInt n)) with
      | none => rw [hs] at h; cases h
      | some q =>
        rw [hs] at h; cases h
        obtain ⟨g1, g2, rfl⟩ := ai_st1_inv hs
        have hm : (j, Value.int x) ∈ ai_ll sc b lv := ai_ll_mem.mpr ⟨.int x, by
          unfold ai_ld at hx1
          rw [List.getD_eq_getElem?_getD, List.getElem?_eq_getElem g1] at hx1
          rw [List.getElem?_eq_getElem g1]
          exact congrArg some hx1, rfl⟩
        obtain ⟨kk, hkk⟩ := List.getElem?_of_mem hm
        exact lv_iinc hx hb hd hl.has hkk rfl (by omega) rfl (fun ls' hl' => k H ls' locs (ai_LH.st hn (by omega) g2 (fun v hv => by cases hv; rfl) hl') hP hS)
    · cases h
  | _ => exact absurd h (by simp [ai_loc])
theorem ai_arr_inv {a t n : Nat} {f : Nat → Int32} (h : ai_arr S a t = some (n, f)) : a < S.1 ∧ S.2.2.2 a = .inl (t, n, .inl f) := by
  unfold ai_arr at h
  split at h
  · rename_i ha
    split at h
    · rename_i t' n' f' he
      by_cases ht : t' = t
      · rw [if_pos ht] at h; cases h; rw [← ht]; exact ⟨ha, he⟩
      · rw [if_neg ht] at h; cases h
    · cases h
  · cases h
theorem ai_arrJ_inv {a t n : Nat} {f : Nat → Int64} (h : ai_arrJ S a t = some (n, f)) : a < S.1 ∧ S.2.2.2 a = .inl (t, n, .inr (.inl f)) := by
  unfold ai_arrJ at h
  split at h
  · rename_i ha
    split at h
    · rename_i t' n' f' he
      by_cases ht : t' = t
      · rw [if_pos ht] at h; cases h; rw [← ht]; exact ⟨ha, he⟩
      · rw [if_neg ht] at h; cases h
    · cases h
  · cases h
theorem ai_arrA_inv {a t n : Nat} {f : Nat → Option Nat} (h : ai_arrA S a t = some (n, f)) : a < S.1 ∧ S.2.2.2 a = .inl (t, n, .inr (.inr (.inr (.inr f)))) := by
  unfold ai_arrA at h
  split at h
  · rename_i ha
    split at h
    · rename_i t' n' f' he
      by_cases ht : t' = t
      · rw [if_pos ht] at h; cases h; rw [← ht]; exact ⟨ha, he⟩
      · rw [if_neg ht] at h; cases h
    · cases h
  · cases h
theorem ai_obj_inv {a t : Nat} {fs : List Value} (h : ai_obj S a t = some fs) : a < S.1 ∧ S.2.2.2 a = .inr (t, fs) := by
  unfold ai_obj at h
  split at h
  · rename_i ha
    split at h
    · rename_i t' fs' he
      by_cases ht : t' = t
      · rw [if_pos ht] at h; cases h; rw [← ht]; exact ⟨ha, he⟩
      · rw [if_neg ht] at h; cases h
    · cases h
  · cases h
theorem ai_ws_at {a n : Nat} {h : Nat → ai_C} {x : ai_C} (ha : a < n) (hx : h a = x) : (ai_W dA sc b n h)[a]? = some (b + a, ai_e dA sc b x) := by
  rw [ai_W_get ha, hx]
/-- the size of the heap, as the room has it -/
theorem ai_size {H : Heap} {locs : List Loc} {cells slots : Nat} {g : JFrame} (h : H.size ≤ s.heap.size + cells → W p l e R s m args below meth c H locs cells slots Q g) : W p l e R s m args below meth c H locs cells slots Q g := by
  intro T hT Y
  exact h (by rw [← hT]; exact Y.heapSize) T hT Y
theorem ai_ldx_inv {t : Nat} (h : ai_ldx t st S = some (st', S')) : ∃ j a r n f, st = .int j :: .ref a :: r ∧ ai_arr S a t = some (n, f) ∧ vp_in j n ∧ st' = .int (f j.toNatClampNeg) :: r ∧ S' = S := by
  unfold ai_ldx at h
  split at h
  · rename_i j a r
    cases ha : ai_arr S a t with
    | none => rw [ha] at h; cases h
    | some q =>
      rw [ha] at h
      simp only [Option.bind_some] at h
      by_cases hc : j < 0 ∨ q.1 ≤ j.toNatClampNeg
      · rw [if_pos hc] at h; cases h
      · rw [if_neg hc] at h; cases h
        exact ⟨j, a, r, q.1, q.2, rfl, ha, hc, rfl, rfl⟩
  · cases h
theorem ai_stx_inv {t : Nat} {nar : Int32 → Int32} (h : ai_stx t nar st S = some (st', S')) : ∃ x j a n f, st = .int x :: .int j :: .ref a :: st' ∧ ai_arr S a t = some (n, f) ∧ vp_in j n ∧ S' = ai_wr S a (.inl (t, ai_I n (upd f j.toNatClampNeg (nar x)))) := by
  unfold ai_stx at h
  split at h
  · rename_i x j a r
    cases ha : ai_arr S a t with
    | none => rw [ha] at h; cases h
    | some q =>
      rw [ha] at h
      simp only [Option.bind_some] at h
      by_cases hc : j < 0 ∨ q.1 ≤ j.toNatClampNeg
      · rw [if_pos hc] at h; cases h
      · rw [if_neg hc] at h; cases h
        exact ⟨x, j, a, q.1, q.2, rfl, ha, hc, rfl⟩
  · cases h
theorem ai_up_A {f : Nat → Option Nat} {j v : Nat} : (fun q => (va_up f j (some v) q).map (b + ·)) = va_up (fun q => (f q).map (b + ·)) j (some (b + v)) := by
  funext q
  by_cases hq : q = j
  · subst hq; simp [va_up]
  · simp [va_up, hq]
theorem ai_tys_get {t : Nat} (ht : t < 5) : ∃ ty, (ai_tys dA)[t]? = some (dA t, ty) := by
  match t, ht with
  | 0, _ => exact ⟨_, rfl⟩
  | 1, _ => exact ⟨_, rfl⟩
  | 2, _ => exact ⟨_, rfl⟩
  | 3, _ => exact ⟨_, rfl⟩
  | 4, _ => exact ⟨_, rfl⟩
theorem ai_va_len {a : vp_A} : (ai_va b a).1 = a.1 := by
  obtain ⟨n, f⟩ := a
  rcases f with f | f | f | f | f <;> rfl
/-- a new cell, at the heap's end -/
theorem ai_grow {H H' : Heap} {locs : List Loc} {x : ai_C} (hP : va_P D ai_cl (ai_W dA sc b S.1 S.2.2.2) H) (hS : va_S (fun q => b ≤ q) s.heap H locs) (hz : H.size = b + S.1) (z1 : H'.size = b + S.1 + 1) (o1 : ∀ q, q < b + S.1 → H'[q]? = H[q]?) (hx : va_at D ai_cl (b + S.1, ai_e dA sc b x) H') (w : Nat) :
    va_P D ai_cl (ai_W dA sc b (ai_mk S w x).1 (ai_mk S w x).2.2.2) H' ∧ va_S (fun q => b ≤ q) s.heap H' locs := by
  constructor
  · show va_P D ai_cl (ai_W dA sc b (S.1 + 1) (va_up S.2.2.2 S.1 x)) H'
    rw [← ai_W_push]
    have hk : ∀ (k : Nat) (q : Nat × va_E), (ai_W dA sc b S.1 S.2.2.2)[k]? = some q → H'[q.1]? = H[q.1]? := fun k q hq => o1 q.1 (by have := (hP k q hq).lt; omega)
    refine (hP.kept hk).app (fun k q hq => ?_)
    have hz : k < 1 := (List.getElem?_eq_some_iff.mp hq).1
    rw [show k = 0 by omega] at hq
    cases hq
    exact hx
  · exact ⟨Nat.le_trans hS.1 (by omega), fun q h1 h2 => (o1 q (by have := hS.1; omega)).trans (hS.2.1 q h1 h2), hS.2.2⟩
/-- where a cell may be made, the heap ends behind our cells -/
theorem ai_end {H : Heap} {locs : List Loc} (hb0 : b ≤ s.heap.size) (hs0 : s.heap.size ≤ b + k0) (hk : k0 ≤ S.2.1) (he : S.1 = S.2.1) (hP : va_P D ai_cl (ai_W dA sc b S.1 S.2.2.2) H) (hS : va_S (fun q => b ≤ q) s.heap H locs) (hz : H.size ≤ s.heap.size + (S.2.1 - k0)) : H.size = b + S.1 := by
  by_cases hn : 0 < S.1
  · have := ai_P_lt hP hn
    omega
  · have := hS.1
    omega
set_option maxHeartbeats 1000000 in
theorem ai_heap_W (X : ai_X p s m args meth c M) (hK : ai_K D dA s) (hb0 : b ≤ s.heap.size) (hs0 : s.heap.size ≤ b + k0) (hk : k0 ≤ S.2.1) (hsl : s0 ≤ S.2.2.1) (hR : S'.2.1 - k0 ≤ R.cells ∧ S'.2.2.1 - s0 ≤ R.slots)
    (hd : decode (ai_cc M) pc = .ok (i, ai_len i)) (h : ai_heap i st S = some (st', S'))
    (k : ai_G p l e R s m args below meth c Q D dA sc b k0 s0 M (pc + ai_len i, lv, st', S')) : ai_G p l e R s m args below meth c Q D dA sc b k0 s0 M (pc, lv, st, S) := by
  obtain ⟨hx, hb, -, -, hts, -⟩ := X
  intro H ls locs hl hP hS
  have hKv := hK.1
  cases i with
  | iaload =>
    obtain ⟨j, a, r, n, f, rfl, h1, h2, rfl, rfl⟩ := ai_ldx_inv h
    obtain ⟨g1, g2⟩ := ai_arr_inv h1
    exact va_iald hx hb hKv hP a 0 (ai_ws_at g1 g2) rfl h2 hd (k H ls locs hl hP hS)
  | caload =>
    obtain ⟨j, a, r, n, f, rfl, h1, h2, rfl, rfl⟩ := ai_ldx_inv h
    obtain ⟨g1, g2⟩ := ai_arr_inv h1
    exact va_cald hx hb hKv hP a 1 (ai_ws_at g1 g2) rfl h2 hd (k H ls locs hl hP hS)
  | baload =>
    obtain ⟨j, a, r, n, f, rfl, h1, h2, rfl, rfl⟩ := ai_ldx_inv h
    obtain ⟨g1, g2⟩ := ai_arr_inv h1
    exact va_zald hx hb hKv hP a 2 (ai_ws_at g1 g2) rfl h2 hd (k H ls locs hl hP hS)
  | iastore =>
    obtain ⟨x, j, a, n, f, rfl, h1, h2, rfl⟩ := ai_stx_inv h
    obtain ⟨g1, g2⟩ := ai_arr_inv h1
    refine va_iast hx hb hKv hP ai_W_D hS a 0 (ai_ws_at g1 g2) rfl h2 hd (fun H1 locs1 hP1 hD1 hS1 => k H1 ls locs1 hl ?_ hS1)
    have := ai_W_set (dA := dA) (sc := sc) (b := b) (n := S.1) (i := a) (h := S.2.2.2) (x := .inl (0, ai_I n (upd f j.toNatClampNeg x)))
    show va_P D ai_cl (ai_W dA sc b S.1 (va_up S.2.2.2 a _)) H1
    rw [← this]
    exact hP1
  | castore =>
    obtain ⟨x, j, a, n, f, rfl, h1, h2, rfl⟩ := ai_stx_inv h
    obtain ⟨g1, g2⟩ := ai_arr_inv h1
    refine va_cast hx hb hKv hP ai_W_D hS a 1 (ai_ws_at g1 g2) rfl h2 hd (fun H1 locs1 hP1 hD1 hS1 => k H1 ls locs1 hl ?_ hS1)
    have := ai_W_set (dA := dA) (sc := sc) (b := b) (n := S.1) (i := a) (h := S.2.2.2) (x := .inl (1, ai_I n (upd f j.toNatClampNeg (vp_nar .char x))))
    show va_P D ai_cl (ai_W dA sc b S.1 (va_up S.2.2.2 a _)) H1
    rw [← this]
    exact hP1
  | bastore =>
    obtain ⟨x, j, a, n, f, rfl, h1, h2, rfl⟩ := ai_stx_inv h
    obtain ⟨g1, g2⟩ := ai_arr_inv h1
    refine va_zast hx hb hKv hP ai_W_D hS a 2 (ai_ws_at g1 g2) rfl h2 hd (fun H1 locs1 hP1 hD1 hS1 => k H1 ls locs1 hl ?_ hS1)
    have := ai_W_set (dA := dA) (sc := sc) (b := b) (n := S.1) (i := a) (h := S.2.2.2) (x := .inl (2, ai_I n (upd f j.toNatClampNeg (vp_nar .boolean x))))
    show va_P D ai_cl (ai_W dA sc b S.1 (va_up S.2.2.2 a _)) H1
    rw [← this]
    exact hP1
  | laload =>
    simp only [ai_heap] at h
    split at h
    · rename_i j a r
      cases ha : ai_arrJ S a 3 with
      | none => rw [ha] at h; cases h
      | some q =>
        rw [ha] at h
        simp only [Option.bind_some] at h
        by_cases hc : j < 0 ∨ q.1 ≤ j.toNatClampNeg
        · rw [if_pos hc] at h; cases h
        · rw [if_neg hc] at h; cases h
          obtain ⟨g1, g2⟩ := ai_arrJ_inv (n := q.1) (f := q.2) ha
          exact va_lald hx hb hKv hP a 3 (ai_ws_at g1 g2) rfl hc hd (k H ls locs hl hP hS)
    · cases h
  | lastore =>
    simp only [ai_heap] at h
    split at h
    · rename_i x j a r
      cases ha : ai_arrJ S a 3 with
      | none => rw [ha] at h; cases h
      | some q =>
        rw [ha] at h
        simp only [Option.bind_some] at h
        by_cases hc : j < 0 ∨ q.1 ≤ j.toNatClampNeg
        · rw [if_pos hc] at h; cases h
        · rw [if_neg hc] at h; cases h
          obtain ⟨g1, g2⟩ := ai_arrJ_inv (n := q.1) (f := q.2) ha
          refine va_last hx hb hKv hP ai_W_D hS a 3 (ai_ws_at g1 g2) rfl hc hd (fun H1 locs1 hP1 hD1 hS1 => k H1 ls locs1 hl ?_ hS1)
          have := ai_W_set (dA := dA) (sc := sc) (b := b) (n := S.1) (i := a) (h := S.2.2.2) (x := .inl (3, ai_J q.1 (vp_updL q.2 j.toNatClampNeg x)))
          show va_P D ai_cl (ai_W dA sc b S.1 (va_up S.2.2.2 a _)) H1
          rw [← this]
          exact hP1
    · cases h
  | aaload =>
    simp only [ai_heap] at h
    split at h
    · rename_i j a r
      cases ha : ai_arrA S a 4 with
      | none => rw [ha] at h; cases h
      | some q =>
        rw [ha] at h
        simp only [Option.bind_some] at h
        by_cases hc : j < 0 ∨ q.1 ≤ j.toNatClampNeg
        · rw [if_pos hc] at h; cases h
        · rw [if_neg hc] at h
          cases hv : q.2 j.toNatClampNeg with
          | none => rw [hv] at h; cases h
          | some y =>
            rw [hv] at h; cases h
            obtain ⟨g1, g2⟩ := ai_arrA_inv (n := q.1) (f := q.2) ha
            refine va_aldq hx hb hKv hP a 4 (ai_ws_at g1 g2) rfl hc hd ?_
            show W p l e R s m args below meth c H locs _ _ Q (F0 m (pc + 1) ls (va_rf ((q.2 j.toNatClampNeg).map (b + ·)) :: r.map (ai_v sc b)))
            rw [hv]
            exact k H ls locs hl hP hS
    · cases h
  | arraylength =>
    simp only [ai_heap] at h
    split at h
    · rename_i a r
      by_cases ha : a < S.1
      · rw [if_pos ha] at h
        split at h
        · rename_i t q he
          by_cases ht : t < 5
          · rw [if_pos ht] at h; cases h
            obtain ⟨ty, hty⟩ := ai_tys_get (dA := dA) ht
            exact va_alen hx hb hKv hP a t (ai_ws_at ha he) hty (by rw [ai_va_len]) hd (k H ls locs hl hP hS)
          · rw [if_neg ht] at h; cases h
        · cases h
      · rw [if_neg ha] at h; cases h
    · cases h
  | newarray ty =>
    simp only [ai_heap] at h
    split at h
    · rename_i n r
      cases hkd : ai_kind ty with
      | none => rw [hkd] at h; cases h
      | some t =>
        rw [hkd] at h
        simp only [Option.bind_some] at h
        by_cases hc : n < 0 ∨ ¬ S.1 = S.2.1 ∨ 65536 < n.toNatClampNeg
        · rw [if_pos hc] at h; cases h
        · rw [if_neg hc] at h; cases h
          have hc1 : ¬ n < 0 := fun q => hc (Or.inl q)
          have hc2 : S.1 = S.2.1 := Classical.byContradiction fun q => hc (Or.inr (Or.inl q))
          have hc3 : n.toNatClampNeg ≤ 65536 := Nat.not_lt.mp fun q => hc (Or.inr (Or.inr q))
          refine ai_size fun hz => ?_
          have hend := ai_end hb0 hs0 hk hc2 hP hS hz
          have hr1 : S.2.1 + 1 - k0 ≤ R.cells := hR.1
          have hr2 : S.2.2.1 + n.toNatClampNeg - s0 ≤ R.slots := hR.2
          have hby : n.toNatClampNeg * componentBytes (newarray.typeOf ty) ≤ 536870912 := by
            have : componentBytes (newarray.typeOf ty) ≤ 8 := by cases ty <;> decide
            calc n.toNatClampNeg * componentBytes (newarray.typeOf ty) ≤ 65536 * 8 := Nat.mul_le_mul hc3 this
              _ ≤ 536870912 := by decide
          refine va_newaK hx hb (hts _ (ai_arr_ok hkd)) rfl hd rfl hc1 rfl hby (show S.2.1 - k0 + 1 ≤ R.cells by omega) (show S.2.2.1 - s0 + n.toNatClampNeg ≤ R.slots by omega) hend (fun H' cA e1 z1 o1 hAr hNm => ?_)
          have hcA : dA t = cA ∧ vp_cell (dA t) (ai_va b (ai_zero t n.toNatClampNeg)) = arrV (dA t) n.toNatClampNeg (fun _ => defaultValue (newarray.typeOf ty)) := by
            cases ty <;> simp only [ai_kind, Option.some.injEq, reduceCtorEq] at hkd <;> subst hkd
            · exact ⟨Option.some.inj ((hKv.2 2 (dA 2, .boolean) rfl).2.symm.trans hNm), rfl⟩
            · exact ⟨Option.some.inj ((hKv.2 1 (dA 1, .char) rfl).2.symm.trans hNm), rfl⟩
            · exact ⟨Option.some.inj ((hKv.2 0 (dA 0, .int) rfl).2.symm.trans hNm), rfl⟩
            · exact ⟨Option.some.inj ((hKv.2 3 (dA 3, .long) rfl).2.symm.trans hNm), rfl⟩
          obtain ⟨hP1, hS1⟩ := ai_grow (x := .inl (t, ai_zero t n.toNatClampNeg)) hP hS hend z1 (fun q hq => o1 q hq) (by
            show H'[b + S.1]? = some (vp_cell (dA t) (ai_va b (ai_zero t n.toNatClampNeg)))
            rw [hcA.2, hcA.1]
            exact e1) n.toNatClampNeg
          have := k H' ls locs hl hP1 hS1
          have e2 : (ai_mk S n.toNatClampNeg (.inl (t, ai_zero t n.toNatClampNeg))).2.1 - k0 = S.2.1 - k0 + 1 := by
            show S.2.1 + 1 - k0 = _
            omega
          have e3 : (ai_mk S n.toNatClampNeg (.inl (t, ai_zero t n.toNatClampNeg))).2.2.1 - s0 = S.2.2.1 - s0 + n.toNatClampNeg := by
            show S.2.2.1 + n.toNatClampNeg - s0 = _
            omega
          simp only [e2, e3] at this
          exact this
    · cases h
  | _ => exact absurd h (by simp [ai_heap])
theorem ai_fits_ok {ty : FieldType} {v : Value} (h : ai_fits ty v = true) : narrow ty (ai_v sc b v) = ai_v sc b v ∧ fits ty (ai_v sc b v) = true := by
  cases ty <;> cases v <;> simp_all [ai_fits, ai_isI, ai_v, narrow, fits]
theorem ai_dv (ty : FieldType) : ai_v sc b (defaultValue ty) = defaultValue ty := by
  cases ty <;> rfl
theorem ai_blank_ok {ci : Nat} {C : String} {T : u_T} {N : Nat} (hc : ai_cl[ci]? = some (C, T, N)) : ∀ j, j < N → defaultValue (ai_ty ci j) = vp_V ((ai_blank ci).map (ai_v sc b)) j := by
  intro j hj
  have hN : ai_N ci = N := by simp [ai_N, hc]
  simp only [vp_V, ai_blank, hN, List.map_map, List.getD_eq_getElem?_getD, List.getElem?_map, List.getElem?_range hj, Option.map_some, Option.getD_some, Function.comp]
  exact (ai_dv _).symm
set_option maxHeartbeats 1000000 in
theorem ai_fop_W (X : ai_X p s m args meth c M) (hK : ai_K D dA s) (hb0 : b ≤ s.heap.size) (hs0 : s.heap.size ≤ b + k0) (hk : k0 ≤ S.2.1) (hsl : s0 ≤ S.2.2.1) (hR : S'.2.1 - k0 ≤ R.cells ∧ S'.2.2.1 - s0 ≤ R.slots)
    (hd : decode (ai_cc M) pc = .ok (i, ai_len i)) (h : ai_fop M i st S = some (st', S'))
    (k : ai_G p l e R s m args below meth c Q D dA sc b k0 s0 M (pc + ai_len i, lv, st', S')) : ai_G p l e R s m args below meth c Q D dA sc b k0 s0 M (pc, lv, st, S) := by
  obtain ⟨hx, hb, -, hown, hts, -, -, hnm, -⟩ := X
  intro H ls locs hl hP hS
  have hKv := hK.1
  cases i with
  | getfield x =>
    simp only [ai_fop] at h
    cases hf : ai_fld (ai_oi M) x with
    | none => rw [hf] at h; cases h
    | some q =>
      rw [hf] at h
      simp only [Option.bind_some] at h
      split at h
      · rename_i a r
        cases ho : ai_obj S a q.1 with
        | none => rw [ho] at h; cases h
        | some fs =>
          rw [ho] at h
          simp only [Option.bind_some] at h
          cases hv : fs[q.2.1]? with
          | none => rw [hv] at h; cases h
          | some v =>
            rw [hv] at h; cases h
            obtain ⟨g1, g2⟩ := ai_obj_inv ho
            obtain ⟨C, T, N, hc, hkN, hT, hin, hlink⟩ := ai_fld_ok hf
            have hv' : (fs.map (ai_v sc b))[q.2.1]? = some (ai_v sc b v) := by rw [List.getElem?_map, hv]; rfl
            cases hn : q.2.2 with
            | false =>
              rw [hn] at hlink
              exact va_get hx hb hts hin hown hKv hP a (ai_ws_at g1 g2) hc q.2.1 hkN (hts _ hlink) (fun y hy => by rw [hT] at hy; exact hy) hv' hd (k H ls locs hl hP hS)
            | true =>
              rw [hn] at hlink
              exact va_getN hx hb hts hin hown hKv hP a (ai_ws_at g1 g2) hc q.2.1 hkN (va_Nw.use rfl (hK.2.1 _ hlink)) (fun y hy => by rw [hT] at hy; exact hy) hv' hd (k H ls locs hl hP hS)
      · cases h
  | putfield x =>
    simp only [ai_fop] at h
    cases hf : ai_fld (ai_oi M) x with
    | none => rw [hf] at h; cases h
    | some q =>
      rw [hf] at h
      simp only [Option.bind_some] at h
      split at h
      · rename_i v a r
        cases ho : ai_obj S a q.1 with
        | none => rw [ho] at h; cases h
        | some fs =>
          rw [ho] at h
          simp only [Option.bind_some] at h
          by_cases hc3 : q.2.1 < fs.length ∧ ai_fits (ai_ty q.1 q.2.1) v = true ∧ ai_may M q.1 q.2.1 q.2.2 = true
          · rw [if_pos hc3] at h; cases h
            obtain ⟨hlen, hfit, hmay⟩ := hc3
            obtain ⟨g1, g2⟩ := ai_obj_inv ho
            obtain ⟨C, T, N, hc, hkN, hT, hin, hlink⟩ := ai_fld_ok hf
            obtain ⟨hty, hnd⟩ := ai_cl_ok hc
            obtain ⟨f1, f2⟩ := ai_fits_ok (sc := sc) (b := b) hfit
            have hset : (fs.map (ai_v sc b)).set q.2.1 (ai_v sc b v) = (fs.set q.2.1 v).map (ai_v sc b) := by rw [List.map_set]
            have fin : ∀ (H1 : Heap) (locs1 : List Loc), va_P D ai_cl ((ai_W dA sc b S.1 S.2.2.2).set a (b + a, .inr (q.1, (fs.map (ai_v sc b)).set q.2.1 (ai_v sc b v)))) H1 → va_S (fun q => b ≤ q) s.heap H1 locs1 → W p l e R s m args below meth c H1 locs1 (S.2.1 - k0) (S.2.2.1 - s0) Q (F0 m (pc + 3) ls (st'.map (ai_v sc b))) := by
              intro H1 locs1 hP1 hS1
              refine k H1 ls locs1 hl ?_ hS1
              have := ai_W_set (dA := dA) (sc := sc) (b := b) (n := S.1) (i := a) (h := S.2.2.2) (x := .inr (q.1, fs.set q.2.1 v))
              show va_P D ai_cl (ai_W dA sc b S.1 (va_up S.2.2.2 a _)) H1
              rw [← this]
              show va_P D ai_cl ((ai_W dA sc b S.1 S.2.2.2).set a (b + a, .inr (q.1, (fs.set q.2.1 v).map (ai_v sc b)))) H1
              rw [← hset]
              exact hP1
            cases hn : q.2.2 with
            | false =>
              rw [hn] at hlink hmay
              cases hfn : (T q.2.1).2.2.2 with
              | false =>
                exact va_put hx hb hts hin (ai_ty q.1) hty hnd hown hKv hP ai_W_D hS a (ai_ws_at g1 g2) hc q.2.1 hkN (hts _ hlink) (fun y hy => by rw [hT] at hy; exact hy) hfn (hty _ hkN) f1 f2 (by rw [List.length_map]; exact hlen) hd (fun H1 locs1 hP1 _ hS1 => fin H1 locs1 hP1 hS1)
              | true =>
                simp only [ai_may, hc, hfn, if_true, Bool.not_false, Bool.true_and, Bool.and_eq_true, decide_eq_true_eq] at hmay
                exact va_putF hx hb hts hin (ai_ty q.1) hty hnd hown hKv hP ai_W_D hS a (ai_ws_at g1 g2) hc q.2.1 hkN (hts _ hlink) (fun y hy => by rw [hT] at hy; exact hy) hfn ((hnm hmay.2).trans hmay.1.1) (by rw [hT]; exact hmay.1.2.symm) (hty _ hkN) f1 f2 (by rw [List.length_map]; exact hlen) hd (fun H1 locs1 hP1 _ hS1 => fin H1 locs1 hP1 hS1)
            | true =>
              rw [hn] at hlink hmay
              cases hfn : (T q.2.1).2.2.2 with
              | false =>
                exact va_putN hx hb hts hin (ai_ty q.1) hty hnd hown hKv hP ai_W_D hS a (ai_ws_at g1 g2) hc q.2.1 hkN (va_Nw.use rfl (hK.2.1 _ hlink)) (fun y hy => by rw [hT] at hy; exact hy) hfn (hty _ hkN) f1 f2 (by rw [List.length_map]; exact hlen) hd (fun H1 locs1 hP1 _ hS1 => fin H1 locs1 hP1 hS1)
              | true => simp [ai_may, hc, hfn] at hmay
          · rw [if_neg hc3] at h; cases h
      · cases h
  | new x =>
    simp only [ai_fop] at h
    cases hf : ai_new (ai_oi M) x with
    | none => rw [hf] at h; cases h
    | some ci =>
      rw [hf] at h
      simp only [Option.bind_some] at h
      by_cases hc2 : S.1 = S.2.1
      · rw [if_pos hc2] at h; cases h
        obtain ⟨C, T, N, hc, hl1, hl2, hl3⟩ := ai_new_ok hf
        obtain ⟨hty, hnd⟩ := ai_cl_ok hc
        have hin := ai_cl_in hc
        have hN : ai_N ci = N := by simp [ai_N, hc]
        rw [hN] at k hR
        refine ai_size fun hz => ?_
        have hend := ai_end hb0 hs0 hk hc2 hP hS hz
        have hr1 : S.2.1 + 1 - k0 ≤ R.cells := hR.1
        have hr2 : S.2.2.1 + N - s0 ≤ R.slots := hR.2
        have hKn := hKv.1 ci _ hc
        refine W.newcK hx hb hown (hts _ hl1) (hts _ hl2) (hts _ hl3) rfl hd (show S.2.1 - k0 + 1 ≤ R.cells by omega) (show S.2.2.1 - s0 + N ≤ R.slots by omega) hKn.2.1 hend (fun H1 kC hkC e1 z1 o1 => ?_)
        obtain ⟨hP1, hS1⟩ := ai_grow (x := .inr (ci, ai_blank ci)) hP hS hend z1 (fun q hq => o1 q hq) ⟨_, hc, (u_born (ai_ty ci) hts hin hKn hkC e1 hty).to (ai_blank_ok hc)⟩ N
        have := k H1 ls locs hl hP1 hS1
        have e2 : (ai_mk S N (.inr (ci, ai_blank ci))).2.1 - k0 = S.2.1 - k0 + 1 := by
          show S.2.1 + 1 - k0 = _
          omega
        have e3 : (ai_mk S N (.inr (ci, ai_blank ci))).2.2.1 - s0 = S.2.2.1 - s0 + N := by
          show S.2.2.1 + N - s0 = _
          omega
        simp only [e2, e3] at this
        exact this
      · rw [if_neg hc2] at h; cases h
  | anewarray x =>
    simp only [ai_fop] at h
    by_cases hf : ai_anw (ai_oi M) x = true
    · rw [if_pos hf] at h
      split at h
      · rename_i n r
        by_cases hc : n < 0 ∨ ¬ S.1 = S.2.1 ∨ 65536 < n.toNatClampNeg
        · rw [if_pos hc] at h; cases h
        · rw [if_neg hc] at h; cases h
          have hc1 : ¬ n < 0 := fun q => hc (Or.inl q)
          have hc2 : S.1 = S.2.1 := Classical.byContradiction fun q => hc (Or.inr (Or.inl q))
          have hc3 : n.toNatClampNeg ≤ 65536 := Nat.not_lt.mp fun q => hc (Or.inr (Or.inr q))
          refine ai_size fun hz => ?_
          have hend := ai_end hb0 hs0 hk hc2 hP hS hz
          have hr1 : S.2.1 + 1 - k0 ≤ R.cells := hR.1
          have hr2 : S.2.2.1 + n.toNatClampNeg - s0 ≤ R.slots := hR.2
          refine W.anew hx hb hown (hts _ (ai_anw_ok hf)) (va_AO.use hK.2.2) rfl hd rfl hc1 (by omega) (show S.2.1 - k0 + 1 ≤ R.cells by omega) (show S.2.2.1 - s0 + n.toNatClampNeg ≤ R.slots by omega) (fun cA kA comp f1 f2 f3 f4 => ?_)
          have hcA : dA 4 = cA := by
            obtain ⟨kA', comp', -, -, -, q4⟩ := (hKv.2 4 (dA 4, .object ai_pairN) rfl).2
            exact Option.some.inj (q4.symm.trans f1)
          generalize hH1 : H.push ({ cls := cA, slots := Array.replicate n.toNatClampNeg .null, vm := .none } : Cell) = H1
          have z1 : H1.size = b + S.1 + 1 := by rw [← hH1, Array.size_push, hend]
          have e1 : H1[b + S.1]? = some (arrV cA n.toNatClampNeg (fun _ => .null)) := by rw [← hH1, ← hend, Array.getElem?_push_size, ← arrV_new]
          have o1 : ∀ q : Nat, q < b + S.1 → H1[q]? = H[q]? := fun q hq => by rw [← hH1, Array.getElem?_push, if_neg (by omega)]
          obtain ⟨hP1, hS1⟩ := ai_grow (x := .inl (4, ai_A n.toNatClampNeg (fun _ => none))) hP hS hend z1 o1 (by
            show H1[b + S.1]? = some (vp_cell (dA 4) (ai_va b (ai_A n.toNatClampNeg (fun _ => none))))
            rw [hcA, e1]
            rfl) n.toNatClampNeg
          have := k H1 ls locs hl hP1 hS1
          have e2 : (ai_mk S n.toNatClampNeg (.inl (4, ai_A n.toNatClampNeg (fun _ => none)))).2.1 - k0 = S.2.1 - k0 + 1 := by
            show S.2.1 + 1 - k0 = _
            omega
          have e3 : (ai_mk S n.toNatClampNeg (.inl (4, ai_A n.toNatClampNeg (fun _ => none)))).2.2.1 - s0 = S.2.2.1 - s0 + n.toNatClampNeg := by
            show S.2.2.1 + n.toNatClampNeg - s0 = _
            omega
          simp only [e2, e3] at this
          rw [hend]
          exact this
      · cases h
    · rw [if_neg hf] at h; cases h
  | aastore =>
    simp only [ai_fop] at h
    split at h
    · rename_i v j a r
      cases ha : ai_arrA S a 4 with
      | none => rw [ha] at h; cases h
      | some q =>
        rw [ha] at h
        simp only [Option.bind_some] at h
        cases ho : ai_obj S v ai_pair with
        | none => rw [ho] at h; cases h
        | some fs =>
          rw [ho] at h
          simp only [Option.bind_some] at h
          by_cases hc : j < 0 ∨ q.1 ≤ j.toNatClampNeg
          · rw [if_pos hc] at h; cases h
          · rw [if_neg hc] at h; cases h
            obtain ⟨g1, g2⟩ := ai_arrA_inv (n := q.1) (f := q.2) ha
            obtain ⟨g3, g4⟩ := ai_obj_inv ho
            obtain ⟨T, N, hpr⟩ := ai_pair_ok
            refine va_astq (r := (ai_pairN, T, N)) hx hb hKv hP ai_W_D hS a 4 v ai_pair (ai_ws_at g1 g2) rfl (ai_ws_at g3 g4) hpr hc hd (fun H1 locs1 hP1 _ hS1 => k H1 ls locs1 hl ?_ hS1)
            have := ai_W_set (dA := dA) (sc := sc) (b := b) (n := S.1) (i := a) (h := S.2.2.2) (x := .inl (4, ai_A q.1 (va_up q.2 j.toNatClampNeg (some v))))
            show va_P D ai_cl (ai_W dA sc b S.1 (va_up S.2.2.2 a _)) H1
            rw [← this]
            show va_P D ai_cl ((ai_W dA sc b S.1 S.2.2.2).set a (b + a, .inl (dA 4, (q.1, .inr (.inr (.inr (.inr (fun y => (va_up q.2 j.toNatClampNeg (some v) y).map (b + ·))))))))) H1
            rw [ai_up_A]
            exact hP1
    · cases h
  | ldc x =>
    simp only [ai_fop] at h
    cases hf : ai_ldc (ai_oi M) x with
    | none => rw [hf] at h; cases h
    | some v =>
      rw [hf] at h; cases h
      exact lv_ldc hx hb hown (hts _ (ai_ldc_ok hf)) hd (k H ls locs hl hP hS)
  | ldc2_w x =>
    simp only [ai_fop] at h
    cases hf : ai_ldcJ (ai_oi M) x with
    | none => rw [hf] at h; cases h
    | some v =>
      rw [hf] at h; cases h
      exact lv_ldc2 hx hb hown (hts _ (ai_ldcJ_ok hf)) hd (k H ls locs hl hP hS)
  | _ => exact absurd h (by simp [ai_fop])
theorem ai_scr_W {L : Nat} {xs : Nat → Int32} (X : ai_X p s m args meth c M) (hX : ai_oi M = 99 → va_X sc L xs s s.heap ∧ sc < s.heap.size ∧ sc < b)
    (hd : decode (ai_cc M) pc = .ok (i, ai_len i)) (h : ai_scr L xs M i st = some st')
    (k : ai_G p l e R s m args below meth c Q D dA sc b k0 s0 M (pc + ai_len i, lv, st', S)) : ai_G p l e R s m args below meth c Q D dA sc b k0 s0 M (pc, lv, st, S) := by
  obtain ⟨hx, hb, -⟩ := X
  intro H ls locs hl hP hS
  have kk := k H ls locs hl hP hS
  clear k
  unfold ai_scr at h
  by_cases ho : ai_oi M = 99
  · rw [if_pos ho] at h
    obtain ⟨hX1, hX2, hX3⟩ := hX ho
    cases i with
    | iaload =>
      simp only at h
      split at h
      · rename_i j a r
        by_cases hc : j < 0 ∨ L ≤ j.toNatClampNeg
        · rw [if_pos hc] at h; cases h
        · rw [if_neg hc] at h; cases h
          exact va_sld hx hb hX1 hX2 (by show ¬ b ≤ sc; omega) hS hc hd kk
      · cases h
    | arraylength =>
      simp only at h
      split at h
      · cases h
        exact va_slen hx hb hX1 hX2 (by show ¬ b ≤ sc; omega) hS hd kk
      · cases h
    | _ => exact absurd h (by simp)
  · rw [if_neg ho] at h; cases h
/-- one step -/
theorem ai_step_W {L : Nat} {xs : Nat → Int32} {F G : ai_F} (X : ai_X p s m args meth c M) (hK : ai_K D dA s) (hX : ai_oi M = 99 → va_X sc L xs s s.heap ∧ sc < s.heap.size ∧ sc < b) (hb0 : b ≤ s.heap.size) (hs0 : s.heap.size ≤ b + k0) (hk : k0 ≤ F.2.2.2.2.1) (hsl : s0 ≤ F.2.2.2.2.2.1) (hR : G.2.2.2.2.1 - k0 ≤ R.cells ∧ G.2.2.2.2.2.1 - s0 ≤ R.slots)
    (hd : decode (ai_cc M) F.1 = .ok (i, ai_len i)) (h : ai_step L xs M i (ai_len i) F = some G)
    (k : ai_G p l e R s m args below meth c Q D dA sc b k0 s0 M G) : ai_G p l e R s m args below meth c Q D dA sc b k0 s0 M F := by
  obtain ⟨pc, lv, st, S⟩ := F
  unfold ai_step at h
  split at h
  · rename_i st' h1
    cases h
    exact ai_pure_W X hd h1 k
  · split at h
    · rename_i q h1
      cases h
      exact ai_loc_W X hd h1 k
    · split at h
      · rename_i q h1
        cases h
        exact ai_heap_W X hK hb0 hs0 hk hsl hR hd h1 k
      · split at h
        · rename_i q h1
          cases h
          exact ai_fop_W X hK hb0 hs0 hk hsl hR hd h1 k
        · split at h
          · rename_i st' h1
            cases h
            exact ai_scr_W X hX hd h1 k
          · cases h
end AIS
end
section
/-! The abstract machine by itself: it goes one way; it takes no cell back. -/
section AIP
variable {L : Nat} {xs : Nat → Int32} {M : ai_M} {run : Nat → List Value → ai_S → ai_O → Prop} {go : ai_F → Prop} {Q : ai_O → Prop}
/-- cells and slots have not become fewer -/
def ai_le (S T : ai_S) : Prop := S.2.1 ≤ T.2.1 ∧ S.2.2.1 ≤ T.2.2.1
theorem ai_le.rf (S : ai_S) : ai_le S S := ⟨Nat.le_refl _, Nat.le_refl _⟩
theorem ai_le.tr {S T U : ai_S} (h : ai_le S T) (g : ai_le T U) : ai_le S U := ⟨Nat.le_trans h.1 g.1, Nat.le_trans h.2 g.2⟩
theorem ai_le_wr (S : ai_S) (a : Nat) (x : ai_C) : ai_le S (ai_wr S a x) := ⟨Nat.le_refl _, Nat.le_refl _⟩
theorem ai_le_mk (S : ai_S) (w : Nat) (x : ai_C) : ai_le S (ai_mk S w x) := ⟨Nat.le_succ _, Nat.le_add_right _ _⟩
theorem ai_heap_le {i : Instr} {st st' : List Value} {S S' : ai_S} (h : ai_heap i st S = some (st', S')) : ai_le S S' := by
  cases i with
  | iaload => obtain ⟨_, _, _, _, _, _, _, _, _, rfl⟩ := ai_ldx_inv h; exact ai_le.rf _
  | caload => obtain ⟨_, _, _, _, _, _, _, _, _, rfl⟩ := ai_ldx_inv h; exact ai_le.rf _
  | baload => obtain ⟨_, _, _, _, _, _, _, _, _, rfl⟩ := ai_ldx_inv h; exact ai_le.rf _
  | iastore => obtain ⟨_, _, _, _, _, _, _, _, rfl⟩ := ai_stx_inv h; exact ai_le_wr _ _ _
  | castore => obtain ⟨_, _, _, _, _, _, _, _, rfl⟩ := ai_stx_inv h; exact ai_le_wr _ _ _
  | bastore => obtain ⟨_, _, _, _, _, _, _, _, rfl⟩ := ai_stx_inv h; exact ai_le_wr _ _ _
  | laload =>
    simp only [ai_heap] at h
    split at h
    · obtain ⟨q, _, h2⟩ := Option.bind_eq_some_iff.mp h
      split at h2
      · cases h2
      · cases h2; exact ai_le.rf _
    · cases h
  | lastore =>
    simp only [ai_heap] at h
    split at h
    · obtain ⟨q, _, h2⟩ := Option.bind_eq_some_iff.mp h
      split at h2
      · cases h2
      · cases h2; exact ai_le_wr _ _ _
    · cases h
  | aaload =>
    simp only [ai_heap] at h
    split at h
    · obtain ⟨q, _, h2⟩ := Option.bind_eq_some_iff.mp h
      split at h2
      · cases h2
      · obtain ⟨y, _, h3⟩ := Option.map_eq_some_iff.mp h2
        cases h3; exact ai_le.rf _
    · cases h
  | arraylength =>
    simp only [ai_heap] at h
    split at h
    · split at h
      · split at h
        · split at h
          · cases h; exact ai_le.rf _
          · cases h
        · cases h
      · cases h
    · cases h
  | newarray ty =>
    simp only [ai_heap] at h
    split at h
    · obtain ⟨q, _, h2⟩ := Option.bind_eq_some_iff.mp h
      split at h2
      · cases h2
      · cases h2; exact ai_le_mk _ _ _
    · cases h
  | _ => exact absurd h (by simp [ai_heap])
theorem ai_fop_le {i : Instr} {st st' : List Value} {S S' : ai_S} (h : ai_fop M i st S = some (st', S')) : ai_le S S' := by
  cases i with
  | getfield x =>
    simp only [ai_fop] at h
    obtain ⟨q, _, h2⟩ := Option.bind_eq_some_iff.mp h
    split at h2
    · obtain ⟨fs, _, h3⟩ := Option.bind_eq_some_iff.mp h2
      obtain ⟨v, _, h4⟩ := Option.map_eq_some_iff.mp h3
      cases h4; exact ai_le.rf _
    · cases h2
  | putfield x =>
    simp only [ai_fop] at h
    obtain ⟨q, _, h2⟩ := Option.bind_eq_some_iff.mp h
    split at h2
    · obtain ⟨fs, _, h3⟩ := Option.bind_eq_some_iff.mp h2
      split at h3
      · cases h3; exact ai_le_wr _ _ _
      · cases h3
    · cases h2
  | new x =>
    simp only [ai_fop] at h
    obtain ⟨q, _, h2⟩ := Option.bind_eq_some_iff.mp h
    split at h2
    · cases h2; exact ai_le_mk _ _ _
    · cases h2
  | anewarray x =>
    simp only [ai_fop] at h
    split at h
    · split at h
      · split at h
        · cases h
        · cases h; exact ai_le_mk _ _ _
      · cases h
    · cases h
  | aastore =>
    simp only [ai_fop] at h
    split at h
    · obtain ⟨q, _, h2⟩ := Option.bind_eq_some_iff.mp h
      obtain ⟨fs, _, h3⟩ := Option.bind_eq_some_iff.mp h2
      split at h3
      · cases h3
      · cases h3; exact ai_le_wr _ _ _
    · cases h
  | ldc x =>
    simp only [ai_fop] at h
    obtain ⟨v, _, h4⟩ := Option.map_eq_some_iff.mp h
    cases h4; exact ai_le.rf _
  | ldc2_w x =>
    simp only [ai_fop] at h
    obtain ⟨v, _, h4⟩ := Option.map_eq_some_iff.mp h
    cases h4; exact ai_le.rf _
  | _ => exact absurd h (by simp [ai_fop])
theorem ai_step_le {i : Instr} {len : Nat} {F G : ai_F} (h : ai_step L xs M i len F = some G) : ai_le F.2.2.2 G.2.2.2 := by
  unfold ai_step at h
  split at h
  · cases h; exact ai_le.rf _
  · split at h
    · cases h; exact ai_le.rf _
    · split at h
      · rename_i q hq; cases h; exact ai_heap_le hq
      · split at h
        · rename_i q hq; cases h; exact ai_fop_le hq
        · split at h
          · cases h; exact ai_le.rf _
          · cases h
/-- what an instruction comes to: one frame, or one end -/
def ai_path (L : Nat) (xs : Nat → Int32) (M : ai_M) (call : ai_call) (go : ai_F → Prop) (Q : ai_O → Prop) (F : ai_F) : Prop :=
  (∃ G, go G ∧ ai_le F.2.2.2 G.2.2.2 ∧ ∀ (go' : ai_F → Prop) (Q' : ai_O → Prop), go' G → ai_one L xs M call go' Q' F) ∨ (∃ o, Q o ∧ ai_le F.2.2.2 o.2 ∧ ∀ (go' : ai_F → Prop) (Q' : ai_O → Prop), Q' o → ai_one L xs M call go' Q' F)
theorem ai_back_path {kd pc : Nat} {lv : ai_L} {rest : List Value} {o : ai_O} (h : ai_back M go kd pc lv rest o) : ∃ G, go G ∧ G.2.2.2 = o.2 ∧ ∀ go' : ai_F → Prop, go' G → ai_back M go' kd pc lv rest o := by
  obtain ⟨v, S⟩ := o
  cases v with
  | inl v => exact ⟨_, h, rfl, fun go' h' => h'⟩
  | inr E =>
    simp only [ai_back] at h ⊢
    obtain ⟨hkd, h⟩ := h
    cases hh : ai_hand M pc E with
    | none => rw [hh] at h; exact h.elim
    | some hp =>
      rw [hh] at h
      simp only at h ⊢
      cases ha : ai_at M hp with
      | none => rw [ha] at h; exact h.elim
      | some q =>
        rw [ha] at h
        split at h
        · rename_i k hk
          cases hk
          exact ⟨_, h.2.2, rfl, fun go' h' => ⟨hkd, h.1, h.2.1, h'⟩⟩
        · exact h.elim
theorem ai_inv_path {ks : List Nat} {x : Nat} {F : ai_F} (hr : ∀ mi as S o, run mi as S o → ai_le S o.2) (h : ai_inv (fun mi as S Q => ∃ o, run mi as S o ∧ Q o) M go ks x F) :
    ∃ G, go G ∧ ai_le F.2.2.2 G.2.2.2 ∧ ∀ go' : ai_F → Prop, go' G → ai_inv (fun mi as S Q => ∃ o, run mi as S o ∧ Q o) M go' ks x F := by
  unfold ai_inv at h ⊢
  cases he : ai_mth (ai_oi M) x with
  | none => rw [he] at h; exact h.elim
  | some q =>
    obtain ⟨kd, mi, na, ci⟩ := q
    rw [he] at h
    simp only at h ⊢
    obtain ⟨h1, h2⟩ := h
    by_cases hk : kd = 2 ∨ kd = 3 ∨ kd = 6
    · simp only [if_pos hk] at h2 ⊢
      obtain ⟨g1, g2, o, g3, g4⟩ := h2
      obtain ⟨G, q1, q2, q3⟩ := ai_back_path g4
      exact ⟨G, q1, by rw [q2]; exact hr _ _ _ _ g3, fun go' h' => ⟨h1, g1, g2, o, g3, q3 go' h'⟩⟩
    · simp only [if_neg hk] at h2 ⊢
      split at h2
      · rename_i a rest hs
        obtain ⟨g1, g2, g5, o, g3, g4⟩ := h2
        obtain ⟨G, q1, q2, q3⟩ := ai_back_path g4
        exact ⟨G, q1, by rw [q2]; exact hr _ _ _ _ g3, fun go' h' => ⟨h1, g1, g2, g5, o, g3, q3 go' h'⟩⟩
      · exact h2.elim
set_option maxHeartbeats 2000000 in
theorem ai_one_path {F : ai_F} (hr : ∀ mi as S o, run mi as S o → ai_le S o.2) (h : ai_one L xs M (fun mi as S Q => ∃ o, run mi as S o ∧ Q o) go Q F) : ai_path L xs M (fun mi as S Q => ∃ o, run mi as S o ∧ Q o) go Q F := by
  unfold ai_path
  unfold ai_one at h ⊢
  cases ha : ai_at M F.1 with
  | none => rw [ha] at h; exact h.elim
  | some q =>
    obtain ⟨i, len⟩ := q
    rw [ha] at h
    cases i
    case goto off => exact Or.inl ⟨_, h, ai_le.rf _, fun go' Q' h' => h'⟩
    case ifCond c off =>
      simp only at h ⊢
      split at h
      · rename_i x r hs
        by_cases hc : ai_cmp c x 0
        · exact Or.inl ⟨_, h.1 hc, ai_le.rf _, fun go' Q' h' => ⟨fun _ => h', fun z => absurd hc z⟩⟩
        · exact Or.inl ⟨_, h.2 hc, ai_le.rf _, fun go' Q' h' => ⟨fun z => absurd z hc, fun _ => h'⟩⟩
      · exact h.elim
    case if_icmp c off =>
      simp only at h ⊢
      split at h
      · rename_i y x r hs
        by_cases hc : ai_cmp c x y
        · exact Or.inl ⟨_, h.1 hc, ai_le.rf _, fun go' Q' h' => ⟨fun _ => h', fun z => absurd hc z⟩⟩
        · exact Or.inl ⟨_, h.2 hc, ai_le.rf _, fun go' Q' h' => ⟨fun z => absurd z hc, fun _ => h'⟩⟩
      · exact h.elim
    case tableswitch dflt lo hi offs =>
      simp only at h ⊢
      split at h
      · rename_i x r hs
        by_cases hc : x.toInt < lo ∨ hi < x.toInt
        · exact Or.inl ⟨_, h.1 hc, ai_le.rf _, fun go' Q' h' => ⟨fun _ => h', fun z => absurd hc z⟩⟩
        · obtain ⟨off, h1, h2⟩ := h.2 hc
          exact Or.inl ⟨_, h2, ai_le.rf _, fun go' Q' h' => ⟨fun z => absurd z hc, fun _ => ⟨off, h1, h'⟩⟩⟩
      · exact h.elim
    case invokevirtual x =>
      obtain ⟨G, g1, g2, g3⟩ := ai_inv_path hr h
      exact Or.inl ⟨G, g1, g2, fun go' Q' h' => g3 go' h'⟩
    case invokestatic x =>
      simp only at h ⊢
      by_cases hx : ai_isCpy (ai_oi M) x = true
      · simp only [if_pos hx] at h ⊢
        unfold ai_cpy at h ⊢
        split at h
        · obtain ⟨n0, f, n1, g, h1, h2, h3, h4, h5, h6, h7, h8, h9, h10⟩ := h
          exact Or.inl ⟨_, h10, ai_le_wr _ _ _, fun go' Q' h' => ⟨n0, f, n1, g, h1, h2, h3, h4, h5, h6, h7, h8, h9, h'⟩⟩
        · exact h.elim
      · simp only [if_neg hx] at h ⊢
        obtain ⟨G, g1, g2, g3⟩ := ai_inv_path hr h
        exact Or.inl ⟨G, g1, g2, fun go' Q' h' => g3 go' h'⟩
    case invokespecial x =>
      simp only at h ⊢
      by_cases hx : ai_isObj (ai_oi M) x = true
      · simp only [if_pos hx] at h ⊢
        split at h
        · exact Or.inl ⟨_, h.2, ai_le.rf _, fun go' Q' h' => ⟨h.1, h'⟩⟩
        · exact h.elim
      · simp only [if_neg hx] at h ⊢
        obtain ⟨G, g1, g2, g3⟩ := ai_inv_path hr h
        exact Or.inl ⟨G, g1, g2, fun go' Q' h' => g3 go' h'⟩
    case ireturn =>
      simp only at h ⊢
      split at h
      · exact Or.inr ⟨_, h.2, ai_le.rf _, fun go' Q' h' => ⟨h.1, h'⟩⟩
      · exact h.elim
    case return_ => exact Or.inr ⟨_, h.2.2, ai_le.rf _, fun go' Q' h' => ⟨h.1, h.2.1, h'⟩⟩
    all_goals
      simp only at h ⊢
      split at h
      · exact Or.inr ⟨_, h.2, ⟨Nat.le_succ _, Nat.le_add_right _ _⟩, fun go' Q' h' => ⟨h.1, h'⟩⟩
      · split at h
        · rename_i G hG
          exact Or.inl ⟨G, h, ai_step_le hG, fun go' Q' h' => h'⟩
        · exact h.elim
theorem ai_wp_det {n : Nat} {F : ai_F} (hr : ∀ mi as S o, run mi as S o → ai_le S o.2) (h : ai_wp L xs M (fun mi as S Q => ∃ o, run mi as S o ∧ Q o) Q n F) :
    ∃ o, ai_wp L xs M (fun mi as S Q => ∃ o, run mi as S o ∧ Q o) (fun x => x = o) n F ∧ Q o ∧ ai_le F.2.2.2 o.2 := by
  induction n generalizing F with
  | zero => exact h.elim
  | succ n ih =>
    rcases ai_one_path hr h with ⟨G, g1, g2, g3⟩ | ⟨o, g1, g2, g3⟩
    · obtain ⟨o, q1, q2, q3⟩ := ih g1
      exact ⟨o, g3 _ _ q1, q2, g2.tr q3⟩
    · exact ⟨o, g3 _ _ rfl, g1, g2⟩
theorem ai_run_le {d : Nat} : ∀ mi as S o, ai_run L xs d mi as S o → ai_le S o.2 := by
  induction d with
  | zero => intro mi as S o h; exact h.elim
  | succ d ih =>
    intro mi as S o h
    obtain ⟨M, n, -, -, -, h4⟩ := h
    obtain ⟨o', -, rfl, q3⟩ := ai_wp_det ih h4
    exact q3
end AIP
end
section
/-! What a throw rests on besides the tables: two static fields of Throwable, which lie below our cells, and the texts. -/
def ai_Zs (b : Nat) (n d : String) (U : State) (H : Heap) : Prop := ∃ (cf : ClassId) (k : Class) (i : Nat) (f : Field) (a : Nat) (cell : Cell) (v : Value), U.vm.findClass Bundle.tN = some cf ∧ U.fieldFound? Bundle.tN n d = some (cf, k, i, f) ∧ f.isStatic = true ∧ k.statics = some a ∧ H[a]? = some cell ∧ cell.vm.isStatics = true ∧ cell.cls = cf ∧ f.slot < cell.slots.size ∧ k.staticTypes[f.slot]? = some f.type ∧ cell.slots[f.slot]? = some v ∧ v.isRef = true ∧ a < b
theorem ai_Zs.go {b : Nat} {n d : String} {u U : State} {H H1 : Heap} (hvm : u.vm.Alike U.vm) (hq : ∀ a, a < b → a < H.size → H1[a]? = H[a]?) (h : ai_Zs b n d u H) : ai_Zs b n d U H1 := by
  obtain ⟨cf, k, i, f, a, cell, v, h1, h2, h3, h4, h5, h6, h7, h8, h9, h10, h11, h12⟩ := h
  obtain ⟨k', hi', he⟩ := State.fieldFound?_setVm hvm h2
  exact ⟨cf, k', i, f, a, cell, v, by rw [hvm.findClass]; exact h1, hi', h3, by rw [he]; exact h4, by rw [hq a h12 (Array.getElem?_eq_some_iff.mp h5).1]; exact h5, h6, h7, h8, by rw [he]; exact h9, h10, h11, h12⟩
theorem ai_Zs.lays {b : Nat} {n d : String} {s : State} {args : Array Value} (h : ai_Zs b n d s s.heap) : (Cond.laysStatic Bundle.tN n d).before args s = true := by
  obtain ⟨cf, k, i, f, a, cell, v, h1, h2, h3, h4, h5, h6, h7, h8, h9, h10, h11, h12⟩ := h
  exact Cond.laysStatic_of h1 h2 h3 h4 h5 h6 h7 h8 h9
theorem ai_Zs.ref {b : Nat} {n d : String} {s : State} {args : Array Value} (h : ai_Zs b n d s s.heap) : (Cond.isRef (.static Bundle.tN n d)).before args s = true := by
  obtain ⟨cf, k, i, f, a, cell, v, h1, h2, h3, h4, h5, h6, h7, h8, h9, h10, h11, h12⟩ := h
  have he : (Term.static Bundle.tN n d).eval args s none [] s = some v := by
    simp [Term.eval, State.fieldNamed?, h2, h3, h4, h5, h6, h10]
  simp only [Cond.before, Cond.holds, Cond.value, he]
  cases v <;> simp_all [Value.isRef]
theorem ai_Zs.of {b : Nat} {n d : String} {s : State} {args : Array Value} (hl : (Cond.laysStatic Bundle.tN n d).before args s = true) (hr : (Cond.isRef (.static Bundle.tN n d)).before args s = true) (hb : s.heap.size ≤ b) : ai_Zs b n d s s.heap := by
  obtain ⟨cf, k, i, f, a, cell, h1, h2, h3, h4, h5, h6, h7, h8, h9⟩ := Cond.laysStatic_spec hl
  cases hv : (Term.static Bundle.tN n d).eval args s none [] s with
  | none => simp [Cond.before, Cond.holds, Cond.value, hv] at hr
  | some w =>
    obtain ⟨-, a', cell', ha', hcell', -, hslot⟩ := Term.static_spec h2 hv
    cases h4.symm.trans ha'
    cases h5.symm.trans hcell'
    refine ⟨cf, k, i, f, a, cell, w, h1, h2, h3, h4, h5, h6, h7, h8, h9, hslot, ?_, ?_⟩
    · simp only [Cond.before, Cond.holds, Cond.value, hv] at hr
      cases w <;> simp_all [Value.isRef]
    · have := (Array.getElem?_eq_some_iff.mp h5).1
      omega
def ai_KX (b : Nat) (U : State) : Prop := ai_Zs b "UNASSIGNED_STACK" Bundle.steD U U.heap ∧ ai_Zs b "SUPPRESSED_SENTINEL" Bundle.listD U U.heap ∧ (∀ q ∈ ai_txt, ∃ sa, vk_R q.1 q.2.1 q.2.2 sa U) ∧ (∀ q ∈ ai_ncL, va_Nc q.1 q.2 U) ∧ (∀ E ∈ ai_ca, va_Nw (.castable E E) U) ∧ ∀ y ∈ ai_dcL, va_Nw (.declares y) U
theorem ai_ca_go {E : String} {s U : State} (ha : s.vm.Alike U.vm) (h : va_Nw (.castable E E) s) : va_Nw (.castable E E) U := va_tabs rfl (rfl : (s.setVm U.vm).vm = U.vm) (by rw [Cond.castable_setVm ha]; exact h)
theorem ai_KX.go {b : Nat} {s U : State} {locs : List Loc} (hW : s.WarmedH U.vm) (hS : va_S (fun q => b ≤ q) s.heap U.heap locs) (h : ai_KX b s) : ai_KX b U := by
  have hq : ∀ a, a < b → a < s.heap.size → U.heap[a]? = s.heap[a]? := fun a h1 h2 => hS.2.1 a h2 (by omega)
  refine ⟨ai_Zs.go hW.alike hq h.1, ai_Zs.go hW.alike hq h.2.1, fun q hm => ?_, fun q hm => va_Nc.moved hW.alike (h.2.2.2.1 q hm), fun E hE => ai_ca_go hW.alike (h.2.2.2.2.1 E hE), fun y hy => va_Nw.warmD hW (h.2.2.2.2.2 y hy)⟩
  obtain ⟨sa, h1⟩ := h.2.2.1 q hm
  exact ⟨sa, vk_R.warm hW h1⟩
theorem ai_KX.same {b : Nat} {u U : State} (hvm : u.vm = U.vm) (hh : U.heap = u.heap) (h : ai_KX b u) : ai_KX b U := by
  have ha : u.vm.Alike U.vm := by rw [hvm]; exact Vm.Alike.refl _
  have hq : ∀ a, a < b → a < u.heap.size → U.heap[a]? = u.heap[a]? := fun a _ _ => by rw [hh]
  refine ⟨ai_Zs.go ha hq h.1, ai_Zs.go ha hq h.2.1, fun q hm => ?_, fun q hm => va_Nc.moved ha (h.2.2.2.1 q hm), fun E hE => ai_ca_go ha (h.2.2.2.2.1 E hE), fun y hy => va_Nw.same rfl hvm (h.2.2.2.2.2 y hy)⟩
  obtain ⟨sa, h1⟩ := h.2.2.1 q hm
  exact ⟨sa, vk_R.same hvm.symm h1⟩
end
section
/-! The abstract machine's runs are runs of the real one: contracts. -/
def ai_wsM (M : ai_M) : List Cond := ai_cw M :: ai_ws
def ai_rm (M : ai_M) (mc ms : Nat) : Room := { frames := ai_Fr M, cells := mc, slots := ms, locals := ai_Lc M }
def ai_Pc (D : va_G) (dA : Nat → ClassId) (sc b : Nat) (as : List Value) (S : ai_S) : Array Value → State → Prop := fun av U => av = (as.map (ai_v sc b)).toArray ∧ va_P D ai_cl (ai_W dA sc b S.1 S.2.2.2) U.heap ∧ b ≤ U.heap.size ∧ U.heap.size ≤ b + S.2.1 ∧ ai_K D dA U ∧ ai_KX b U
def ai_Qr (D : va_G) (dA : Nat → ClassId) (sc b : Nat) (v : Option Value) (S : ai_S) : Array Value → State → Outcome → State → Prop := fun _ st oc t => oc = .returned (v.map (ai_v sc b)) ∧ va_P D ai_cl (ai_W dA sc b S.1 S.2.2.2) t.heap ∧ va_F (fun q => b ≤ q) st t
theorem ai_K.same {D : va_G} {dA : Nat → ClassId} {u U : State} (h : u.vm = U.vm) (hK : ai_K D dA u) : ai_K D dA U := by
  have ha : u.vm.Alike U.vm := by rw [h]; exact Vm.Alike.refl _
  refine ⟨va_K.moved ha hK.1, fun w hw => ?_, va_AO.moved ha hK.2.2⟩
  rcases ai_nw_ok hw with ⟨a, i, r, n, dd, hh, rfl⟩ | ⟨a, i, y, hh, rfl⟩
  · exact va_Nw.same rfl h (hK.2.1 _ hw)
  · exact va_Nw.same rfl h (hK.2.1 _ hw)
theorem ai_K.warm {D : va_G} {dA : Nat → ClassId} {s U : State} (h : s.WarmedH U.vm) (hK : ai_K D dA s) : ai_K D dA U := by
  refine ⟨va_K.moved h.alike hK.1, fun w hw => ?_, va_AO.moved h.alike hK.2.2⟩
  rcases ai_nw_ok hw with ⟨a, i, r, n, dd, hh, rfl⟩ | ⟨a, i, y, hh, rfl⟩
  · exact va_Nw.warmF h (hK.2.1 _ hw)
  · exact va_Nw.warmM h (hK.2.1 _ hw)
theorem ai_blind {D : va_G} {dA : Nat → ClassId} {sc b : Nat} {as : List Value} {S : ai_S} : FrameBlind (ai_Pc D dA sc b as S) := by
  intro a U g mk h
  obtain ⟨h1, h2, h3, h4, h5, h6⟩ := h
  exact ⟨h1, h2, h3, h4, ai_K.same (u := U) rfl h5, ai_KX.same (u := U) rfl rfl h6⟩
theorem ai_sum_map {sc b : Nat} (st : List Value) : ((st.map (ai_v sc b)).map fun v => v.category).sum = ai_sum st := by
  simp only [ai_sum, List.map_map]
  congr 1
  apply List.map_congr_left
  intro v _
  exact ai_v_cat sc b v
theorem ai_ar2 {a b c r : Nat} (h1 : a ≤ b) (h2 : c ≤ a) (h : b - c ≤ r) : a - c + (b - a) ≤ r := by omega
theorem ai_ar3 {n k q r : Nat} (h1 : 19 + n + k ≤ q) (h2 : q ≤ r) : 8 + (n + 11) + k ≤ r := by omega
theorem ai_ar4 {z y b k c : Nat} (h1 : z ≤ y + (k - c)) (h2 : y ≤ b + c) (h3 : c ≤ k) : z ≤ b + k := by omega
theorem ai_ar5 {a b c : Nat} (h1 : a ≤ b) (h2 : c ≤ a) : b - c = a - c + (b - a) := by omega
theorem ai_kd1 {kd : Nat} (h : kd = 0 ∨ kd = 1) (g : kd = 2 ∨ kd = 3 ∨ kd = 6) : False := by omega
theorem ai_kd2 {kd : Nat} (h : kd = 4 ∨ kd = 5) (g : kd = 2 ∨ kd = 3 ∨ kd = 6) : False := by omega
section AIC
variable {p : Program} {l : Launch} {e : Env} {R : Room} {s : State} {m : MethodId} {args : Array Value} {below : List Frame} {meth : Method} {c : Code} {Q : State → Prop}
variable {D : va_G} {dA : Nat → ClassId} {sc b k0 s0 : Nat} {M : ai_M}
/-- behind a call that has returned -/
theorem ai_ofRun {H : Heap} {locs : List Loc} {cells slots mc ms pc : Nat} {ls : Array Slot} {st0 rest : List Value} {a : Array Value} {v : Option Value} {S : ai_S}
    (hr : va_Run p l e R s m args below meth c H locs cells slots mc ms (F0 m pc ls st0) rest (ai_Qr D dA sc b v S a) (fun q => b ≤ q)) (hS : va_S (fun q => b ≤ q) s.heap H locs)
    (kk : ∀ (H1 : Heap) (locs1 : List Loc), va_P D ai_cl (ai_W dA sc b S.1 S.2.2.2) H1 → va_S (fun q => b ≤ q) s.heap H1 locs1 → W p l e R s m args below meth c H1 locs1 (cells + mc) (slots + ms) Q (F0 m (pc + 3) ls ((v.map (ai_v sc b)).toList ++ rest))) : W p l e R s m args below meth c H locs cells slots Q (F0 m pc ls st0) := by
  intro T hT X
  obtain ⟨v', st₀, t, T', Ls, h0, X', hL, e1, e2, ⟨hv, hP, hz, hk⟩, st⟩ := hr T hT X
  cases hv
  rw [h0] at hz hk
  obtain ⟨t2, a1, b1⟩ := kk T'.heap (locs ++ Ls) (by rw [e1]; exact hP)
    ⟨Nat.le_trans hS.1 (by rw [e1]; exact hz), fun q h1 h2 => by rw [e1, hk q (Nat.lt_of_lt_of_le h1 hS.1) h2]; exact hS.2.1 q h1 h2, fun q hq => by
      rcases List.mem_append.mp hq with h | h
      · exact hS.2.2 q h
      · exact hL q h⟩ T' rfl X'
  exact ⟨t2, st t2 a1, b1⟩
/-- the method returns -/
def ai_Met (l : Launch) (D : va_G) (dA : Nat → ClassId) (sc b : Nat) (M : ai_M) (as : List Value) (S : ai_S) (v : Option Value) (S' : ai_S) : Prop :=
  Met l (ai_y M) (ai_wsM M) (ai_rm M (S'.2.1 - S.2.1) (S'.2.2.1 - S.2.2.1)) (ai_Pc D dA sc b as S) (ai_Qr D dA sc b v S') (S'.2.1 - S.2.1) (S'.2.2.1 - S.2.2.1) (fun q => b ≤ q)
theorem ai_goodM {M' : ai_M} (hM : M' ∈ ai_MT) (ho : ai_oi M' ≠ 99) : GoodIn ai_ws (ai_wsM M') := by
  intro w hw
  rcases List.mem_cons.mp hw with rfl | hw
  · exact ⟨ai_code_in hM ho, ai_good _ (ai_code_in hM ho)⟩
  · exact ⟨hw, ai_good _ hw⟩
/-- a static method with handlers, called -/
theorem ai_runSW {y : MethodName} {bytes cc : ByteArray} {maxL nL mc ms n index : Nat} {ret : Option FieldType} {hh : List (Nat × Nat × Nat × Nat)} {ws : List Cond} {rm : Room} {Pc : Array Value → State → Prop} {Qc : Array Value → State → Outcome → State → Prop} {free : Addr → Prop} {Ts : List Cond} {own : String} {As rest : List Value} {g : JFrame} {H : Heap} {locs : List Loc} {cells slots : Nat}
    (Z : CallFix p m c cc nL s args Ts own) (hM : Met l y (Cond.codeWith y bytes maxL ret hh :: ws) rm Pc Qc mc ms free) (hG : GoodIn Ts (Cond.codeWith y bytes maxL ret hh :: ws)) (hrc : rm.cells = mc) (hrs : rm.slots = ms) (hRR : rm.frames + 1 ≤ R.frames ∧ 8 + (maxL + 11) + rm.locals ≤ R.locals)
    (hini : (Cond.initialized y.cls).before args s = true) (hy : y.cls ≠ "java/lang/invoke/MethodHandle" ∧ y.cls ≠ "java/lang/invoke/VarHandle") (hna : (parseMethodDescriptor y.desc).map (fun d => d.parameters.length) = some n) (hl : (Cond.methodLink own index y).before args s = true) (hstat : (Cond.static y).before args s = true) (hp : PreS s H Pc As)
    (hg : g.method = m) (hn : As.length = n) (hsize : g.locals.size = nL) (hstack : g.stack = As.reverse ++ rest) (hW : 2 * g.monitorRoom + (rest.map fun v => v.category).sum ≤ 8) (hdg : decode cc g.pc = .ok (.invokestatic index, 3)) (hf : cells + mc ≤ R.cells ∧ slots + ms ≤ R.slots) :
    va_Run p l e R s m args below meth c H locs cells slots mc ms g rest (Qc As.toArray) free := by
  obtain ⟨hx, hb, hml, ho, hts⟩ := Z
  have hK : Back l R p e below s args y 3 8 (PreOf R mc ms Pc) (PostOf Qc mc ms free) := va_backW (bytes := bytes) (maxL := maxL) (ret := ret) (hh := hh) hM hp.1 hrc hrs hRR.1 hRR.2 (pay_in hts hG) List.mem_cons_self (fun a' U hW => word_at hW (Or.inl (by first | rfl | simp [Cond.onTables, Cond.keeps, Cond.steady])) hini)
  intro T hT X
  obtain ⟨mk, methM, cM, hnamed, hmethM, -, -, -, -, -, -, hsigM⟩ := Cond.codeWith_spec (hts _ (hG _ List.mem_cons_self).1)
  have hstatic : methM.isStatic = true := Cond.static_spec hnamed hmethM hstat
  obtain ⟨kP, hkP, -⟩ := className_of_methodNamed hnamed
  have hinitP : kP.init = .initialized := Cond.initialized_spec (findClass_of_methodNamed hnamed) hkP hini
  have hlen : As.length = methM.sig.parameters.length := by
    rw [hsigM] at hna
    exact hn.trans (Option.some.inj hna).symm
  obtain ⟨vm₁, X₁, hstep₁⟩ := X.invokestatic hx ho hl hnamed hmethM hstatic hkP hinitP hy (g := g) hg (argsL := As) (rest := rest) hlen hstack (by rw [hb]; exact hdg)
  obtain ⟨v, ⟨U', l2, c2, s2⟩, X', ⟨g', mk', t, Ls, e1, e2, hq, h1, hL, h2, h3⟩, hsteps⟩ := hK m meth c ⟨T.setVm vm₁, locs, cells, slots⟩ { g with stack := rest } (.invokestatic index) mk As.toArray X₁ hg (hsize.trans hml.symm) (by rw [hb]; exact hdg) hW (X₁.named hnamed) ⟨hf.1, hf.2, hp.2 (T.setVm vm₁) hT X₁.warmed⟩
  dsimp only [Pt.U, Pt.locs, Pt.cells, Pt.slots] at X' e1 e2 h1 h2 h3 hsteps
  subst h1; subst h2; subst h3
  exact ⟨v, (T.setVm vm₁).calling g' mk' As.toArray, t, U', Ls, hT, X', hL, e1, e2, hq, fun target h => hstep₁ _ fun acts => by rw [doInvoke_state]; exact hsteps.trans h⟩
set_option maxHeartbeats 2000000 in
/-- a call of a method that returns -/
theorem ai_call_W {M' : ai_M} {kd mi na ci x pc : Nat} {lv : ai_L} {st : List Value} {S S' : ai_S} {v : Option Value} {as : List Value} {rest : List Value} {i : Instr}
    (X : ai_X p s m args meth c M) (hK : ai_K D dA s) (hKX : ai_KX b s) (hMT : M ∈ ai_MT) (hRm : ai_Fr M ≤ R.frames ∧ ai_Lc M ≤ R.locals) (hb0 : b ≤ s.heap.size) (hs0 : s.heap.size ≤ b + k0) (hk : k0 ≤ S.2.1) (hsl : s0 ≤ S.2.2.1) (hle : ai_le S S') (hR : S'.2.1 - k0 ≤ R.cells ∧ S'.2.2.1 - s0 ≤ R.slots)
    (ht : ai_mth (ai_oi M) x = some (kd, mi, na, ci)) (hM' : ai_MT[mi]? = some M') (hMet : ai_Met l D dA sc b M' as S v S') (hi : (i = .invokevirtual x ∧ (kd = 0 ∨ kd = 1)) ∨ (i = .invokestatic x ∧ (kd = 2 ∨ kd = 3 ∨ kd = 6)) ∨ (i = .invokespecial x ∧ (kd = 4 ∨ kd = 5)))
    (hat : ai_at M pc = some (i, 3)) (hd : decode (ai_cc M) pc = .ok (i, 3)) (hna : na ≤ st.length) (hsum : ai_sum rest ≤ 8)
    (hst : ((kd = 2 ∨ kd = 3 ∨ kd = 6) ∧ as = (st.take na).reverse ∧ rest = st.drop na) ∨ (¬ (kd = 2 ∨ kd = 3 ∨ kd = 6) ∧ ∃ a fs, st.drop na = .ref a :: rest ∧ as = .ref a :: (st.take na).reverse ∧ ai_obj S a ci = some fs))
    (k : ai_G p l e R s m args below meth c Q D dA sc b k0 s0 M (pc + 3, lv, v.toList ++ rest, S')) : ai_G p l e R s m args below meth c Q D dA sc b k0 s0 M (pc, lv, st, S) := by
  obtain ⟨hx, hb, hml, hown, hts, -⟩ := X
  intro H ls locs hl hP hS
  refine ai_size fun hz => ?_
  have hMm : M' ∈ ai_MT := List.mem_of_getElem? hM'
  obtain ⟨hy, hna2, hini, h99, hkd⟩ := ai_mth_ok ht hM'
  obtain ⟨hrf, hrl⟩ := ai_room_ok hMT hat (by rcases hi with ⟨r, -⟩ | ⟨r, -⟩ | ⟨r, -⟩ <;> rw [r] <;> simp [ai_ivk]) ht hM'
  have hG := ai_goodM hMm h99
  have hf : (S.2.1 - k0) + (S'.2.1 - S.2.1) ≤ R.cells ∧ (S.2.2.1 - s0) + (S'.2.2.1 - S.2.2.1) ≤ R.slots := ⟨ai_ar2 hle.1 hk hR.1, ai_ar2 hle.2 hsl hR.2⟩
  have hRR : (ai_rm M' (S'.2.1 - S.2.1) (S'.2.2.1 - S.2.2.1)).frames + 1 ≤ R.frames ∧ 8 + (ai_nL M' + 11) + (ai_rm M' (S'.2.1 - S.2.1) (S'.2.2.1 - S.2.2.1)).locals ≤ R.locals := ⟨Nat.le_trans hrf hRm.1, ai_ar3 hrl hRm.2⟩
  have hpre : ∀ U : State, U.heap = H → s.WarmedH U.vm → ai_Pc D dA sc b as S ((as.map (ai_v sc b)).toArray) U := by
    intro U hU hW
    refine ⟨rfl, by rw [hU]; exact hP, by rw [hU]; exact Nat.le_trans hb0 hS.1, ?_, ai_K.warm hW hK, ai_KX.go (locs := locs) hW (by rw [hU]; exact hS) hKX⟩
    rw [hU]
    exact ai_ar4 hz hs0 hk
  have hrm : 2 * (F0 m pc ls (st.map (ai_v sc b))).monitorRoom + ((rest.map (ai_v sc b)).map fun v => v.category).sum ≤ 8 := lv_room (by rw [ai_sum_map]; exact hsum)
  have fin : va_Run p l e R s m args below meth c H locs (S.2.1 - k0) (S.2.2.1 - s0) (S'.2.1 - S.2.1) (S'.2.2.1 - S.2.2.1) (F0 m pc ls (st.map (ai_v sc b))) (rest.map (ai_v sc b)) (ai_Qr D dA sc b v S' ((as.map (ai_v sc b)).toArray)) (fun q => b ≤ q) → W p l e R s m args below meth c H locs (S.2.1 - k0) (S.2.2.1 - s0) Q (F0 m pc ls (st.map (ai_v sc b))) := by
    intro hr
    refine ai_ofRun hr hS (fun H1 locs1 hP1 hS1 => ?_)
    have := k H1 ls locs1 hl hP1 hS1
    have e1 : S'.2.1 - k0 = S.2.1 - k0 + (S'.2.1 - S.2.1) := ai_ar5 hle.1 hk
    have e2 : S'.2.2.1 - s0 = S.2.2.1 - s0 + (S'.2.2.1 - S.2.2.1) := ai_ar5 hle.2 hsl
    have e3 : (v.toList ++ rest).map (ai_v sc b) = (v.map (ai_v sc b)).toList ++ rest.map (ai_v sc b) := by cases v <;> rfl
    simp only [e1, e2, e3] at this
    exact this
  have hlen : ((st.take na).reverse.map (ai_v sc b)).length = na := by
    rw [List.length_map, List.length_reverse, List.length_take]
    exact Nat.min_eq_left hna
  rcases hst with ⟨hk23, rfl, rfl⟩ | ⟨hk23, a, fs, hdrop, rfl, hobj⟩
  · have hstk : st.map (ai_v sc b) = ((st.take na).reverse.map (ai_v sc b)).reverse ++ (st.drop na).map (ai_v sc b) := by
      rw [← List.map_reverse, List.reverse_reverse, ← List.map_append, List.take_append_drop]
    rcases hi with ⟨_, h1⟩ | ⟨rfl, h1⟩ | ⟨_, h1⟩
    · exact (ai_kd1 h1 hk23).elim
    · refine fin ?_
      rcases h1 with rfl | rfl | rfl
      · obtain ⟨hlk, hstt, hcw⟩ := hkd.2.2.1 rfl
        unfold ai_Met ai_wsM at hMet
        unfold ai_wsM at hG
        rw [hcw] at hMet hG
        exact va_runS ⟨hx, hb, hml, hown, hts⟩ hMet ⟨callB_of na hts hG rfl rfl rfl (hts _ hini) (hts _ hlk) ⟨hy.1, hy.2, hna2⟩ hRR, hts _ hstt⟩ ⟨ai_blind, hpre⟩ rfl hlen hl.1 hstk hrm hd hf
      · obtain ⟨hlk, hstt, hcw⟩ := hkd.2.2.2.1 rfl
        unfold ai_Met ai_wsM at hMet
        unfold ai_wsM at hG
        rw [hcw] at hMet hG
        exact va_runSN ⟨hx, hb, hml, hown, hts⟩ hMet ⟨va_cnB na hts hG rfl rfl rfl (hK.2.1 _ hlk) (hts _ hini) ⟨hy.1, hy.2, hna2⟩ hRR, hts _ hstt, trivial⟩ ⟨ai_blind, hpre⟩ rfl hlen hl.1 hstk hrm hd hf
      · obtain ⟨hlk, hstt, hh, hcw⟩ := hkd.2.2.2.2.2.2 rfl
        unfold ai_Met ai_wsM at hMet
        unfold ai_wsM at hG
        rw [hcw] at hMet hG
        exact ai_runSW ⟨hx, hb, hml, hown, hts⟩ hMet hG rfl rfl hRR (hts _ hini) hy hna2 (hts _ hlk) (hts _ hstt) ⟨ai_blind, hpre⟩ rfl hlen hl.1 hstk hrm hd hf
    · exact (ai_kd2 h1 hk23).elim
  · have hstk : st.map (ai_v sc b) = ((st.take na).reverse.map (ai_v sc b)).reverse ++ .ref (b + a) :: rest.map (ai_v sc b) := by
      conv => lhs; rw [← List.take_append_drop na st, hdrop]
      rw [List.map_append, ← List.map_reverse, List.reverse_reverse]
      rfl
    obtain ⟨g1, g2⟩ := ai_obj_inv hobj
    refine fin ?_
    rcases hi with ⟨rfl, h1⟩ | ⟨_, h1⟩ | ⟨rfl, h1⟩
    · rcases h1 with rfl | rfl
      · obtain ⟨hlk, hin, hse, hcw, T, N, hci⟩ := hkd.1 rfl
        unfold ai_Met ai_wsM at hMet
        unfold ai_wsM at hG
        rw [hcw] at hMet hG
        exact va_runV (C := (ai_y M').cls) ⟨hx, hb, hml, hown, hts⟩ hMet ⟨callB_of na hts hG rfl rfl rfl (hts _ hini) (hts _ hlk) ⟨hy.1, hy.2, hna2⟩ hRR, hts _ hin, hts _ hse⟩ ⟨ai_blind, va_recv hK.1 hP hci (ai_ws_at g1 g2), hpre⟩ rfl hlen hl.1 hstk hrm hd hf
      · obtain ⟨hlk, hin, hse, hcw, T, N, hci⟩ := hkd.2.1 rfl
        unfold ai_Met ai_wsM at hMet
        unfold ai_wsM at hG
        rw [hcw] at hMet hG
        exact va_runVN (C := (ai_y M').cls) ⟨hx, hb, hml, hown, hts⟩ hMet ⟨va_cnB na hts hG rfl rfl rfl (hK.2.1 _ hlk) (hts _ hini) ⟨hy.1, hy.2, hna2⟩ hRR, hts _ hin, hts _ hse⟩ ⟨ai_blind, va_recv hK.1 hP hci (ai_ws_at g1 g2), hpre⟩ rfl hlen hl.1 hstk hrm hd hf
    · exact absurd h1 hk23
    · rcases h1 with rfl | rfl
      · obtain ⟨hlk, hin, hnm, hcw⟩ := hkd.2.2.2.2.1 rfl
        unfold ai_Met ai_wsM at hMet
        unfold ai_wsM at hG
        rw [hcw] at hMet hG
        exact va_runI (b := b + a) ⟨hx, hb, hml, hown, hts⟩ hMet ⟨callB_of na hts hG rfl rfl rfl (hts _ hini) (hts _ hlk) ⟨hy.1, hy.2, hna2⟩ hRR, hnm, hts _ hin⟩ ⟨ai_blind, hpre⟩ rfl hlen hl.1 hstk hrm hd hf
      · obtain ⟨hlk, hin, hnm, hcw⟩ := hkd.2.2.2.2.2.1 rfl
        unfold ai_Met ai_wsM at hMet
        unfold ai_wsM at hG
        rw [hcw] at hMet hG
        exact va_runIN (b := b + a) ⟨hx, hb, hml, hown, hts⟩ hMet ⟨va_cnB na hts hG rfl rfl rfl (hK.2.1 _ hlk) (hts _ hini) ⟨hy.1, hy.2, hna2⟩ hRR, hnm, hts _ hin⟩ ⟨ai_blind, hpre⟩ rfl hlen hl.1 hstk hrm hd hf
end AIC
end
section
/-! Exceptions: 'throw new E("text")' in a method without handlers; its caller's handler. Launches without stack traces. -/
theorem ai_ar6 {a c r n : Nat} (h1 : c ≤ a) (h : a + n - c ≤ r) : a - c + n ≤ r := by omega
theorem ai_ar7 {a c n : Nat} (h1 : c ≤ a) : a - c + (0 + n) ≤ a + n - c := by omega
theorem ai_ar8 {f r : Nat} (h1 : 6 ≤ f) (h2 : f ≤ r) : 2 + 3 < r := by omega
theorem ai_ar9 {x y q r : Nat} (h1 : x + y ≤ 8) (h2 : 90 ≤ q) (h3 : q ≤ r) : x + (1 + y) + (13 * (2 + 1) + 42) ≤ r := by omega
section AIX
variable {p : Program} {l : Launch} {e : Env} {R : Room} {s : State} {m : MethodId} {args : Array Value} {below : List Frame} {meth : Method} {c : Code} {Q : State → Prop}
variable {D : va_G} {dA : Nat → ClassId} {sc b k0 s0 : Nat} {M : ai_M}
/-- the end of a method that has thrown an E -/
def ai_Qx (D : va_G) (dA : Nat → ClassId) (sc b : Nat) (E : String) (S : ai_S) (mc ms : Nat) : Array Value → State → Outcome → State → Prop := fun _ st oc t => ∃ (q : Addr) (ce : Cell) (Ls : List Loc), oc = .threw q ∧ t.heap[q]? = some ce ∧ ce.vm = .none ∧ st.vm.findClass E = some ce.cls ∧ st.WarmedH t.vm ∧ st.sameButNew ({ t with vm := st.vm } : State) Ls mc ms ∧ (∀ z ∈ Ls, b ≤ z.base) ∧ va_P D ai_cl (ai_W dA sc b S.1 S.2.2.2) t.heap ∧ va_F (fun q => b ≤ q) st t
def ai_MetX (l : Launch) (D : va_G) (dA : Nat → ClassId) (sc b : Nat) (M : ai_M) (as : List Value) (S : ai_S) (E : String) (S' : ai_S) : Prop :=
  MetFree l (ai_y M) (headSpec (ai_wsM M) (ai_rm M (S'.2.1 - S.2.1) (S'.2.2.1 - S.2.2.1))) (ai_Pc D dA sc b as S) (fun _ _ _ _ _ => True) (ai_Qx D dA sc b E S' (S'.2.1 - S.2.1) (S'.2.2.1 - S.2.2.1))
def ai_MQX (below : List Frame) (Qx : Array Value → State → Outcome → State → Prop) (a : Array Value) (s : State) : State → Prop := fun t => ∃ o, t.status = .running ∧ Ended t below o ∧ Qx a s o t
/-- the frame as if the method were entered now -/
theorem ai_rebase {T : State} {locs : List Loc} {cells slots : Nat} (X : Stand p l e R s m args below meth c T locs cells slots) (hc : cells + 1 ≤ R.cells) (hs : slots + 6 ≤ R.slots) :
    Stand p l e { frames := R.frames, locals := R.locals, cells := 1, slots := 6 } ((T.setVm s.vm).setFrames (.invoking m args :: below)) m args below meth c T [] 0 0 := by
  have htop : (T.setVm s.vm).topJava?.isSome := X.here.top
  have hF : ((T.setVm s.vm).setFrames (.invoking m args :: below)).frames = .invoking m args :: below := State.frames_setFrames _ (State.cur_lt_of_top htop)
  obtain ⟨g₀, hg0⟩ := Option.isSome_iff_exists.mp htop
  obtain ⟨r, hr⟩ := State.topJava?_eq_some.mp hg0
  have hl9 : e.platform.stackLimits (T.setVm s.vm).me = e.platform.stackLimits s.me := X.limits
  have hb9 : (T.setVm s.vm).me.stackBytes = s.me.stackBytes := X.bytes
  constructor
  · exact X.admits
  · exact X.cas
  · exact X.clock
  · exact hF
  · have h := X.room
    have hU : ((T.setVm s.vm).setFrames (.invoking m args :: below)).localsInUse = s.localsInUse := by
      rw [State.localsInUse_invoking hF (meth := meth) (c := c) X.method X.code, State.localsInUse_invoking X.frames X.method X.code]
    simp only [State.hasRoom, Bool.and_eq_true, decide_eq_true_eq] at h ⊢
    obtain ⟨⟨⟨⟨h1, h2, h3, h4, h5, h6⟩, h7⟩, h8⟩, h9⟩ := h
    rw [X.frames, List.length_cons] at h2 h3
    have q1 := X.heapSize
    have q2 := X.used
    have r1 : ((T.setVm s.vm).setFrames (.invoking m args :: below)).heap.size = T.heap.size := rfl
    have r2 : ((T.setVm s.vm).setFrames (.invoking m args :: below)).slotsUsed = T.slotsUsed := rfl
    simp only [hF, hU, List.length_cons, State.stackLimits_setFrames, State.stackBytes_setFrames, hl9, hb9, r1, r2]
    exact ⟨⟨⟨⟨h1, h2, h3, h4, h5, h6⟩, by omega⟩, by omega⟩, X.book⟩
  · exact X.hears
  · exact X.method
  · exact X.code
  · exact X.here
  · exact X.tail
  · exact X.warmed
  · rw [State.stackLimits_setFrames]; rfl
  · rw [State.stackBytes_setFrames]; rfl
  · have hz : T.heap.toList.drop T.heap.size = [] := List.drop_eq_nil_of_le (Nat.le_of_eq Array.length_toList)
    refine ⟨?_, Nat.le_refl _, Nat.le_refl _, ?_, ?_, fun a c9 h9 => ⟨c9, h9, rfl, rfl, fun _ _ => rfl⟩⟩
    · obtain ⟨t, ht, -⟩ := State.frames_cons hr
      show T.setVm s.vm = { ((T.setVm s.vm).setFrames (.invoking m args :: below)).setFrames (T.setVm s.vm).frames with heap := T.heap, slotsUsed := T.slotsUsed }
      rw [State.setFrames_setFrames, State.setFrames_self ht]
      rfl
    · show T.slotsUsed = T.slotsUsed + ((T.heap.toList.drop T.heap.size).map (·.slots.size)).sum
      rw [hz]
      rfl
    · show ((T.heap.toList.drop T.heap.size).map (·.slots.size)).sum ≤ 0
      rw [hz]
      exact Nat.le_refl _
/-- old cells that nobody wrote are as they were -/
theorem ai_kept {U : State} {L0 : List Loc} {k n : Nat} (h : s.sameButNew ({ U with vm := s.vm } : State) L0 k n) : s.heap.size ≤ U.heap.size ∧ ∀ q : Nat, q < s.heap.size → (∀ z ∈ L0, z.base ≠ q) → U.heap[q]? = s.heap[q]? := by
  obtain ⟨-, h2, -, -, -, h6⟩ := h
  refine ⟨h2, fun q hq hz => ?_⟩
  obtain ⟨c9, e1, e2, e3, e4⟩ := h6 q _ (Array.getElem?_eq_getElem hq)
  have hs : c9.slots = (s.heap[q]).slots := Array.ext_getElem? fun i => e4 i fun hm => hz _ hm rfl
  have h9 : c9 = s.heap[q] := by
    rw [hs] at e2
    exact e2
  have e5 : U.heap[q]? = some c9 := e1
  rw [e5, h9, Array.getElem?_eq_getElem hq]
set_option maxHeartbeats 2000000 in
theorem ai_thr_W {pc : Nat} {lv : ai_L} {st : List Value} {S : ai_S} {E : String} (X : ai_X p s m args meth c M) (hMT : M ∈ ai_MT) (hKX : ai_KX b s) (hlt : l.stackTraces = false) (hb0 : b ≤ s.heap.size) (hRm : ai_Fr M ≤ R.frames ∧ ai_Lc M ≤ R.locals) (hk : k0 ≤ S.2.1) (hsl : s0 ≤ S.2.2.1) (hR : S.2.1 + 1 - k0 ≤ R.cells ∧ S.2.2.1 + 6 - s0 ≤ R.slots)
    (ht : ai_thr M pc = some E) (hsum : ai_sum st ≤ 8) : ai_G p l e R s m args below meth c (ai_MQX below (ai_Qx D dA sc b E (S.1, S.2.1 + 1, S.2.2.1 + 6, S.2.2.2) (S.2.1 + 1 - k0) (S.2.2.1 + 6 - s0)) args s) D dA sc b k0 s0 M (pc, lv, st, S) := by
  obtain ⟨hx, hb, hml, hown, hts, -, hlocks, -, hext⟩ := X
  obtain ⟨ik, is, ic, text, hfr, hlc, hex, h99, d0, d3, d4, d6, d9, hfit, hsup, htx, hwk, hwi, hca, hwa⟩ := ai_thr_ok hMT ht
  intro H ls locs hl hP hS T hT Y
  have hc1 : S.2.1 - k0 + 1 ≤ R.cells := ai_ar6 hk hR.1
  have hs1 : S.2.2.1 - s0 + 6 ≤ R.slots := ai_ar6 hsl hR.2
  have htr : e.platform.stackTraces = false := (show e.platform.stackTraces = l.stackTraces by rw [Y.admits.platform]).trans hlt
  have Y1 := ai_rebase Y hc1 hs1
  obtain ⟨s', hs'⟩ : ∃ z, z = (T.setVm s.vm).setFrames (.invoking m args :: below) := ⟨_, rfl⟩
  rw [← hs'] at Y1
  have hvm : s'.vm = s.vm := by rw [hs']; rfl
  have hhp : s'.heap = H := by rw [hs']; exact hT
  have hW0 : s.WarmedH s'.vm := by rw [hvm]; exact State.WarmedH.refl s
  have hw : ∀ w ∈ ai_ws, w.before args s' = true := fun w h => word_at hW0 (ai_good w h) (hts w h)
  have hX' : ai_KX b s' := ai_KX.go (locs := locs) hW0 (by rw [hhp]; exact hS) hKX
  have hat : ∀ w ∈ Bundle.ownAtoms (ai_own (ai_oi M)) ic E ai_sup, w.before args s' = true := by
    intro w h
    by_cases hn : ai_no E w = true
    · exact hw _ (hwa w (List.mem_filter.mpr ⟨h, hn⟩))
    · simp only [ai_no, decide_eq_true_eq, Classical.not_not] at hn
      simp only [ai_bad, List.mem_cons, List.not_mem_nil, or_false] at hn
      rcases hn with rfl | rfl | rfl | rfl | rfl | rfl | rfl | rfl
      · exact va_Nw.use rfl (hX'.2.2.2.2.1 E hca)
      · exact hX'.1.ref
      · exact hX'.2.1.ref
      · exact hX'.1.lays
      · exact hX'.2.1.lays
      · exact va_Nw.use rfl (hX'.2.2.2.2.2 _ (by simp [ai_dcL]))
      · exact va_Nw.use rfl (hX'.2.2.2.2.2 _ (by simp [ai_dcL]))
      · exact va_Nw.use rfl (hX'.2.2.2.2.2 _ (by simp [ai_dcL]))
  have hown' : s'.vm.findClass (ai_own (ai_oi M)) = some m.cls := by rw [hvm]; exact hown
  have hins : (Cond.instantiable E 6).before args s' = true := hat _ (by simp [Bundle.ownAtoms])
  obtain ⟨sa, hsa⟩ := hX'.2.2.1 _ htx
  have hout : ∀ x ∈ c.exceptionTable.toList, covers x (pc + 9) = false := by
    have h0 := hext h99
    rw [hex] at h0
    have : c.exceptionTable.toList = [] := List.map_eq_nil_iff.mp h0
    intro x hx
    rw [this] at hx
    cases hx
  obtain ⟨vm₁, cX, kX, hfX, hkX, -, -, X₁, st1⟩ := Y1.newCold hx (own := ai_own (ai_oi M)) (C := E) (index := ik) (n := 6) hown' (hw _ hwk) hins (hw _ hwi)
    (g := F0 m pc ls (st.map (ai_v sc b))) rfl (by rw [hb]; exact d0) (Nat.le_refl _) (Nat.le_refl _)
  generalize hT1 : (T.setVm vm₁).pushCell { cls := cX, slots := kX.instanceTypes.map defaultValue, vm := .none } = T1 at X₁ st1
  have hcat : (Value.ref T.heap.size).category = 1 := rfl
  have hcellA : T1.heap[T.heap.size]? = some (freshCell cX kX) := by rw [← hT1]; exact State.heap_pushCell_size _ _
  have d3' : decode c.code (pc + 3) = .ok (.dup, 1) := by rw [hb]; exact d3
  have d4' : decode c.code (pc + 4) = .ok (.ldc is, 2) := by rw [hb]; exact d4
  have hsumm := ai_sum_map (sc := sc) (b := b) st
  obtain ⟨U, hsteps, hrun, hend, hWU, hsame, ce, hce, hO⟩ := X₁.ctorThrowS hx htr (own := ai_own (ai_oi M)) (cls := E) (names := ai_sup) (ic := ic) hown' hfit hsup hat (fun x hx => nomatch hx) hfX hkX hcellA (by rw [hhp, hT]; exact Nat.le_refl _) (msg := .ref sa) rfl
    (g := { method := m, pc := pc + 6, locals := ls, stack := .ref sa :: .ref T.heap.size :: .ref T.heap.size :: st.map (ai_v sc b), locked := none }) rfl (by rw [hml]; exact hl.1) rfl rfl (rest := st.map (ai_v sc b)) rfl
    (by rw [hb]; exact d6) (by rw [hb]; exact d9) hout (ai_ar8 hfr hRm.1) (by
      have hm0 := lv_room (m := m) (pc := pc + 6) (ls := ls) (rest := .ref sa :: .ref T.heap.size :: .ref T.heap.size :: st.map (ai_v sc b)) (st := st.map (ai_v sc b)) (by rw [hsumm]; exact hsum)
      simp only [List.map_cons, List.sum_cons, hcat]
      exact ai_ar9 hm0 hlc hRm.2) hlocks
  obtain ⟨f1, f2⟩ := ai_kept hsame
  rw [hhp] at f1 f2
  have hWs : s.WarmedH U.vm := State.WarmedH.trans hW0 hWU
  have hcl : s.vm.findClass E = some ce.cls := by
    have h9 := hO.cls
    rw [hvm] at h9
    exact h9
  have hold : ∀ q : Nat, q < H.size → U.heap[q]? = H[q]? := fun q hq => f2 q hq (fun z hz => nomatch hz)
  have hall : s.sameButNew ({ U with vm := s.vm } : State) locs (S.2.1 + 1 - k0) (S.2.2.1 + 6 - s0) := by
    subst hs'
    obtain ⟨e1, e2⟩ := hsame
    rw [State.setFrames_setFrames] at e1
    have h2 : (T.setVm s.vm).sameButNew ({ U with vm := s.vm } : State) [] (0 + 1) (0 + 6) := ⟨e1, e2⟩
    have h3 := Y.same.trans h2
    rw [List.append_nil] at h3
    exact h3.mono (ai_ar7 hk) (ai_ar7 hsl)
  refine ⟨U, ?_, .threw T.heap.size, hrun, hend, T.heap.size, ce, locs, rfl, hce, hO.vm, hcl, hWs, hall, hS.2.2, ?_, ?_⟩
  · refine st1 _ ?_
    show Steps p.tables e below (T1.setTop { method := m, pc := pc + 3, locals := ls, stack := .ref T.heap.size :: st.map (ai_v sc b), locked := none }) _
    jvm_step X₁.here [X₁.here.top, hx, d3', Value.category]
    exact X₁.ldcString hx (own := ai_own (ai_oi M)) (text := text) (index := is) (a := sa) hown' hsa.1 hsa.2
      (g := { method := m, pc := pc + 4, locals := ls, stack := .ref T.heap.size :: .ref T.heap.size :: st.map (ai_v sc b), locked := none }) rfl d4' _ hsteps
  · exact hP.kept (fun k q hq => hold q.1 (hP k q hq).lt)
  · exact ⟨Nat.le_trans hS.1 f1, fun q h1 h2 => (hold q (Nat.lt_of_lt_of_le h1 hS.1)).trans (hS.2.1 q h1 h2)⟩
end AIX
end
section
/-! A call whose method throws, and the handler that takes it. -/
theorem ai_ar10 {x y n k q r : Nat} (h0 : x + y ≤ 8) (h1 : 19 + n + k ≤ q) (h2 : q ≤ r) : x + y + (n + 11) + k ≤ r := by omega
section AIH
variable {p : Program} {l : Launch} {e : Env} {R : Room} {s : State} {m : MethodId} {args : Array Value} {below : List Frame} {meth : Method} {c : Code} {Q : State → Prop}
variable {D : va_G} {dA : Nat → ClassId} {sc b k0 s0 : Nat} {M : ai_M}
/-- the search for a handler, what it finds and the tables that it leaves -/
def ai_Fd (e : Env) (s : State) (f : JFrame) (a : Addr) (h : Handler) (vm' : Vm) : Prop := ∀ (Q : Handler → Pre) (E : CtlPost) (d : Bool) (acts : List Action), wp (findHandler f a) Q E e d acts s ↔ Q h d acts (s.setVm vm')
/-- a row over the pc whose kind is linked: it takes the exception or passes it on -/
theorem ai_row {Q : Handler → Pre} {E : CtlPost} {d : Bool} {acts : List Action} {S : State} {f : JFrame} {a : Addr} {x : ExceptionTableEntry} {t : List ExceptionTableEntry} {cT : ClassId} {cell : Cell} (hx : covers x f.pc = true) (h0 : x.catchType ≠ 0)
    (hl : S.vm.ClassLinks e.platform f.method.cls x.catchType cT) (hcell : S.heap[a]? = some cell) (hobj : ∀ k, cell.vm ≠ .statics k) (hk : ∃ k, S.vm.classes[cell.cls]? = some k) (hc : ∃ k, S.vm.classes[cT]? = some k) :
    wp (findHandler.go f a (x :: t)) Q E e d acts S ↔ if S.vm.assignable cell.cls cT = true then Q (.found x.handlerPc) d acts (S.setVm (S.vm.noted f.method.cls x.catchType (.cls cT))) else wp (findHandler.go f a t) Q E e d acts (S.setVm (S.vm.noted f.method.cls x.catchType (.cls cT))) := by
  simp only [covers] at hx
  obtain ⟨ha, ht⟩ := (resolveClass_links e.toSetting hl).op (op := VmOp.resolveClass f.method.cls x.catchType) rfl
  have hal : S.vm.Alike (S.vm.noted f.method.cls x.catchType (.cls cT)) := (Vm.Alike.refl S.vm).noted _ _ _
  obtain ⟨k1, hk1⟩ := hk
  obtain ⟨k2, hk2⟩ := hc
  obtain ⟨k1', hk1', -⟩ := hal.2.2 _ _ hk1
  obtain ⟨k2', hk2', -⟩ := hal.2.2 _ _ hk2
  have hfit' : (S.vm.noted f.method.cls x.catchType (.cls cT)).assignable cell.cls cT = S.vm.assignable cell.cls cT := hal.assignable _ _
  cases hfit : S.vm.assignable cell.cls cT <;> rw [hfit] at hfit' <;>
    simp [findHandler.go, hx, h0, ha, ht, hcell, hobj, hk1', hk2', hfit', VmOp.dirties, VmOp.acts]
/-- the rows ahead pass, the row x takes it -/
theorem ai_rows {f : JFrame} {a : Addr} {cell : Cell} (hobj : ∀ k, cell.vm ≠ .statics k) (hk0 : ∃ k, s.vm.classes[cell.cls]? = some k) (hpl : e.platform.magicAccessors = ({} : Platform).magicAccessors) {own : String} (hown : s.vm.findClass own = some f.method.cls) (x : ExceptionTableEntry) (rest : List ExceptionTableEntry) (hx : covers x f.pc = true) (h0 : x.catchType ≠ 0) {nm : String} (hlk : (Cond.classLink own x.catchType nm).before args s = true) {cT : ClassId} (hcT : s.vm.findClass nm = some cT) (hfit : s.vm.assignable cell.cls cT = true) :
    ∀ (pre : List ExceptionTableEntry) (S : State), s.WarmedH S.vm → S.heap[a]? = some cell → (∀ z ∈ pre, covers z f.pc = false ∨ (z.catchType ≠ 0 ∧ ∃ nz cz, (Cond.classLink own z.catchType nz).before args s = true ∧ s.vm.findClass nz = some cz ∧ s.vm.assignable cell.cls cz = false)) →
      ∃ vm', s.WarmedH vm' ∧ ∀ (Q : Handler → Pre) (E : CtlPost) (d : Bool) (acts : List Action), wp (findHandler.go f a (pre ++ x :: rest)) Q E e d acts S ↔ Q (.found x.handlerPc) d acts (S.setVm vm') := by
  intro pre
  induction pre with
  | nil =>
    intro S hW hcell _
    obtain ⟨c', hc', hcl⟩ := Cond.classLink_spec hown hlk e.platform hpl
    cases hcT.symm.trans hc'
    obtain ⟨dk, _, _, kt, hd, _, _, _, _, hkt, _, hopen⟩ := hcl.here
    obtain ⟨k0, hk0⟩ := hk0
    obtain ⟨k0', hk0', -⟩ := hW.alike.2.2 _ _ hk0
    obtain ⟨kt', hkt', -⟩ := hW.alike.2.2 _ _ hkt
    refine ⟨_, hW.noted hd hopen (State.rightAt_cls hcl), fun Q E d acts => ?_⟩
    rw [List.nil_append, ai_row hx h0 (hW.classLinks hcl) hcell hobj ⟨k0', hk0'⟩ ⟨kt', hkt'⟩, if_pos (by rw [hW.alike.assignable]; exact hfit)]
  | cons y ys ih =>
    intro S hW hcell hpass
    have hrest := fun z (hz : z ∈ ys) => hpass z (List.mem_cons_of_mem _ hz)
    by_cases hcov : covers y f.pc = true
    · rcases hpass y List.mem_cons_self with h | ⟨hz0, nz, cz, hlz, hcz, hno⟩
      · rw [h] at hcov; cases hcov
      · obtain ⟨c', hc', hcl⟩ := Cond.classLink_spec hown hlz e.platform hpl
        cases hcz.symm.trans hc'
        obtain ⟨dk, _, _, kt, hd, _, _, _, _, hkt, _, hopen⟩ := hcl.here
        obtain ⟨k0, hk00⟩ := hk0
        obtain ⟨k0', hk0', -⟩ := hW.alike.2.2 _ _ hk00
        obtain ⟨kt', hkt', -⟩ := hW.alike.2.2 _ _ hkt
        obtain ⟨vm', hW', hq⟩ := ih (S.setVm (S.vm.noted f.method.cls y.catchType (.cls cz))) (hW.noted hd hopen (State.rightAt_cls hcl)) hcell hrest
        refine ⟨vm', hW', fun Q E d acts => ?_⟩
        rw [List.cons_append, ai_row hcov hz0 (hW.classLinks hcl) hcell hobj ⟨k0', hk0'⟩ ⟨kt', hkt'⟩, if_neg (by rw [hW.alike.assignable, hno]; simp)]
        exact hq Q E d acts
    · obtain ⟨vm', hW', hq⟩ := ih S hW hcell hrest
      refine ⟨vm', hW', fun Q E d acts => ?_⟩
      rw [List.cons_append, W.findHandler_go_skip (by simpa using hcov)]
      exact hq Q E d acts
/-- the step of the machine that takes it -/
theorem ai_caught {tb : Tables} {S target : State} {g : JFrame} {a : Addr} (h : At S g.method c below) {pc : Nat} {vm' : Vm} (hf : ai_Fd e ((S.setTop g).pushFrame (.throwing a)) g a (.found pc) vm') (hrest : Steps tb e below ((S.setVm vm').setTop { g with pc := pc, stack := [.ref a] }) target) :
    Steps tb e below ((S.setTop g).pushFrame (.throwing a)) target := by
  obtain ⟨hgo, hw⟩ := h.throwing a
  refine Steps.head hgo hw ?_
  have hstep : ∀ r, (stepThrowing e ((S.setTop g).pushFrame (.throwing a)) a (.java g :: r)).Is ((((S.setTop g).pushFrame (.throwing a)).setVm vm').setFrames (.java { g with pc := pc, stack := [.ref a] } :: r)) [] := by
    intro r
    simp only [stepThrowing, searchFrame, vmDo]
    generalize hr : Sem.go _ e false [] ((S.setTop g).pushFrame (.throwing a)) = res
    obtain ⟨as, rfl, ha⟩ := Sem.eq_ok_of hr (a := Handler.found pc) (s' := ((S.setTop g).pushFrame (.throwing a)).setVm vm') (acts' := []) (by simp [hf _ _ _ _])
    exact ⟨rfl, ha⟩
  rw [stepThread_throwing (frames_entered h.top _), (hstep _).1]
  obtain ⟨g₀, hg⟩ := Option.isSome_iff_exists.mp h.top
  obtain ⟨r, hr⟩ := State.topJava?_eq_some.mp hg
  have hr' : (S.setVm vm').frames = .java g₀ :: r := hr
  rw [State.setTop_of_frames _ hr'] at hrest
  have hmv : ∀ (u : State) (F G : List Frame), ((u.setFrames F).setVm vm').setFrames G = (u.setVm vm').setFrames G := by
    intro u F G
    have h1 : (u.setFrames F).setVm vm' = (u.setVm vm').setFrames F := rfl
    rw [h1, State.setFrames_setFrames]
  rw [hr, List.tail_cons, State.pushFrame, hmv, State.setTop_of_frames _ hr, hmv]
  exact hrest
set_option maxHeartbeats 4000000 in
theorem ai_callX_W {M' : ai_M} {mi na ci x pc hp : Nat} {lv : ai_L} {st : List Value} {S S' : ai_S} {E : String} {as rest : List Value} {kx : Fin 4}
    (X : ai_X p s m args meth c M) (hMT : M ∈ ai_MT) (hK : ai_K D dA s) (hKX : ai_KX b s) (hRm : ai_Fr M ≤ R.frames ∧ ai_Lc M ≤ R.locals) (hb0 : b ≤ s.heap.size) (hs0 : s.heap.size ≤ b + k0) (hk : k0 ≤ S.2.1) (hsl : s0 ≤ S.2.2.1) (hle : ai_le S S') (hR : S'.2.1 - k0 ≤ R.cells ∧ S'.2.2.1 - s0 ≤ R.slots)
    (ht : ai_mth (ai_oi M) x = some (0, mi, na, ci)) (hM' : ai_MT[mi]? = some M') (hMet : ai_MetX l D dA sc b M' as S E S')
    (hat : ai_at M pc = some (.invokevirtual x, 3)) (hd : decode (ai_cc M) pc = .ok (.invokevirtual x, 3)) (hna : na ≤ st.length) (hsum : ai_sum rest ≤ 8) (hst : ∃ a fs, st.drop na = .ref a :: rest ∧ as = .ref a :: (st.take na).reverse ∧ ai_obj S a ci = some fs)
    (hh : ai_hand M pc E = some hp) (hka : ai_at M hp = some (.astore_n kx, 1)) (hkl : (kx : Nat) < lv.length) (hko : (kx : Nat) = 0 ∨ ai_isl (lv.getD ((kx : Nat) - 1) none) = false)
    (k : ai_G p l e R s m args below meth c Q D dA sc b k0 s0 M (hp + 1, lv.set kx none, [], S')) : ai_G p l e R s m args below meth c Q D dA sc b k0 s0 M (pc, lv, st, S) := by
  obtain ⟨hx, hb, hml, hown, hts, -, -, -, hext⟩ := X
  intro H ls locs hl hP hS
  refine ai_size fun hz => ?_
  have hMm : M' ∈ ai_MT := List.mem_of_getElem? hM'
  obtain ⟨hy, hna2, hini, h99, hkd⟩ := ai_mth_ok ht hM'
  obtain ⟨hrf, hrl⟩ := ai_room_ok hMT hat rfl ht hM'
  obtain ⟨hlk, hin, hse, hcw, T0, N0, hci⟩ := hkd.1 rfl
  obtain ⟨a, fs, hdrop, rfl, hobj⟩ := hst
  obtain ⟨g1, g2⟩ := ai_obj_inv hobj
  have hG := ai_goodM hMm h99
  obtain ⟨cellB, hcB, hoB, hclB⟩ := va_recv hK.1 hP hci (ai_ws_at g1 g2)
  intro T hT Y
  -- the call
  obtain ⟨mk, methM, hnamed, hmethM, hstM, habM⟩ := Cond.instanceMethod_spec (hts _ hin)
  have hcode := hts _ (ai_code_in hMm h99)
  rw [hcw] at hcode
  obtain ⟨methM', cM, hmethM', hcM, -, hlM, -, -, -, hsigM⟩ := Cond.code_spec hnamed hcode
  cases hmethM.symm.trans hmethM'
  obtain ⟨c2, r2, m2, q1, q2, q3, q4, kP, hkP, hkPi⟩ := Cond.selects_spec (hts _ hse)
  cases hclB.symm.trans q1
  cases (State.methodFound?_of_named hnamed hy).symm.trans q2
  cases hnamed.symm.trans q3
  have hselP : selectMethod e.platform s.vm cellB.cls mk = .method mk := by rw [Launch.admits_selectMethod Y.admits]; exact q4
  have hlen : ((st.take na).reverse.map (ai_v sc b)).length = methM.sig.parameters.length := by
    rw [List.length_map, List.length_reverse, List.length_take]
    have h2 := hna2
    rw [hsigM] at h2
    exact (Nat.min_eq_left hna).trans (Option.some.inj h2).symm
  have hstk : st.map (ai_v sc b) = ((st.take na).reverse.map (ai_v sc b)).reverse ++ .ref (b + a) :: rest.map (ai_v sc b) := by
    conv => lhs; rw [← List.take_append_drop na st, hdrop]
    rw [List.map_append, ← List.map_reverse, List.reverse_reverse]
    rfl
  obtain ⟨vm₁, Y₁, hstep₁⟩ := Y.invokevirtual hx hown (hts _ hlk) hnamed hmethM hstM hkP hkPi hy (a := b + a) (cell := cellB) (by rw [hT]; exact hcB)
    (fun z h => by rw [h] at hoB; cases hoB) hselP hmethM habM hkP hkPi (g := F0 m pc ls (st.map (ai_v sc b))) rfl (argsL := (st.take na).reverse.map (ai_v sc b)) (rest := rest.map (ai_v sc b)) hlen hstk (by rw [hb]; exact hd)
  -- its run
  obtain ⟨g, hgdef⟩ : ∃ z, z = F0 m pc ls (rest.map (ai_v sc b)) := ⟨_, rfl⟩
  have hgm : g.method = m := by rw [hgdef]
  have hn₁ := Y₁.named hnamed
  have hdg : decode c.code g.pc = .ok (.invokevirtual x, 3) := by rw [hb, hgdef]; exact hd
  have hpay := pay_in (big := ai_ws) (ws := ai_wsM M') hts hG
  have h1 : (headSpec (ai_wsM M') (ai_rm M' (S'.2.1 - S.2.1) (S'.2.2.1 - S.2.2.1))).pre.before ((Value.ref a :: (st.take na).reverse).map (ai_v sc b)).toArray (T.setVm vm₁) = true := atoms_intro fun w hw => hpay w hw _ _ Y₁.warmed
  obtain ⟨kY, hkY, -⟩ := className_of_methodNamed hn₁
  have h3 : (Cond.initialized (ai_y M').cls).before (#[] : Array Value) (T.setVm vm₁) = true := word_at Y₁.warmed (ai_good _ hini) (hts _ hini)
  have hinitY : kY.init = .initialized := Cond.initialized_spec (findClass_of_methodNamed hn₁) hkY h3
  have h2 : (Cond.code (ai_y M') (ai_cc M') (ai_nL M') (ai_ret M')).before (#[] : Array Value) (T.setVm vm₁) = true := by
    have := hpay (ai_cw M') List.mem_cons_self (#[] : Array Value) (T.setVm vm₁) Y₁.warmed
    rw [hcw] at this
    exact this
  obtain ⟨methY, cY, hmY, hcY, -, hlY, -, -, -, -⟩ := Cond.code_spec hn₁ h2
  have hAt : At (T.setVm vm₁) g.method c below := by rw [hgm]; exact Y₁.here
  have hsize : g.locals.size = c.maxLocals := by rw [hgdef, hml]; exact hl.1
  have hmon := lv_room (m := m) (pc := pc) (ls := ls) (rest := rest.map (ai_v sc b)) (st := rest.map (ai_v sc b)) (by rw [ai_sum_map]; exact hsum)
  have happ : (headSpec (ai_wsM M') (ai_rm M' (S'.2.1 - S.2.1) (S'.2.2.1 - S.2.2.1))).appliesLoose (ai_y M') e.platform ((T.setVm vm₁).calling g mk ((Value.ref a :: (st.take na).reverse).map (ai_v sc b)).toArray) = true :=
    Spec.appliesLoose_calling (g := g) hAt hdg hn₁ hkY hinitY
      (Y₁.room_calling (g := g) (R' := ai_rm M' (S'.2.1 - S.2.1) (S'.2.2.1 - S.2.2.1)) hsize hmY hcY (Nat.le_trans hrf hRm.1) (by
        rw [hlY, hgdef]
        show 2 * (F0 m pc ls (rest.map (ai_v sc b))).monitorRoom + ((rest.map (ai_v sc b)).map fun v => v.category).sum + (ai_nL M' + 11) + ai_Lc M' ≤ R.locals
        exact ai_ar10 hmon hrl hRm.2) (ai_ar2 hle.1 hk hR.1) (ai_ar2 hle.2 hsl hR.2)) h1
  have hPc : ai_Pc D dA sc b (.ref a :: (st.take na).reverse) S ((Value.ref a :: (st.take na).reverse).map (ai_v sc b)).toArray ((T.setVm vm₁).calling g mk ((Value.ref a :: (st.take na).reverse).map (ai_v sc b)).toArray) := by
    refine ai_blind _ _ _ _ ⟨rfl, ?_, ?_, ?_, ai_K.warm Y₁.warmed hK, ai_KX.go (locs := locs) Y₁.warmed (by show va_S _ s.heap T.heap locs; rw [hT]; exact hS) hKX⟩
    · show va_P D ai_cl _ T.heap
      rw [hT]; exact hP
    · show b ≤ T.heap.size
      rw [hT]; exact Nat.le_trans hb0 hS.1
    · show T.heap.size ≤ b + S.2.1
      rw [hT]; exact ai_ar4 hz hs0 hk
  obtain ⟨mid, hmid⟩ := hAt.above
  have hfr : ((T.setVm vm₁).setTop g).frames = (.java g :: mid) ++ below := by rw [State.frames_setTop' g hAt.top, hmid]; rfl
  obtain ⟨o, s₂, hsteps, -, hend, hq⟩ := Steps.callFree hMet p Y₁.admits Y₁.cas Y₁.clock (acts := []) hfr happ hPc trivial
  have hq : ai_Qx D dA sc b E S' (S'.2.1 - S.2.1) (S'.2.2.1 - S.2.2.1) ((Value.ref a :: (st.take na).reverse).map (ai_v sc b)).toArray ((T.setVm vm₁).calling g mk ((Value.ref a :: (st.take na).reverse).map (ai_v sc b)).toArray) o s₂ := hq
  obtain ⟨q, ce, Ls, rfl, hce, hcv, hcE, hW₂, hsm, hL, hP2, hF2⟩ := hq
  rw [State.frames_setTop' g hAt.top] at hend
  obtain ⟨g₀, hg0⟩ := Option.isSome_iff_exists.mp hAt.top
  obtain ⟨r, hr⟩ := State.topJava?_eq_some.mp hg0
  have hr' : (({ T.setVm vm₁ with heap := s₂.heap, slotsUsed := s₂.slotsUsed } : State).setVm s₂.vm).frames = .java g₀ :: r := hr
  obtain ⟨e2, u2, u3, u4, u5, u6⟩ := id hsm
  have e3 : s₂ = ({ ((T.setVm vm₁).calling g mk ((Value.ref a :: (st.take na).reverse).map (ai_v sc b)).toArray).setFrames s₂.frames with heap := s₂.heap, slotsUsed := s₂.slotsUsed } : State).setVm s₂.vm := by
    have : s₂ = ({ s₂ with vm := ((T.setVm vm₁).calling g mk ((Value.ref a :: (st.take na).reverse).map (ai_v sc b)).toArray).vm } : State).setVm s₂.vm := rfl
    rw [e2] at this
    exact this
  have hf₂ : s₂.frames = .throwing q :: .java g :: (T.setVm vm₁).frames.tail := hend
  have hW' : (T.setVm vm₁).WarmedH s₂.vm := hW₂
  obtain ⟨B, hB⟩ : ∃ z, z = (({ T.setVm vm₁ with heap := s₂.heap, slotsUsed := s₂.slotsUsed } : State).setVm s₂.vm) := ⟨_, rfl⟩
  have hs₂ : s₂ = (B.setTop g).pushFrame (.throwing q) := by
    rw [hB]
    refine e3.trans ?_
    rw [hf₂, State.calling_eq hAt.top, State.setFrames_setFrames, State.pushFrame, State.frames_setTop _ hr', State.setTop_of_frames _ hr', State.setFrames_setFrames, hr]
    rfl
  have hsame : (T.setVm vm₁).sameButNew ({ T.setVm vm₁ with heap := s₂.heap, slotsUsed := s₂.slotsUsed } : State) Ls (S'.2.1 - S.2.1) (S'.2.2.1 - S.2.2.1) := by
    refine ⟨?_, u2, u3, u4, u5, u6⟩
    obtain ⟨t, ht, -⟩ := State.frames_cons hr
    show ({ T.setVm vm₁ with heap := s₂.heap, slotsUsed := s₂.slotsUsed } : State) = { (T.setVm vm₁).setFrames (T.setVm vm₁).frames with heap := s₂.heap, slotsUsed := s₂.slotsUsed }
    rw [State.setFrames_self ht]
  have YB : Stand p l e R s m args below meth c B (locs ++ Ls) (S.2.1 - k0 + (S'.2.1 - S.2.1)) (S.2.2.1 - s0 + (S'.2.2.1 - S.2.2.1)) := by
    rw [hB]
    exact ⟨Y₁.admits, Y₁.cas, Y₁.clock, Y₁.frames, Y₁.room, Y₁.hears, Y₁.method, Y₁.code, (Y₁.here.setHeapUsed s₂.heap s₂.slotsUsed).setVm hW'.alike, Y₁.tail, State.WarmedH.trans Y₁.warmed hW', Y₁.limits, Y₁.bytes, Y₁.same.trans (hsame.setVm s.vm)⟩
  have hBh : B.heap = s₂.heap := by rw [hB]; rfl
  -- the handler
  have hEs : s.vm.findClass E = some ce.cls := by
    have h9 : (T.setVm vm₁).vm.findClass E = some ce.cls := hcE
    rw [← Y₁.warmed.alike.findClass]
    exact h9
  obtain ⟨pre, xr, suf, hspl, hxh, hxc, hxn, hpre⟩ := ai_hand_ok hh
  have hex := hext (by intro h9; rw [ai_law_ex hMT h9] at hspl; cases pre <;> cases hspl)
  rw [hspl] at hex
  obtain ⟨preE, rstE, hs1, hp1, hr1'⟩ := List.map_eq_append_iff.mp (hex.trans (List.map_append ..))
  obtain ⟨xE, sufE, hs2, hx1, -⟩ := List.map_eq_cons_iff.mp hr1'
  rw [hs2] at hs1
  have hrow := ai_row_ok hMT (z := xr) (by rw [hspl]; simp)
  simp only [Prod.mk.injEq] at hx1
  obtain ⟨hx1a, hx1b, hx1c, hx1d⟩ := hx1
  have hcov : covers xE g.pc = true := by
    simp only [covers, hx1a, hx1b, hgdef]
    simpa using hxc
  obtain ⟨c3, c4, hc3, hc4, hasg⟩ := Cond.castable_spec (va_Nw.use (A := args) rfl (hKX.2.2.2.2.1 _ hrow.2.2))
  rw [hxn] at hc3 hc4
  cases Option.some.inj (hc3.symm.trans hEs)
  have hpl : e.platform.magicAccessors = ({} : Platform).magicAccessors := by rw [Y.admits.platform]
  have hkc : ∃ k, s.vm.classes[ce.cls]? = some k := by obtain ⟨k9, h9, -⟩ := Vm.findClass_spec hEs; exact ⟨k9, h9⟩
  obtain ⟨vm', hWv, hfind⟩ := ai_rows (s := s) (e := e) (args := args) (f := g) (a := q) (cell := ce) (fun k h => by rw [hcv] at h; cases h) hkc hpl (own := ai_own (ai_oi M)) (by rw [hgm]; exact hown) xE sufE hcov (by rw [hx1d]; exact hrow.1) (nm := E) (by rw [hx1d, ← hxn]; exact hts _ hrow.2.1) hc4 hasg preE ((B.setTop g).pushFrame (.throwing q)) YB.warmed (by show B.heap[q]? = some ce; rw [hBh]; exact hce) (fun z hz => by
      have hzm : (z.startPc, z.endPc, z.handlerPc, z.catchType) ∈ pre.map (fun h => (h.1, h.2.1, h.2.2.1, h.2.2.2.1)) := by rw [← hp1]; exact List.mem_map.mpr ⟨z, hz, rfl⟩
      obtain ⟨w, hw, hwe⟩ := List.mem_map.mp hzm
      simp only [Prod.mk.injEq] at hwe
      obtain ⟨e1, e2', e3', e4⟩ := hwe
      by_cases hcz : covers z g.pc = true
      · refine Or.inr ?_
        have hwc : w.1 ≤ pc ∧ pc < w.2.1 := by
          simp only [covers, ← e1, ← e2', hgdef] at hcz
          simpa using hcz
        have hwn : w.2.2.2.2 ≠ E := fun h9 => hpre w hw ⟨hwc.1, hwc.2, h9⟩
        have hroww := ai_row_ok hMT (z := w) (by rw [hspl]; exact List.mem_append_left _ hw)
        have hnc := ai_pass_ok hMT hspl hw (by rw [hxn]; exact hwn)
        rw [hxn] at hnc
        obtain ⟨ca, cb, n1, n2, n3⟩ := hKX.2.2.2.1 _ hnc
        cases Option.some.inj (n1.symm.trans hEs)
        exact ⟨by rw [← e4]; exact hroww.1, w.2.2.2.2, cb, by rw [← e4]; exact hts _ hroww.2.1, n2, n3⟩
      · exact Or.inl (by simpa using hcz))
  have hFd : ai_Fd e ((B.setTop g).pushFrame (.throwing q)) g q (.found xE.handlerPc) vm' := by
    intro Q E d acts
    rw [W.findHandler_eq (meth := meth) (code := c) (by rw [hgm]; exact YB.method') YB.code, hs1]
    exact hfind Q E d acts
  have hdk := ai_dec hMT hka
  have hlen1 : decode (ai_cc M) hp = .ok (.astore_n kx, 1) := hdk.1
  have hn : lv.length = ai_nL M := hl.2.2.1
  have hWk : W p l e R s m args below meth c s₂.heap (locs ++ Ls) (S'.2.1 - k0) (S'.2.2.1 - s0) Q (F0 m hp ls [.ref q]) := by
    refine lv_astore_n hx hb hlen1 rfl hl.has (Nat.lt_of_lt_of_eq hkl hn) rfl (fun ls' hl' => k s₂.heap ls' (locs ++ Ls) (ai_LH.st hn (Nat.lt_of_lt_of_eq hkl hn) hko (fun v hv => by cases hv) hl') hP2 ⟨?_, ?_, ?_⟩)
    · have h9 : T.heap.size ≤ s₂.heap.size := hF2.1
      rw [hT] at h9
      exact Nat.le_trans hS.1 h9
    · intro z h8 h9
      have h7 : s₂.heap[z]? = T.heap[z]? := hF2.2 z (by show z < T.heap.size; rw [hT]; exact Nat.lt_of_lt_of_le h8 hS.1) h9
      rw [h7, hT]
      exact hS.2.1 z h8 h9
    · intro z hz
      rcases List.mem_append.mp hz with h | h
      · exact hS.2.2 z h
      · exact hL z h
  have YV := YB.noted hWv
  have e1 : S.2.1 - k0 + (S'.2.1 - S.2.1) = S'.2.1 - k0 := (ai_ar5 hle.1 hk).symm
  have e2' : S.2.2.1 - s0 + (S'.2.2.1 - S.2.2.1) = S'.2.2.1 - s0 := (ai_ar5 hle.2 hsl).symm
  rw [e1, e2'] at YV
  obtain ⟨t, a1, b1⟩ := hWk (B.setVm vm') hBh YV
  refine ⟨t, ?_, b1⟩
  refine hstep₁ _ fun acts => ?_
  rw [doInvoke_state]
  have hgst : ({ F0 m pc ls (st.map (ai_v sc b)) with stack := rest.map (ai_v sc b) } : JFrame) = g := hgdef.symm
  have hsteps' : Steps p.tables e below (doInvoke e ((T.setVm vm₁).setTop g) [] mk ((Value.ref a :: (st.take na).reverse).map (ai_v sc b)).toArray).1 s₂ := hsteps
  refine Steps.trans (show Steps p.tables e below (doInvoke e ((T.setVm vm₁).setTop { F0 m pc ls (st.map (ai_v sc b)) with stack := rest.map (ai_v sc b) }) [] mk (Value.ref (b + a) :: (st.take na).reverse.map (ai_v sc b)).toArray).1 s₂ by rw [hgst]; exact hsteps') ?_
  rw [hs₂]
  refine ai_caught (c := c) (by rw [hgm]; exact YB.here) hFd ?_
  have hfin : ({ g with pc := xE.handlerPc, stack := [.ref q] } : JFrame) = F0 m hp ls [.ref q] := by rw [hgdef, hx1c, hxh]
  rw [hfin]
  exact a1
end AIH
end
section
/-! Every run of the abstract machine is one of the real machine. -/
theorem ai_ar11 {a b c r : Nat} (h1 : a ≤ b) (h : b - c ≤ r) : a - c ≤ r := by omega
theorem ai_ar12 {x y q r : Nat} (h1 : x + y ≤ 8) (h2 : 20 ≤ q) (h3 : q ≤ r) : x + y + 12 ≤ r := by omega
theorem ai_ar13 {x y q r : Nat} (h1 : x ≤ 8) (h0 : y = 18) (h2 : 26 ≤ q) (h3 : q ≤ r) : x + y ≤ r := by omega
section AIM
variable {p : Program} {l : Launch} {e : Env} {R : Room} {s : State} {m : MethodId} {args : Array Value} {below : List Frame} {meth : Method} {c : Code} {Q : State → Prop}
variable {D : va_G} {dA : Nat → ClassId} {sc b k0 s0 : Nat} {M : ai_M} {L : Nat} {xs : Nat → Int32}
/-- the method comes to that end -/
def ai_Ct (l : Launch) (D : va_G) (dA : Nat → ClassId) (sc b : Nat) (M : ai_M) (as : List Value) (S : ai_S) (o : ai_O) : Prop := match o.1 with
  | .inl v => ai_Met l D dA sc b M as S v o.2
  | .inr E => ai_MetX l D dA sc b M as S E o.2
theorem ai_to_ok {pc : Nat} {off : Int} (h : 0 ≤ (pc : Int) + off) : (pc : Int) + off = ((ai_to pc off : Nat) : Int) := by
  unfold ai_to
  omega
theorem ai_inv_W {d x : Nat} {F : ai_F} {go : ai_F → Prop} {ks : List Nat} {i : Instr} {o : ai_O} (X : ai_X p s m args meth c M) (hMT : M ∈ ai_MT) (hK : ai_K D dA s) (hKX : ai_KX b s) (hRm : ai_Fr M ≤ R.frames ∧ ai_Lc M ≤ R.locals) (hb0 : b ≤ s.heap.size) (hs0 : s.heap.size ≤ b + k0) (hk : k0 ≤ F.2.2.2.2.1) (hsl : s0 ≤ F.2.2.2.2.2.1) (hR : o.2.2.1 - k0 ≤ R.cells ∧ o.2.2.2.1 - s0 ≤ R.slots)
    (hrun : ∀ mi as S o, ai_run L xs d mi as S o → ∃ M', ai_MT[mi]? = some M' ∧ ai_Ct l D dA sc b M' as S o)
    (hi : (i = .invokevirtual x ∧ ks = [0, 1]) ∨ (i = .invokestatic x ∧ ks = [2, 3, 6]) ∨ (i = .invokespecial x ∧ ks = [4, 5])) (hat : ai_at M F.1 = some (i, 3)) (hd : decode (ai_cc M) F.1 = .ok (i, 3))
    (h : ai_inv (fun mi as S Q => ∃ o, ai_run L xs d mi as S o ∧ Q o) M go ks x F) (hgo : ∀ G, go G → ai_le F.2.2.2 G.2.2.2 → ai_le G.2.2.2 o.2 ∧ ai_G p l e R s m args below meth c Q D dA sc b k0 s0 M G) : ai_G p l e R s m args below meth c Q D dA sc b k0 s0 M F := by
  obtain ⟨pc, lv, st, S⟩ := F
  unfold ai_inv at h
  cases he : ai_mth (ai_oi M) x with
  | none => rw [he] at h; exact h.elim
  | some q =>
    obtain ⟨kd, mi, na, ci⟩ := q
    rw [he] at h
    simp only at h
    obtain ⟨h1, h2⟩ := h
    have hi' : (i = .invokevirtual x ∧ (kd = 0 ∨ kd = 1)) ∨ (i = .invokestatic x ∧ (kd = 2 ∨ kd = 3 ∨ kd = 6)) ∨ (i = .invokespecial x ∧ (kd = 4 ∨ kd = 5)) := by
      rcases hi with ⟨r1, rfl⟩ | ⟨r1, rfl⟩ | ⟨r1, rfl⟩ <;> simp only [List.mem_cons, List.not_mem_nil, or_false] at h1
      · exact Or.inl ⟨r1, h1⟩
      · exact Or.inr (Or.inl ⟨r1, h1⟩)
      · exact Or.inr (Or.inr ⟨r1, h1⟩)
    have key : ∀ (as rest : List Value) (o' : ai_O), ai_run L xs d mi as S o' → na ≤ st.length → ai_sum rest ≤ 8 → (((kd = 2 ∨ kd = 3 ∨ kd = 6) ∧ as = (st.take na).reverse ∧ rest = st.drop na) ∨ (¬ (kd = 2 ∨ kd = 3 ∨ kd = 6) ∧ ∃ a fs, st.drop na = .ref a :: rest ∧ as = .ref a :: (st.take na).reverse ∧ ai_obj S a ci = some fs)) → ai_back M go kd pc lv rest o' → ai_G p l e R s m args below meth c Q D dA sc b k0 s0 M (pc, lv, st, S) := by
      intro as rest o' hr hna hsum hst hback
      obtain ⟨M', hM', hct⟩ := hrun _ _ _ _ hr
      have hle := ai_run_le _ _ _ _ hr
      obtain ⟨r, S'⟩ := o'
      cases r with
      | inl v =>
        obtain ⟨g1, g2⟩ := hgo _ hback hle
        exact ai_call_W X hK hKX hMT hRm hb0 hs0 hk hsl hle ⟨ai_ar11 g1.1 hR.1, ai_ar11 g1.2 hR.2⟩ he hM' hct hi' hat hd hna hsum hst g2
      | inr E =>
        simp only [ai_back] at hback
        obtain ⟨hkd, hback⟩ := hback
        cases hh : ai_hand M pc E with
        | none => rw [hh] at hback; exact hback.elim
        | some hp =>
          rw [hh] at hback
          simp only at hback
          split at hback
          · rename_i kx hka
            obtain ⟨g1, g2⟩ := hgo _ hback.2.2 hle
            have hst' : ∃ a fs, st.drop na = .ref a :: rest ∧ as = .ref a :: (st.take na).reverse ∧ ai_obj S a ci = some fs := by
              rcases hst with ⟨hz, -⟩ | ⟨-, hz⟩
              · exact (ai_kd1 (Or.inl hkd) hz).elim
              · exact hz
            have hiv : i = .invokevirtual x := by
              rcases hi' with ⟨hz, -⟩ | ⟨-, hz⟩ | ⟨-, hz⟩
              · exact hz
              · exact (ai_kd1 (Or.inl hkd) hz).elim
              · rw [hkd] at hz; simp at hz
            subst hkd
            rw [hiv] at hd hat
            exact ai_callX_W X hMT hK hKX hRm hb0 hs0 hk hsl hle ⟨ai_ar11 g1.1 hR.1, ai_ar11 g1.2 hR.2⟩ he hM' hct hat hd hna hsum hst' hh hka hback.1 hback.2.1 g2
          · exact hback.elim
    by_cases hk23 : kd = 2 ∨ kd = 3 ∨ kd = 6
    · rw [if_pos hk23] at h2
      obtain ⟨g1, g2, o', g3, g4⟩ := h2
      exact key _ _ o' g3 g1 g2 (Or.inl ⟨hk23, rfl, rfl⟩) g4
    · rw [if_neg hk23] at h2
      split at h2
      · rename_i a rest hs
        obtain ⟨g1, g2, ⟨fs, g5⟩, o', g3, g4⟩ := h2
        exact key _ _ o' g3 g1 g2 (Or.inr ⟨hk23, a, fs, hs, rfl, g5⟩) g4
      · exact h2.elim
set_option maxHeartbeats 4000000 in
theorem ai_one_W {d : Nat} {F : ai_F} {go : ai_F → Prop} {Qe : ai_O → Prop} {o : ai_O} (X : ai_X p s m args meth c M) (hMT : M ∈ ai_MT) (hK : ai_K D dA s) (hKX : ai_KX b s) (hX : ai_oi M = 99 → va_X sc L xs s s.heap ∧ sc < s.heap.size ∧ sc < b) (hRm : ai_Fr M ≤ R.frames ∧ ai_Lc M ≤ R.locals) (hb0 : b ≤ s.heap.size) (hs0 : s.heap.size ≤ b + k0) (hk : k0 ≤ F.2.2.2.2.1) (hsl : s0 ≤ F.2.2.2.2.2.1) (hR : o.2.2.1 - k0 ≤ R.cells ∧ o.2.2.2.1 - s0 ≤ R.slots)
    (hrun : ∀ mi as S o, ai_run L xs d mi as S o → ∃ M', ai_MT[mi]? = some M' ∧ ai_Ct l D dA sc b M' as S o)
    (hret : ∀ v : Int32, decode (ai_cc M) F.1 = .ok (.ireturn, 1) → F.2.2.1 = [.int v] → (∃ ty, ai_ret M = some ty ∧ narrow ty (.int v) = .int v) → Qe (ai_ok (some (.int v)) F.2.2.2) → ai_G p l e R s m args below meth c Q D dA sc b k0 s0 M F)
    (hvret : decode (ai_cc M) F.1 = .ok (.return_, 1) → F.2.2.1 = [] → ai_ret M = none → Qe (ai_ok none F.2.2.2) → ai_G p l e R s m args below meth c Q D dA sc b k0 s0 M F)
    (hthr : ∀ E, ai_thr M F.1 = some E → ai_sum F.2.2.1 ≤ 8 → Qe (.inr E, (F.2.2.2.1, F.2.2.2.2.1 + 1, F.2.2.2.2.2.1 + 6, F.2.2.2.2.2.2)) → ai_G p l e R s m args below meth c Q D dA sc b k0 s0 M F)
    (h : ai_one L xs M (fun mi as S Q => ∃ o, ai_run L xs d mi as S o ∧ Q o) go Qe F) (hgo : ∀ G, go G → ai_le F.2.2.2 G.2.2.2 → ai_le G.2.2.2 o.2 ∧ ai_G p l e R s m args below meth c Q D dA sc b k0 s0 M G) : ai_G p l e R s m args below meth c Q D dA sc b k0 s0 M F := by
  have X0 := X
  obtain ⟨hx, hb, hml, hown, hts, -⟩ := X
  unfold ai_one at h
  cases ha : ai_at M F.1 with
  | none => rw [ha] at h; exact h.elim
  | some q =>
    obtain ⟨i, len⟩ := q
    rw [ha] at h
    have hdd := ai_dec hMT ha
    have hd : decode (ai_cc M) F.1 = .ok (i, len) := hdd.1
    have hlen := hdd.2
    obtain ⟨pc, lv, st, S⟩ := F
    cases i
    case goto off =>
      have hl3 : len = 3 := hlen.1 (by intro a b c d h; cases h)
      subst hl3
      have hto := hlen.2.1 off rfl
      intro H ls locs hl hP hS
      exact lv_goto hx hb hd (ai_to_ok hto) ((hgo _ h (ai_le.rf _)).2 H ls locs hl hP hS)
    case ifCond cd off =>
      have hl3 : len = 3 := hlen.1 (by intro a b c d h; cases h)
      subst hl3
      have hto := hlen.2.2.1 cd off rfl
      simp only at h
      split at h
      · rename_i x r
        intro H ls locs hl hP hS
        have kt := fun z => (hgo _ (h.1 z) (ai_le.rf _)).2 H ls locs hl hP hS
        have kf := fun z => (hgo _ (h.2 z) (ai_le.rf _)).2 H ls locs hl hP hS
        cases cd with
        | eq => exact lv_if_eq hx hb hd (ai_to_ok hto) kt kf
        | ne => exact lv_if_ne hx hb hd (ai_to_ok hto) kt (fun z => kf (fun w => w z))
        | lt => exact lv_if_lt hx hb hd (ai_to_ok hto) kt kf
        | ge => exact lv_if_ge hx hb hd (ai_to_ok hto) kt kf
        | gt => exact lv_if_gt hx hb hd (ai_to_ok hto) kt kf
        | le => exact lv_if_le hx hb hd (ai_to_ok hto) kt kf
      · exact h.elim
    case if_icmp cd off =>
      have hl3 : len = 3 := hlen.1 (by intro a b c d h; cases h)
      subst hl3
      have hto := hlen.2.2.2.1 cd off rfl
      simp only at h
      split at h
      · rename_i y x r
        intro H ls locs hl hP hS
        have kt := fun z => (hgo _ (h.1 z) (ai_le.rf _)).2 H ls locs hl hP hS
        have kf := fun z => (hgo _ (h.2 z) (ai_le.rf _)).2 H ls locs hl hP hS
        cases cd with
        | eq => exact lv_icmp_eq hx hb hd (ai_to_ok hto) kt kf
        | ne => exact lv_icmp_ne hx hb hd (ai_to_ok hto) kt (fun z => kf (fun w => w z))
        | lt => exact lv_icmp_lt hx hb hd (ai_to_ok hto) kt kf
        | ge => exact lv_icmp_ge hx hb hd (ai_to_ok hto) kt kf
        | gt => exact lv_icmp_gt hx hb hd (ai_to_ok hto) kt kf
        | le => exact lv_icmp_le hx hb hd (ai_to_ok hto) kt kf
      · exact h.elim
    case tableswitch dflt lo hi offs =>
      have hto := hlen.2.2.2.2 dflt lo hi offs rfl
      simp only at h
      split at h
      · rename_i x r
        intro H ls locs hl hP hS
        by_cases hc : x.toInt < lo ∨ hi < x.toInt
        · exact lv_tableOut hx hb hd hc (ai_to_ok hto.1) ((hgo _ (h.1 hc) (ai_le.rf _)).2 H ls locs hl hP hS)
        · obtain ⟨off, h1, h2⟩ := h.2 hc
          exact lv_tableIn hx hb hd (fun z => hc (Or.inl z)) (fun z => hc (Or.inr z)) h1 (ai_to_ok (hto.2 _ off h1)) ((hgo _ h2 (ai_le.rf _)).2 H ls locs hl hP hS)
      · exact h.elim
    case invokevirtual x =>
      have hl3 : len = 3 := hlen.1 (by intro a b c d h; cases h)
      subst hl3
      exact ai_inv_W X0 hMT hK hKX hRm hb0 hs0 hk hsl hR hrun (Or.inl ⟨rfl, rfl⟩) ha hd h hgo
    case invokestatic x =>
      have hl3 : len = 3 := hlen.1 (by intro a b c d h; cases h)
      subst hl3
      simp only at h
      by_cases hcp : ai_isCpy (ai_oi M) x = true
      · rw [if_pos hcp] at h
        unfold ai_cpy at h
        simp only at h
        split at h
        · rename_i n dp a1 sp a0 rest
          obtain ⟨n0, f, n1, g, h1, h2, h3, h4, h5, h6, h7, h8, h9, h10⟩ := h
          obtain ⟨w1, w2, w3, w4⟩ := ai_cpy_ok hcp
          obtain ⟨u1, u2⟩ := ai_arr_inv h1
          obtain ⟨v1, v2⟩ := ai_arr_inv h2
          intro H ls locs hl hP hS
          refine va_copyi (ty := .char) hx hb (hml.trans hl.1.symm) hown (hts _ w1) (hts _ w2) (hts _ w3) (hts _ w4) hK.1 hP ai_W_D hS a0 a1 1 1 (ai_ws_at u1 u2) (ai_ws_at v1 v2) rfl rfl rfl h4 h5 h6 h7 h8 h9 (Nat.le_trans (ai_rcpy hMT ha hcp).1 hRm.1) ?_ hd (fun H1 locs1 hP1 _ hS1 => (hgo _ h10 (ai_le_wr _ _ _)).2 H1 ls locs1 hl ?_ hS1)
          · rw [ai_sum_map]
            exact ai_ar13 h3 (by decide +kernel) (ai_rcpy hMT ha hcp).2 hRm.2
          · have := ai_W_set (dA := dA) (sc := sc) (b := b) (n := S.1) (i := a1) (h := S.2.2.2) (x := .inl (1, ai_I n1 (va_cpy f g sp.toNatClampNeg dp.toNatClampNeg n.toNatClampNeg)))
            show va_P D ai_cl (ai_W dA sc b S.1 (va_up S.2.2.2 a1 _)) H1
            rw [← this]
            exact hP1
        · exact h.elim
      · rw [if_neg hcp] at h
        exact ai_inv_W X0 hMT hK hKX hRm hb0 hs0 hk hsl hR hrun (Or.inr (Or.inl ⟨rfl, rfl⟩)) ha hd h hgo
    case invokespecial x =>
      have hl3 : len = 3 := hlen.1 (by intro a b c d h; cases h)
      subst hl3
      simp only at h
      by_cases hcp : ai_isObj (ai_oi M) x = true
      · rw [if_pos hcp] at h
        split at h
        · rename_i a r
          obtain ⟨w1, w2, w3⟩ := ai_obj_ok hcp
          intro H ls locs hl hP hS
          refine W.objInit hx hb hown (hts _ w1) (hts _ w2) (hts _ w3) rfl (hl.1.trans hml.symm) rfl hd (Nat.le_trans (ai_robj hMT ha hcp).1 hRm.1) ?_ ((hgo _ h.2 (ai_le.rf _)).2 H ls locs hl hP hS)
          have h8 := lv_room (m := m) (pc := pc) (ls := ls) (rest := List.map (ai_v sc b) (Value.ref a :: r)) (st := r.map (ai_v sc b)) (by rw [ai_sum_map]; exact h.1)
          exact ai_ar12 h8 (ai_robj hMT ha hcp).2 hRm.2
        · exact h.elim
      · rw [if_neg hcp] at h
        exact ai_inv_W X0 hMT hK hKX hRm hb0 hs0 hk hsl hR hrun (Or.inr (Or.inr ⟨rfl, rfl⟩)) ha hd h hgo
    case ireturn =>
      have hl3 : len = 1 := hlen.1 (by intro a b c d h; cases h)
      subst hl3
      simp only at h
      split at h
      · rename_i v
        exact hret v hd rfl h.1 h.2
      · exact h.elim
    case return_ =>
      have hl3 : len = 1 := hlen.1 (by intro a b c d h; cases h)
      subst hl3
      exact hvret hd h.1 h.2.1 h.2.2
    all_goals
      have hl3 := hlen.1 (by intro a b c d h; cases h)
      simp only at h
      split at h
      · rename_i E he
        exact hthr E he h.1 h.2
      · split at h
        · rename_i G hG
          have hle := ai_step_le hG
          obtain ⟨g1, g2⟩ := hgo G h hle
          rw [hl3] at hd hG
          exact ai_step_W X0 hK hX hb0 hs0 hk hsl ⟨ai_ar11 g1.1 hR.1, ai_ar11 g1.2 hR.2⟩ hd hG g2
        · exact h.elim
end AIM
end
section
/-! The contracts: what the abstract machine runs, the real one runs. -/
section AIN
variable {p : Program} {l : Launch} {e : Env} {R : Room} {s : State} {m : MethodId} {args : Array Value} {below : List Frame} {meth : Method} {c : Code} {Q : State → Prop}
variable {D : va_G} {dA : Nat → ClassId} {sc b k0 s0 : Nat} {M : ai_M} {L : Nat} {xs : Nat → Int32}
theorem ai_loop_W {d : Nat} {o : ai_O} (X : ai_X p s m args meth c M) (hMT : M ∈ ai_MT) (hK : ai_K D dA s) (hKX : ai_KX b s) (hX : ai_oi M = 99 → va_X sc L xs s s.heap ∧ sc < s.heap.size ∧ sc < b) (hRm : ai_Fr M ≤ R.frames ∧ ai_Lc M ≤ R.locals) (hb0 : b ≤ s.heap.size) (hs0 : s.heap.size ≤ b + k0) (hR : o.2.2.1 - k0 ≤ R.cells ∧ o.2.2.2.1 - s0 ≤ R.slots)
    (hrun : ∀ mi as S o, ai_run L xs d mi as S o → ∃ M', ai_MT[mi]? = some M' ∧ ai_Ct l D dA sc b M' as S o)
    (hret : ∀ (F : ai_F) (v : Int32), k0 ≤ F.2.2.2.2.1 → s0 ≤ F.2.2.2.2.2.1 → decode (ai_cc M) F.1 = .ok (.ireturn, 1) → F.2.2.1 = [.int v] → (∃ ty, ai_ret M = some ty ∧ narrow ty (.int v) = .int v) → ai_ok (some (.int v)) F.2.2.2 = o → ai_G p l e R s m args below meth c Q D dA sc b k0 s0 M F)
    (hvret : ∀ F : ai_F, k0 ≤ F.2.2.2.2.1 → s0 ≤ F.2.2.2.2.2.1 → decode (ai_cc M) F.1 = .ok (.return_, 1) → F.2.2.1 = [] → ai_ret M = none → ai_ok none F.2.2.2 = o → ai_G p l e R s m args below meth c Q D dA sc b k0 s0 M F)
    (hthr : ∀ (F : ai_F) (E : String), k0 ≤ F.2.2.2.2.1 → s0 ≤ F.2.2.2.2.2.1 → ai_thr M F.1 = some E → ai_sum F.2.2.1 ≤ 8 → ((.inr E, (F.2.2.2.1, F.2.2.2.2.1 + 1, F.2.2.2.2.2.1 + 6, F.2.2.2.2.2.2)) : ai_O) = o → ai_G p l e R s m args below meth c Q D dA sc b k0 s0 M F) :
    ∀ (n : Nat) (F : ai_F), k0 ≤ F.2.2.2.2.1 → s0 ≤ F.2.2.2.2.2.1 → ai_wp L xs M (fun mi as S Q => ∃ o, ai_run L xs d mi as S o ∧ Q o) (fun x => x = o) n F → ai_G p l e R s m args below meth c Q D dA sc b k0 s0 M F := by
  intro n
  induction n with
  | zero => intro F _ _ h; exact h.elim
  | succ n ih =>
    intro F hk hsl h
    refine ai_one_W X hMT hK hKX hX hRm hb0 hs0 hk hsl hR hrun (fun v => hret F v hk hsl) (hvret F hk hsl) (fun E => hthr F E hk hsl) h (fun G hG hle => ?_)
    obtain ⟨o', -, ho, hle'⟩ := ai_wp_det ai_run_le hG
    subst ho
    exact ⟨hle', ih G (Nat.le_trans hk hle.1) (Nat.le_trans hsl hle.2) hG⟩
set_option maxRecDepth 100000 in
theorem ai_plains : ai_MT.all (fun M => plainName (ai_y M).cls) = true := by decide +kernel
/-- the body of a method, entered -/
theorem ai_body {mc ms : Nat} {s₁ : State} (hM : M ∈ ai_MT) (h99 : ai_oi M ≠ 99) (B : BodyLoose p l (ai_y M) (headSpec (ai_wsM M) (ai_rm M mc ms)) (ai_cc M) (ai_nL M) (ai_ret M) e s m args below meth c s₁) (hml : c.maxLocals = ai_nL M) : ai_X p s m args meth c M := by
  have hts0 := atoms_spec (ws := ai_wsM M) B.pre
  refine ⟨B.exec, B.bytes, hml, ?_, fun w hw => hts0 w (List.mem_cons_of_mem _ hw), B.returns, B.notSynchronized, fun _ => (name_of_methodNamed B.named B.method).1, fun _ => ?_⟩
  · have h1 := findClass_of_methodNamed B.named
    rw [ai_own_ok hM]
    exact h1
  · have hc := hts0 _ (List.mem_cons_self (a := ai_cw M) (l := ai_ws))
    have hcode : meth.code = some c := (Stand.of_body B).code
    unfold ai_cw at hc
    cases hx : ai_ex M with
    | nil =>
      rw [hx] at hc
      obtain ⟨meth', c', h1, h2, -, -, -, -, h7, -⟩ := Cond.code_spec B.named hc
      cases B.method.symm.trans h1
      cases hcode.symm.trans h2
      rw [Array.isEmpty_iff] at h7
      rw [h7]
      rfl
    | cons a t =>
      rw [hx] at hc
      obtain ⟨m9, meth', c', hn9, h1, h2, -, -, h5, -⟩ := Cond.codeWith_spec hc
      cases B.named.symm.trans hn9
      cases B.method.symm.trans h1
      cases hcode.symm.trans h2
      exact h5
set_option maxHeartbeats 1000000 in
theorem ai_sound (hlt : l.stackTraces = false) : ∀ (d mi : Nat) (as : List Value) (S : ai_S) (o : ai_O), ai_run L xs d mi as S o → ∃ M', ai_MT[mi]? = some M' ∧ ai_Ct l D dA sc b M' as S o := by
  intro d
  induction d with
  | zero => intro mi as S o h; exact h.elim
  | succ d ih =>
    intro mi as S o h
    obtain ⟨M, n, hM, h99, hent, hwp⟩ := h
    have hMm : M ∈ ai_MT := List.mem_of_getElem? hM
    have hpn : plainName (ai_y M).cls = true := List.all_eq_true.mp ai_plains M hMm
    refine ⟨M, hM, ?_⟩
    obtain ⟨r, S'⟩ := o
    have core : ∀ (Qe : State → Prop) (p : Program) (e : Env) (s : State) (m : MethodId) (args : Array Value) (below : List Frame) (meth : Method) (c : Code) (s₁ : State), BodyLoose p l (ai_y M) (headSpec (ai_wsM M) (ai_rm M (S'.2.1 - S.2.1) (S'.2.2.1 - S.2.2.1))) (ai_cc M) (ai_nL M) (ai_ret M) e s m args below meth c s₁ → c.maxLocals = ai_nL M → ai_Pc D dA sc b as S args s →
        (ai_X p s m args meth c M → ai_KX b s → b ≤ s.heap.size → (∀ (F : ai_F) (v : Int32), S.2.1 ≤ F.2.2.2.2.1 → S.2.2.1 ≤ F.2.2.2.2.2.1 → decode (ai_cc M) F.1 = .ok (.ireturn, 1) → F.2.2.1 = [.int v] → (∃ ty, ai_ret M = some ty ∧ narrow ty (.int v) = .int v) → ai_ok (some (.int v)) F.2.2.2 = (r, S') → ai_G p l e (headSpec (ai_wsM M) (ai_rm M (S'.2.1 - S.2.1) (S'.2.2.1 - S.2.2.1))).room s m args below meth c Qe D dA sc b S.2.1 S.2.2.1 M F) ∧
          (∀ F : ai_F, S.2.1 ≤ F.2.2.2.2.1 → S.2.2.1 ≤ F.2.2.2.2.2.1 → decode (ai_cc M) F.1 = .ok (.return_, 1) → F.2.2.1 = [] → ai_ret M = none → ai_ok none F.2.2.2 = (r, S') → ai_G p l e (headSpec (ai_wsM M) (ai_rm M (S'.2.1 - S.2.1) (S'.2.2.1 - S.2.2.1))).room s m args below meth c Qe D dA sc b S.2.1 S.2.2.1 M F) ∧
          (∀ (F : ai_F) (E : String), S.2.1 ≤ F.2.2.2.2.1 → S.2.2.1 ≤ F.2.2.2.2.2.1 → ai_thr M F.1 = some E → ai_sum F.2.2.1 ≤ 8 → ((.inr E, (F.2.2.2.1, F.2.2.2.2.1 + 1, F.2.2.2.2.2.1 + 6, F.2.2.2.2.2.2)) : ai_O) = (r, S') → ai_G p l e (headSpec (ai_wsM M) (ai_rm M (S'.2.1 - S.2.1) (S'.2.2.1 - S.2.2.1))).room s m args below meth c Qe D dA sc b S.2.1 S.2.2.1 M F)) →
        W p l e (headSpec (ai_wsM M) (ai_rm M (S'.2.1 - S.2.1) (S'.2.2.1 - S.2.2.1))).room s m args below meth c s.heap [] 0 0 Qe (entryFrame m args (ai_nL M)) := by
      intro Qe p e s m args below meth c s₁ B hml hv hends
      have X := ai_body hMm h99 B hml
      obtain ⟨rfl, hP, hb0, hsz, hK, hKX⟩ := hv
      obtain ⟨hret, hvret, hthr⟩ := hends X hKX hb0
      have hG := ai_loop_W (o := (r, S')) X hMm hK hKX (fun h => absurd h h99) ⟨Nat.le_refl _, Nat.le_refl _⟩ hb0 hsz ⟨Nat.le_refl _, Nat.le_refl _⟩ ih hret hvret hthr n (0, ai_in M as, [], S) (Nat.le_refl _) (Nat.le_refl _) hwp
      have := hG s.heap _ [] (ai_entry as hent) hP va_S.rf
      simp only [Nat.sub_self] at this
      rw [lg_entry_eq]
      exact this
    cases r with
    | inl v =>
      show ai_Met l D dA sc b M as S v S'
      have body : ∀ (p : Program) (e : Env) (s : State) (m : MethodId) (args : Array Value) (below : List Frame) (meth : Method) (c : Code) (s₁ : State), BodyLoose p l (ai_y M) (headSpec (ai_wsM M) (ai_rm M (S'.2.1 - S.2.1) (S'.2.2.1 - S.2.2.1))) (ai_cc M) (ai_nL M) (ai_ret M) e s m args below meth c s₁ → c.maxLocals = ai_nL M → ai_Pc D dA sc b as S args s →
          W p l e (headSpec (ai_wsM M) (ai_rm M (S'.2.1 - S.2.1) (S'.2.2.1 - S.2.2.1))).room s m args below meth c s.heap [] 0 0 (MQ below (ai_Qr D dA sc b v S') args s (S'.2.1 - S.2.1) (S'.2.2.1 - S.2.2.1) (fun q => b ≤ q)) (entryFrame m args (ai_nL M)) := by
        intro p e s m args below meth c s₁ B hml hv
        refine core _ p e s m args below meth c s₁ B hml hv (fun X hKX hb0 => ⟨?_, ?_, ?_⟩)
        · intro F w hk hsl hd hst hty ho H ls locs hl hP hS
          obtain ⟨pc, lv, st, S9⟩ := F
          cases ho
          simp only at hst
          subst hst
          obtain ⟨ty, hr1, hr2⟩ := hty
          exact W.zret X.1 X.2.1 (X.2.2.2.2.2.1.trans hr1) hr2 (fun t ht hW => ⟨rfl, by rw [ht]; exact hP, by rw [ht]; exact hS.1, fun q h1 h2 => by rw [ht]; exact hS.2.1 q h1 h2⟩) hS.2.2 hd X.2.2.2.2.2.2.1
        · intro F hk hsl hd hst hty ho H ls locs hl hP hS
          obtain ⟨pc, lv, st, S9⟩ := F
          cases ho
          simp only at hst
          subst hst
          exact W.vret X.1 X.2.1 (X.2.2.2.2.2.1.trans hty) (fun t ht hW => ⟨rfl, by rw [ht]; exact hP, by rw [ht]; exact hS.1, fun q h1 h2 => by rw [ht]; exact hS.2.1 q h1 h2⟩) hS.2.2 hd X.2.2.2.2.2.2.1
        · intro F E hk hsl ht hs ho
          cases ho
      unfold ai_Met
      cases hx : (ai_ex M).isEmpty with
      | true => exact Met.ofW (ws' := ai_ws) hpn (by unfold ai_wsM; rw [ai_cw_e hx]) body
      | false =>
        obtain ⟨hh, hcw⟩ := ai_cw_h hx
        exact va_MetW (ws' := ai_ws) (hh := hh) hpn (by unfold ai_wsM; rw [hcw]) body
    | inr E =>
      show ai_MetX l D dA sc b M as S E S'
      have body : ∀ (p : Program) (e : Env) (s : State) (m : MethodId) (args : Array Value) (below : List Frame) (meth : Method) (c : Code) (s₁ : State), BodyLoose p l (ai_y M) (headSpec (ai_wsM M) (ai_rm M (S'.2.1 - S.2.1) (S'.2.2.1 - S.2.2.1))) (ai_cc M) (ai_nL M) (ai_ret M) e s m args below meth c s₁ → c.maxLocals = ai_nL M → ai_Pc D dA sc b as S args s →
          W p l e (headSpec (ai_wsM M) (ai_rm M (S'.2.1 - S.2.1) (S'.2.2.1 - S.2.2.1))).room s m args below meth c s.heap [] 0 0 (ai_MQX below (ai_Qx D dA sc b E S' (S'.2.1 - S.2.1) (S'.2.2.1 - S.2.2.1)) args s) (entryFrame m args (ai_nL M)) := by
        intro p e s m args below meth c s₁ B hml hv
        refine core _ p e s m args below meth c s₁ B hml hv (fun X hKX hb0 => ⟨?_, ?_, ?_⟩)
        · intro F w hk hsl hd hst hty ho
          cases ho
        · intro F hk hsl hd hst hty ho
          cases ho
        · intro F E' hk hsl ht hs ho
          obtain ⟨pc, lv, st, S9⟩ := F
          cases ho
          exact ai_thr_W X hMm hKX hlt hb0 ⟨Nat.le_refl _, Nat.le_refl _⟩ hk hsl ⟨Nat.le_refl _, Nat.le_refl _⟩ ht hs
      refine MetFree.of_bodyS (code := ai_cc M) (maxLocals := ai_nL M) (ret := ai_ret M) hpn ?_ ?_
      · intro args s m h hn
        have hc := atoms_spec (ws := ai_wsM M) h _ (List.mem_cons_self (a := ai_cw M) (l := ai_ws))
        cases hx : (ai_ex M).isEmpty with
        | true =>
          rw [ai_cw_e hx] at hc
          obtain ⟨meth, c, h1, h2, h3, h4, h5, h6, -, -⟩ := Cond.code_spec hn hc
          exact ⟨meth, c, h1, h2, h3, h4, h5, h6⟩
        | false =>
          obtain ⟨hh, hcw⟩ := ai_cw_h hx
          rw [hcw] at hc
          obtain ⟨m9, meth, c, hn9, h1, h2, h3, h4, -, h5, h6, -⟩ := Cond.codeWith_spec hc
          cases hn.symm.trans hn9
          exact ⟨meth, c, h1, h2, h3, h4, h5, h6⟩
      · intro p e s m args below meth c s₁ B hml hP _
        have hh0 : s₁.heap = s.heap := by rw [B.state]; rfl
        obtain ⟨t, a1, o, b1, b2, b3⟩ := body p e s m args below meth c s₁ B hml hP s₁ hh0 (Stand.of_body B)
        exact ⟨t, o, a1, b1, b2, b3⟩
end AIN
end
section
/-! Rules for walking a method on the abstract machine. -/
/-- from F the method M, with d calls left below it, comes to an end with Q -/
def ai_aw (L : Nat) (xs : Nat → Int32) (d : Nat) (M : ai_M) (Q : ai_O → Prop) (F : ai_F) : Prop := ∃ n, ai_wp L xs M (fun mi as S Q => ∃ o, ai_run L xs d mi as S o ∧ Q o) Q n F
section AW
variable {L : Nat} {xs : Nat → Int32} {d : Nat} {M : ai_M} {Q : ai_O → Prop} {pc len : Nat} {lv lv' : ai_L} {st st' : List Value} {S S' : ai_S} {i : Instr}
theorem ai_aw_one {F : ai_F} (h : ai_one L xs M (fun mi as S Q => ∃ o, ai_run L xs d mi as S o ∧ Q o) (ai_aw L xs d M Q) Q F) : ai_aw L xs d M Q F := by
  rcases ai_one_path ai_run_le h with ⟨G, ⟨n, g1⟩, -, g3⟩ | ⟨o, g1, -, g3⟩
  · exact ⟨n + 1, g3 _ _ g1⟩
  · exact ⟨1, g3 _ _ g1⟩
/-- a run of the method, for a call -/
theorem ai_run_of {mi : Nat} {as : List Value} (hM : ai_MT[mi]? = some M) (ho : ai_oi M ≠ 99) (he : (ai_ent as).length ≤ ai_nL M) (h : ai_aw L xs d M Q (0, ai_in M as, [], S)) : ∃ o, ai_run L xs (d + 1) mi as S o ∧ Q o := by
  obtain ⟨n, h⟩ := h
  obtain ⟨o, q1, q2, -⟩ := ai_wp_det ai_run_le h
  exact ⟨o, ⟨M, n, hM, ho, he, q1⟩, q2⟩
theorem aw_pure (ha : ai_at M pc = some (i, len)) (ht : ai_thr M pc = none) (hp : ai_pure i st = some st') (k : ai_aw L xs d M Q (pc + len, lv, st', S)) : ai_aw L xs d M Q (pc, lv, st, S) := by
  apply ai_aw_one
  unfold ai_one
  simp only [ha]
  cases i <;> first | (simp only [ht, ai_step, hp]; exact k; done) | (simp [ai_pure] at hp; done)
theorem aw_loc (ha : ai_at M pc = some (i, len)) (ht : ai_thr M pc = none) (hp : ai_loc i lv st = some (lv', st')) (k : ai_aw L xs d M Q (pc + len, lv', st', S)) : ai_aw L xs d M Q (pc, lv, st, S) := by
  apply ai_aw_one
  unfold ai_one
  simp only [ha]
  cases i <;> first | (simp only [ht, ai_step, ai_pure, hp]; exact k; done) | (simp [ai_loc] at hp; done)
theorem aw_heap (ha : ai_at M pc = some (i, len)) (ht : ai_thr M pc = none) (hp : ai_heap i st S = some (st', S')) (k : ai_aw L xs d M Q (pc + len, lv, st', S')) : ai_aw L xs d M Q (pc, lv, st, S) := by
  apply ai_aw_one
  unfold ai_one
  simp only [ha]
  cases i <;> first | (simp only [ht, ai_step, ai_pure, ai_loc, hp]; exact k; done) | (simp [ai_heap] at hp; done)
theorem aw_fop (ha : ai_at M pc = some (i, len)) (ht : ai_thr M pc = none) (hp : ai_fop M i st S = some (st', S')) (k : ai_aw L xs d M Q (pc + len, lv, st', S')) : ai_aw L xs d M Q (pc, lv, st, S) := by
  apply ai_aw_one
  unfold ai_one
  simp only [ha]
  cases i <;> first | (simp only [ht, ai_step, ai_pure, ai_loc, ai_heap, hp]; exact k; done) | (simp [ai_fop] at hp; done)
theorem aw_goto {off : Int} (ha : ai_at M pc = some (.goto off, len)) (k : ai_aw L xs d M Q (ai_to pc off, lv, st, S)) : ai_aw L xs d M Q (pc, lv, st, S) := by
  apply ai_aw_one
  unfold ai_one
  simp only [ha]
  exact k
theorem aw_if {cd : ClassFile.Cond} {off : Int} {x : Int32} (ha : ai_at M pc = some (.ifCond cd off, len)) (kt : ai_cmp cd x 0 → ai_aw L xs d M Q (ai_to pc off, lv, st, S)) (kf : ¬ ai_cmp cd x 0 → ai_aw L xs d M Q (pc + 3, lv, st, S)) : ai_aw L xs d M Q (pc, lv, .int x :: st, S) := by
  apply ai_aw_one
  unfold ai_one
  simp only [ha]
  exact ⟨kt, kf⟩
theorem aw_icmp {cd : ClassFile.Cond} {off : Int} {x y : Int32} (ha : ai_at M pc = some (.if_icmp cd off, len)) (kt : ai_cmp cd x y → ai_aw L xs d M Q (ai_to pc off, lv, st, S)) (kf : ¬ ai_cmp cd x y → ai_aw L xs d M Q (pc + 3, lv, st, S)) : ai_aw L xs d M Q (pc, lv, .int y :: .int x :: st, S) := by
  apply ai_aw_one
  unfold ai_one
  simp only [ha]
  exact ⟨kt, kf⟩
theorem aw_obj {x : Nat} {a : Nat} (ha : ai_at M pc = some (.invokespecial x, len)) (hx : ai_isObj (ai_oi M) x = true) (hs : ai_sum st ≤ 8) (k : ai_aw L xs d M Q (pc + 3, lv, st, S)) : ai_aw L xs d M Q (pc, lv, .ref a :: st, S) := by
  apply ai_aw_one
  unfold ai_one
  simp only [ha, if_pos hx]
  exact ⟨hs, k⟩
theorem aw_ret {v : Int32} {ty : FieldType} (ha : ai_at M pc = some (.ireturn, len)) (hr : ai_ret M = some ty) (hn : narrow ty (.int v) = .int v) (k : Q (ai_ok (some (.int v)) S)) : ai_aw L xs d M Q (pc, lv, [.int v], S) := by
  apply ai_aw_one
  unfold ai_one
  simp only [ha]
  exact ⟨⟨ty, hr, hn⟩, k⟩
theorem aw_vret (ha : ai_at M pc = some (.return_, len)) (hr : ai_ret M = none) (k : Q (ai_ok none S)) : ai_aw L xs d M Q (pc, lv, [], S) := by
  apply ai_aw_one
  unfold ai_one
  simp only [ha]
  exact ⟨trivial, hr, k⟩
theorem aw_throw {E : String} {x : Nat} (ha : ai_at M pc = some (.new x, len)) (ht : ai_thr M pc = some E) (hs : ai_sum st ≤ 8) (k : Q (.inr E, (S.1, S.2.1 + 1, S.2.2.1 + 6, S.2.2.2))) : ai_aw L xs d M Q (pc, lv, st, S) := by
  apply ai_aw_one
  unfold ai_one
  simp only [ha, ht]
  exact ⟨hs, k⟩
/-- a call of a method on an object -/
theorem aw_callV {x kd mi na ci a : Nat} {as rest : List Value} {fs : List Value} (ha : ai_at M pc = some (.invokevirtual x, len)) (hm : ai_mth (ai_oi M) x = some (kd, mi, na, ci)) (hk : kd = 0 ∨ kd = 1) (hd : st.drop na = .ref a :: rest) (hl : na ≤ st.length) (hs : ai_sum rest ≤ 8) (ho : ai_obj S a ci = some fs) (has : as = .ref a :: (st.take na).reverse)
    (k : ∃ o, ai_run L xs d mi as S o ∧ ai_back M (ai_aw L xs d M Q) kd pc lv rest o) : ai_aw L xs d M Q (pc, lv, st, S) := by
  apply ai_aw_one
  unfold ai_one
  simp only [ha, ai_inv, hm]
  refine ⟨by rcases hk with rfl | rfl <;> simp, ?_⟩
  rw [if_neg (by omega), hd]
  subst has
  exact ⟨hl, hs, ⟨fs, ho⟩, k⟩
theorem aw_callI {x kd mi na ci a : Nat} {as rest : List Value} {fs : List Value} (ha : ai_at M pc = some (.invokespecial x, len)) (hx : ai_isObj (ai_oi M) x = false) (hm : ai_mth (ai_oi M) x = some (kd, mi, na, ci)) (hk : kd = 4 ∨ kd = 5) (hd : st.drop na = .ref a :: rest) (hl : na ≤ st.length) (hs : ai_sum rest ≤ 8) (ho : ai_obj S a ci = some fs) (has : as = .ref a :: (st.take na).reverse)
    (k : ∃ o, ai_run L xs d mi as S o ∧ ai_back M (ai_aw L xs d M Q) kd pc lv rest o) : ai_aw L xs d M Q (pc, lv, st, S) := by
  apply ai_aw_one
  unfold ai_one
  simp only [ha, hx, ai_inv, hm]
  rw [if_neg (by simp)]
  refine ⟨by rcases hk with rfl | rfl <;> simp, ?_⟩
  rw [if_neg (by omega), hd]
  subst has
  exact ⟨hl, hs, ⟨fs, ho⟩, k⟩
theorem aw_callS {x kd mi na ci : Nat} {as rest : List Value} (ha : ai_at M pc = some (.invokestatic x, len)) (hx : ai_isCpy (ai_oi M) x = false) (hm : ai_mth (ai_oi M) x = some (kd, mi, na, ci)) (hk : kd = 2 ∨ kd = 3 ∨ kd = 6) (hd : st.drop na = rest) (hl : na ≤ st.length) (hs : ai_sum rest ≤ 8) (has : as = (st.take na).reverse)
    (k : ∃ o, ai_run L xs d mi as S o ∧ ai_back M (ai_aw L xs d M Q) kd pc lv rest o) : ai_aw L xs d M Q (pc, lv, st, S) := by
  apply ai_aw_one
  unfold ai_one
  simp only [ha, hx, ai_inv, hm]
  rw [if_neg (by simp)]
  refine ⟨by rcases hk with rfl | rfl | rfl <;> simp, ?_⟩
  rw [if_pos hk]
  subst has
  subst hd
  exact ⟨hl, hs, k⟩
/-- the call's run, and what it says, out of the callee's walk -/
theorem aw_of {mi : Nat} {as : List Value} {P P' : ai_O → Prop} (h : ∃ o, ai_run L xs d mi as S o ∧ P o) (k : ∀ o, P o → P' o) : ∃ o, ai_run L xs d mi as S o ∧ P' o := by
  obtain ⟨o, h1, h2⟩ := h
  exact ⟨o, h1, k o h2⟩
end AW
section AW2
variable {L : Nat} {xs : Nat → Int32} {d : Nat} {M : ai_M} {Q : ai_O → Prop} {pc len : Nat} {lv lv' : ai_L} {st st' : List Value} {S S' : ai_S} {i : Instr}
theorem aw_get {x c k a : Nat} {ne : Bool} {fs : List Value} {v : Value} (ha : ai_at M pc = some (.getfield x, len)) (ht : ai_thr M pc = none) (hf : ai_fld (ai_oi M) x = some (c, k, ne)) (ho : ai_obj S a c = some fs) (hv : fs[k]? = some v) (kk : ai_aw L xs d M Q (pc + len, lv, v :: st, S)) : ai_aw L xs d M Q (pc, lv, .ref a :: st, S) :=
  aw_fop ha ht (by simp only [ai_fop, hf, Option.bind_some, ho, hv, Option.map_some]) kk
theorem aw_put {x c k a : Nat} {ne : Bool} {fs : List Value} {v : Value} (ha : ai_at M pc = some (.putfield x, len)) (ht : ai_thr M pc = none) (hf : ai_fld (ai_oi M) x = some (c, k, ne)) (ho : ai_obj S a c = some fs) (hk : k < fs.length) (hfit : ai_fits (ai_ty c k) v = true) (hm : ai_may M c k ne = true) (kk : ai_aw L xs d M Q (pc + len, lv, st, ai_wr S a (.inr (c, fs.set k v)))) : ai_aw L xs d M Q (pc, lv, v :: .ref a :: st, S) :=
  aw_fop ha ht (by simp only [ai_fop, hf, Option.bind_some, ho, hk, hfit, hm, and_self, if_true]) kk
theorem aw_iald {a n : Nat} {f : Nat → Int32} {j : Int32} (ha : ai_at M pc = some (.iaload, len)) (ht : ai_thr M pc = none) (hA : ai_arr S a 0 = some (n, f)) (hj : ¬ (j < 0 ∨ n ≤ j.toNatClampNeg)) (kk : ai_aw L xs d M Q (pc + len, lv, .int (f j.toNatClampNeg) :: st, S)) : ai_aw L xs d M Q (pc, lv, .int j :: .ref a :: st, S) :=
  aw_heap ha ht (by simp only [ai_heap, ai_ldx, hA, Option.bind_some, if_neg hj]) kk
theorem aw_cald {a n : Nat} {f : Nat → Int32} {j : Int32} (ha : ai_at M pc = some (.caload, len)) (ht : ai_thr M pc = none) (hA : ai_arr S a 1 = some (n, f)) (hj : ¬ (j < 0 ∨ n ≤ j.toNatClampNeg)) (kk : ai_aw L xs d M Q (pc + len, lv, .int (f j.toNatClampNeg) :: st, S)) : ai_aw L xs d M Q (pc, lv, .int j :: .ref a :: st, S) :=
  aw_heap ha ht (by simp only [ai_heap, ai_ldx, hA, Option.bind_some, if_neg hj]) kk
theorem aw_zald {a n : Nat} {f : Nat → Int32} {j : Int32} (ha : ai_at M pc = some (.baload, len)) (ht : ai_thr M pc = none) (hA : ai_arr S a 2 = some (n, f)) (hj : ¬ (j < 0 ∨ n ≤ j.toNatClampNeg)) (kk : ai_aw L xs d M Q (pc + len, lv, .int (f j.toNatClampNeg) :: st, S)) : ai_aw L xs d M Q (pc, lv, .int j :: .ref a :: st, S) :=
  aw_heap ha ht (by simp only [ai_heap, ai_ldx, hA, Option.bind_some, if_neg hj]) kk
theorem aw_iast {a n : Nat} {f : Nat → Int32} {j x : Int32} (ha : ai_at M pc = some (.iastore, len)) (ht : ai_thr M pc = none) (hA : ai_arr S a 0 = some (n, f)) (hj : ¬ (j < 0 ∨ n ≤ j.toNatClampNeg)) (kk : ai_aw L xs d M Q (pc + len, lv, st, ai_wr S a (.inl (0, ai_I n (upd f j.toNatClampNeg x))))) : ai_aw L xs d M Q (pc, lv, .int x :: .int j :: .ref a :: st, S) :=
  aw_heap ha ht (by simp only [ai_heap, ai_stx, hA, Option.bind_some, if_neg hj]) kk
theorem aw_cast {a n : Nat} {f : Nat → Int32} {j x : Int32} (ha : ai_at M pc = some (.castore, len)) (ht : ai_thr M pc = none) (hA : ai_arr S a 1 = some (n, f)) (hj : ¬ (j < 0 ∨ n ≤ j.toNatClampNeg)) (kk : ai_aw L xs d M Q (pc + len, lv, st, ai_wr S a (.inl (1, ai_I n (upd f j.toNatClampNeg (vp_nar .char x)))))) : ai_aw L xs d M Q (pc, lv, .int x :: .int j :: .ref a :: st, S) :=
  aw_heap ha ht (by simp only [ai_heap, ai_stx, hA, Option.bind_some, if_neg hj]) kk
theorem aw_zast {a n : Nat} {f : Nat → Int32} {j x : Int32} (ha : ai_at M pc = some (.bastore, len)) (ht : ai_thr M pc = none) (hA : ai_arr S a 2 = some (n, f)) (hj : ¬ (j < 0 ∨ n ≤ j.toNatClampNeg)) (kk : ai_aw L xs d M Q (pc + len, lv, st, ai_wr S a (.inl (2, ai_I n (upd f j.toNatClampNeg (vp_nar .boolean x)))))) : ai_aw L xs d M Q (pc, lv, .int x :: .int j :: .ref a :: st, S) :=
  aw_heap ha ht (by simp only [ai_heap, ai_stx, hA, Option.bind_some, if_neg hj]) kk
theorem aw_lald {a n : Nat} {f : Nat → Int64} {j : Int32} (ha : ai_at M pc = some (.laload, len)) (ht : ai_thr M pc = none) (hA : ai_arrJ S a 3 = some (n, f)) (hj : ¬ (j < 0 ∨ n ≤ j.toNatClampNeg)) (kk : ai_aw L xs d M Q (pc + len, lv, .long (f j.toNatClampNeg) :: st, S)) : ai_aw L xs d M Q (pc, lv, .int j :: .ref a :: st, S) :=
  aw_heap ha ht (by simp only [ai_heap, hA, Option.bind_some, if_neg hj]) kk
theorem aw_last {a n : Nat} {f : Nat → Int64} {j : Int32} {x : Int64} (ha : ai_at M pc = some (.lastore, len)) (ht : ai_thr M pc = none) (hA : ai_arrJ S a 3 = some (n, f)) (hj : ¬ (j < 0 ∨ n ≤ j.toNatClampNeg)) (kk : ai_aw L xs d M Q (pc + len, lv, st, ai_wr S a (.inl (3, ai_J n (vp_updL f j.toNatClampNeg x))))) : ai_aw L xs d M Q (pc, lv, .long x :: .int j :: .ref a :: st, S) :=
  aw_heap ha ht (by simp only [ai_heap, hA, Option.bind_some, if_neg hj]) kk
theorem aw_aald {a n y : Nat} {f : Nat → Option Nat} {j : Int32} (ha : ai_at M pc = some (.aaload, len)) (ht : ai_thr M pc = none) (hA : ai_arrA S a 4 = some (n, f)) (hj : ¬ (j < 0 ∨ n ≤ j.toNatClampNeg)) (hy : f j.toNatClampNeg = some y) (kk : ai_aw L xs d M Q (pc + len, lv, .ref y :: st, S)) : ai_aw L xs d M Q (pc, lv, .int j :: .ref a :: st, S) :=
  aw_heap ha ht (by simp only [ai_heap, hA, Option.bind_some, if_neg hj, hy, Option.map_some]) kk
/-- the law's script -/
theorem aw_scr (ha : ai_at M pc = some (i, len)) (ht : ai_thr M pc = none) (hi : i = .iaload ∨ i = .arraylength) (hn : ∀ j a r, st ≠ .int j :: .ref a :: r) (hn2 : ∀ a r, st ≠ .ref a :: r) (hp : ai_scr L xs M i st = some st') (k : ai_aw L xs d M Q (pc + len, lv, st', S)) : ai_aw L xs d M Q (pc, lv, st, S) := by
  apply ai_aw_one
  unfold ai_one
  simp only [ha]
  rcases hi with rfl | rfl
  · have h1 : ai_heap .iaload st S = none := by
      simp only [ai_heap, ai_ldx]
    simp only [ht, ai_step, ai_pure, ai_loc, h1, ai_fop, hp]
    exact k
  · have h1 : ai_heap .arraylength st S = none := by
      simp only [ai_heap]
    simp only [ht, ai_step, ai_pure, ai_loc, h1, ai_fop, hp]
    exact k
theorem aw_switch {dflt lo hi : Int} {offs : Array Int} {x : Int32} (ha : ai_at M pc = some (.tableswitch dflt lo hi offs, len)) (k1 : (x.toInt < lo ∨ hi < x.toInt) → ai_aw L xs d M Q (ai_to pc dflt, lv, st, S)) (k2 : ¬ (x.toInt < lo ∨ hi < x.toInt) → ∃ off, offs[(x.toInt - lo).toNat]? = some off ∧ ai_aw L xs d M Q (ai_to pc off, lv, st, S)) : ai_aw L xs d M Q (pc, lv, .int x :: st, S) := by
  apply ai_aw_one
  unfold ai_one
  simp only [ha]
  exact ⟨k1, k2⟩
theorem ai_obj_wr {a a' c : Nat} {x : ai_C} (h : a' ≠ a) : ai_obj (ai_wr S a x) a' c = ai_obj S a' c := by
  simp only [ai_obj, ai_wr, va_up_ne _ _ h]
theorem ai_arr_wr {a a' c : Nat} {x : ai_C} (h : a' ≠ a) : ai_arr (ai_wr S a x) a' c = ai_arr S a' c := by
  simp only [ai_arr, ai_wr, va_up_ne _ _ h]
theorem ai_arrJ_wr {a a' c : Nat} {x : ai_C} (h : a' ≠ a) : ai_arrJ (ai_wr S a x) a' c = ai_arrJ S a' c := by
  simp only [ai_arrJ, ai_wr, va_up_ne _ _ h]
theorem ai_arrA_wr {a a' c : Nat} {x : ai_C} (h : a' ≠ a) : ai_arrA (ai_wr S a x) a' c = ai_arrA S a' c := by
  simp only [ai_arrA, ai_wr, va_up_ne _ _ h]
theorem ai_obj_wrS {a c : Nat} {fs : List Value} (h : a < S.1) : ai_obj (ai_wr S a (.inr (c, fs))) a c = some fs := by
  simp only [ai_obj, ai_wr, if_pos h, va_up_self, if_true]
theorem ai_arr_wrS {a t n : Nat} {f : Nat → Int32} (h : a < S.1) : ai_arr (ai_wr S a (.inl (t, ai_I n f))) a t = some (n, f) := by
  simp only [ai_arr, ai_wr, if_pos h, va_up_self, if_true]
theorem ai_arrJ_wrS {a t n : Nat} {f : Nat → Int64} (h : a < S.1) : ai_arrJ (ai_wr S a (.inl (t, ai_J n f))) a t = some (n, f) := by
  simp only [ai_arrJ, ai_wr, if_pos h, va_up_self, if_true]
end AW2
end
section
/-! THE CLAIM OUT OF ONE WALK OF THE LAW'S BODY. Your part is whole_start (and what it stands on); all else here is the same for every law, but numbers. -/
def R_law : String := "RuleCompletionLaw"
def lw_P (b : Addr) (xs : List Int32) (args : Array Value) (s : State) : Prop := args = #[.ref b] ∧ s.IntsAt b xs ∧ xs.length ≤ 3 ∧ (Jvm.Cond.and given_1 narrow_1).before args s = true
def lw_Q (_ : Array Value) (s : State) (o : Outcome) (t : State) : Prop := o = .returned (some (.int 1)) ∧ Framed s o t [] 600002 7302232
def lw_Z (below : List Frame) (a : Array Value) (s : State) : State → Prop := fun t => ∃ o, t.status = .running ∧ Ended t below o ∧ lw_Q a s o t
/-- the law's own end, with 1 on the stack, nothing written that was there before, its room as the claim has it -/
theorem lw_ret {p : Program} {l : Launch} {e : Env} {s : State} {m : MethodId} {below : List Frame} {meth : Method} {c : Code} {b : Nat} (hx : p.tables.exec = Jvm.exec) (hb : c.code = code) (hr : meth.sig.returnType = ret) (hlocks : meth.locks = false) {pc : Nat} {H : Heap} {ls : Array Slot} (hdg : decode code pc = .ok (.ireturn, 1)) : W p l e room_1 s m #[Value.ref b] below meth c H [] 600002 7302232 (lw_Z below #[Value.ref b] s) (F0 m pc ls [.int 1]) := by
  intro T hT X
  obtain ⟨fs, hret, hrun, hended, hW, hframe⟩ := X.leave (v := some (.int 1)) (hlocks := hlocks) (fun h => by rw [hr] at h; cases h)
  have hmeth' : T.vm.method? m = some meth := X.method'
  refine ⟨T.setFrames fs, ?_, .returned (some (.int 1)), hrun, hended, rfl, ⟨_, rfl⟩, hW, hframe⟩
  jvm_step X.here [X.here.top, hx, hb, hdg, hmeth', hr, ret, narrow_b1]
  (try refine ⟨rfl, ?_⟩); (try refine ⟨rfl, ?_⟩)
  first | (intro acts; rw [hret _ acts rfl rfl rfl]) | rw [hret _ _ rfl rfl rfl]
  exact Steps.refl _
/-- what holds at the law's entry: the machine, the code, the tables' words (any of lw_tbl by 'hts w (by decide +kernel)'), the script of L ints xs at the cell b, what the Statement gives of the start (any of its parts by flat_of_before) -/
def lw_At (p : Program) (s : State) (m : MethodId) (meth : Method) (c : Code) (b L : Nat) (xs : Nat → Int32) : Prop :=
  p.tables.exec = Jvm.exec ∧ c.code = code ∧ meth.sig.returnType = ret ∧ c.maxLocals = 7 ∧ s.vm.findClass R_law = some m.cls ∧ (∀ w ∈ lw_tbl, w.before #[Value.ref b] s = true) ∧ va_X b L xs s s.heap ∧ b < s.heap.size ∧ meth.locks = false ∧ (Jvm.Cond.and given_1 narrow_1).before #[Value.ref b] s = true
/-- what is left to prove, on the abstract machine alone: the law, on that script, answers 1 and stays in the room -/
def ai_Law (L : Nat) (xs : Nat → Int32) : Prop := ∃ (d n : Nat) (o : ai_O), ai_wp L xs ai_m159 (fun mi as S Q => ∃ o, ai_run L xs d mi as S o ∧ Q o) (fun x => x = o) n (0, ai_in ai_m159 [.retAddr 0], [], ai_S0) ∧ o.1 = .inl (some (.int 1)) ∧ o.2.2.1 ≤ 600002 ∧ o.2.2.2.1 ≤ 7302232
theorem ai_instck : ai_cl.all (fun q => decide (Cond.instantiable q.1 q.2.2 ∈ lw_tbl)) = true := by decide +kernel
theorem ai_inst_ok {ci : Nat} {C : String} {T : u_T} {N : Nat} (h : ai_cl[ci]? = some (C, T, N)) : Cond.instantiable C N ∈ lw_tbl := by
  have := List.all_eq_true.mp ai_instck _ (List.mem_of_getElem? h)
  simpa using this
theorem ai_nws : ai_nw.all (fun w => decide (w ∈ lw_tbl) && w.onTables) = true := by decide +kernel
def ai_tyL : List FieldType := [.int, .char, .boolean, .long, .object ai_pairN]
/-- the tables at the law's start -/
theorem ai_K0 {args : Array Value} {s : State} (hts : ∀ w ∈ lw_tbl, w.before args s = true) : ∃ D dA, ai_K D dA s := by
  have hws : ∀ w ∈ ai_ws, w.before args s = true := fun w hw => hts w (ai_wsin hw).1
  have h1 : ∀ ci : Nat, ∃ z : ClassId × (Nat → Nat), ∀ q, ai_cl[ci]? = some q → u_Kn s q.1 q.2.1 q.2.2 z.1 z.2 := by
    intro ci
    cases hc : ai_cl[ci]? with
    | none => exact ⟨(0, fun _ => 0), fun q h => by cases h⟩
    | some q =>
      obtain ⟨C, T, N⟩ := q
      obtain ⟨cC, iS, hK⟩ := u_known (n := N) hws (ai_cl_in hc) (hts _ (ai_inst_ok hc))
      exact ⟨(cC, iS), fun q h => by cases h; exact hK⟩
  obtain ⟨f, hf⟩ := Classical.axiomOfChoice h1
  have prim : ∀ ty : FieldType, (Cond.arrayClass ty).before args s = true → (∀ C, ty ≠ .object C) → ∃ cA, ArrOfT s cA ty ∧ va_RA s cA ty := by
    intro ty h hn
    obtain ⟨cA, kA, comp, hfind, hk, hkind⟩ := Cond.arrayClass_spec h
    refine ⟨cA, fun n z => ⟨fun k h => (by cases h), kA, hk, comp, hkind⟩, ?_⟩
    cases ty <;> first | exact hfind | exact absurd rfl (hn _)
  have h2 : ∀ t : Nat, ∃ cA : ClassId, ∀ ty, ai_tyL[t]? = some ty → ArrOfT s cA ty ∧ va_RA s cA ty := by
    intro t
    match t with
    | 0 =>
      obtain ⟨cA, h⟩ := prim .int (hws _ (ai_arr_ok (ty := .int) rfl)) (fun C h => by cases h)
      exact ⟨cA, fun ty h' => by cases h'; exact h⟩
    | 1 =>
      obtain ⟨cA, h⟩ := prim .char (hws _ (ai_arr_ok (ty := .char) rfl)) (fun C h => by cases h)
      exact ⟨cA, fun ty h' => by cases h'; exact h⟩
    | 2 =>
      obtain ⟨cA, h⟩ := prim .boolean (hws _ (ai_arr_ok (ty := .boolean) rfl)) (fun C h => by cases h)
      exact ⟨cA, fun ty h' => by cases h'; exact h⟩
    | 3 =>
      obtain ⟨cA, h⟩ := prim .long (hws _ (ai_arr_ok (ty := .long) rfl)) (fun C h => by cases h)
      exact ⟨cA, fun ty h' => by cases h'; exact h⟩
    | 4 =>
      obtain ⟨comp, cA, kA, q1, q2, q3, q4, q5⟩ := Cond.arrayOver_spec (hts (.arrayOver (.object ai_pairN)) (by decide +kernel))
      exact ⟨cA, fun ty h' => by
        cases h'
        exact ⟨fun n z => ⟨fun k h => (by cases h), kA, q3, comp, q4⟩, kA, comp, q3, q4, q1, q5⟩⟩
    | n + 5 => exact ⟨0, fun ty h => by simp [ai_tyL] at h⟩
  obtain ⟨g, hg⟩ := Classical.axiomOfChoice h2
  refine ⟨(fun c => (f c).1, fun c => (f c).2), g, ⟨fun c q hq => hf c q hq, fun k q hq => ?_⟩, fun w hw => ?_, va_AO.of (hts (.arrayOver (.object ai_pairN)) (by decide +kernel))⟩
  · match k, hq with
    | 0, hq => cases hq; exact hg 0 _ rfl
    | 1, hq => cases hq; exact hg 1 _ rfl
    | 2, hq => cases hq; exact hg 2 _ rfl
    | 3, hq => cases hq; exact hg 3 _ rfl
    | 4, hq => cases hq; exact hg 4 _ rfl
    | n + 5, hq => simp [ai_tys] at hq
  · have h3 := List.all_eq_true.mp ai_nws w hw
    simp only [Bool.and_eq_true, decide_eq_true_eq] at h3
    exact va_Nw.of h3.2 (hts w h3.1)
/-- what a throw rests on, at the law's start -/
theorem ai_KX0 {b0 : Nat} {s : State} (hts : ∀ w ∈ lw_tbl, w.before #[Value.ref b0] s = true) (hg : (Jvm.Cond.and given_1 narrow_1).before #[Value.ref b0] s = true) : ai_KX s.heap.size s := by
  have hs := flat_of_before _ hg
  refine ⟨ai_Zs.of (args := #[Value.ref b0]) (hts _ (by decide +kernel)) (hs _ (by decide +kernel)) (Nat.le_refl _), ai_Zs.of (args := #[Value.ref b0]) (hts _ (by decide +kernel)) (hs _ (by decide +kernel)) (Nat.le_refl _), fun q hq => ?_, fun q hq => ?_, fun E hE => ?_, fun y hy => ?_⟩
  · have h1 : ai_txt.all (fun q => decide (Cond.stringRef q.1 q.2.1 q.2.2 ∈ lw_tbl) && decide (Cond.exactly (.string q.1 q.2.1) "java/lang/String" ∈ flatC (Jvm.Cond.and given_1 narrow_1))) = true := by decide +kernel
    have h2 := List.all_eq_true.mp h1 q hq
    simp only [Bool.and_eq_true, decide_eq_true_eq] at h2
    obtain ⟨a, -, -, -, h3, -⟩ := Cond.exactly_spec (hs _ h2.2)
    exact ⟨a, vk_R.of (hts _ h2.1) h3⟩
  · have h1 : ai_ncL.all (fun q => decide (Cond.not (.castable q.1 q.2) ∈ flatC (Jvm.Cond.and given_1 narrow_1))) = true := by decide +kernel
    have h2 := List.all_eq_true.mp h1 q hq
    simp only [decide_eq_true_eq] at h2
    exact va_Nc.of (hs _ h2)
  · have h1 : ai_ca.all (fun E => decide (Cond.castable E E ∈ lw_tbl)) = true := by decide +kernel
    have h2 := List.all_eq_true.mp h1 E hE
    simp only [decide_eq_true_eq] at h2
    exact va_Nw.of rfl (hts _ h2)
  · have h1 : ai_dcL.all (fun y => decide (Cond.declares y ∈ lw_tbl)) = true := by decide +kernel
    have h2 := List.all_eq_true.mp h1 y hy
    simp only [decide_eq_true_eq] at h2
    exact va_Nw.of rfl (hts _ h2)
set_option maxHeartbeats 4000000 in
theorem whole_start (hpure : ∀ L xs, L ≤ 3 → ai_Law L xs) {p : Program} {e : Env} {s : State} {m : MethodId} {below : List Frame} {meth : Method} {c : Code} (l : Launch) (hlt : l.stackTraces = false) {b L : Nat} {xs : Nat → Int32} (hL : L ≤ 3) (C0 : lw_At p s m meth c b L xs) : W p l e room_1 s m #[Value.ref b] below meth c s.heap [] 0 0 (lw_Z below #[Value.ref b] s) (entryFrame m ([Value.ref b] : List Value).toArray 7) := by
  obtain ⟨hx, hb, hr, hml, hown, hts, hX, hbl, hlocks, hg⟩ := C0
  obtain ⟨d, n, o, hwp, ho, hoc, hos⟩ := hpure L xs hL
  obtain ⟨D, dA, hK⟩ := ai_K0 hts
  have hKX := ai_KX0 hts hg
  have hMm : ai_m159 ∈ ai_MT := List.mem_of_getElem? (i := 159) rfl
  have X : ai_X p s m #[Value.ref b] meth c ai_m159 := ⟨hx, hb, hml, hown, fun w hw => hts w (ai_wsin hw).1, hr, hlocks, fun h => absurd rfl h, fun h => absurd rfl h⟩
  have hG := ai_loop_W (k0 := 0) (s0 := 0) (R := room_1) (b := s.heap.size) (sc := b) (o := o) (below := below) (e := e) (Q := lw_Z below #[Value.ref b] s) X hMm hK hKX (fun _ => ⟨hX, hbl, hbl⟩) ⟨by decide, by decide⟩ (Nat.le_refl _) (Nat.le_refl _) ⟨hoc, hos⟩ (ai_sound hlt d) (by
      intro F v _ _ hd hst _ hok H ls locs hl hP hS
      obtain ⟨pc, lv, st, S9⟩ := F
      subst hok
      cases ho
      simp only at hst
      subst hst
      exact va_forget hS.2.2 (W.widen (k := 600002) (n := 7302232) hoc hos (lw_ret hx hb hr hlocks hd))) (by
      intro F _ _ _ _ hty
      cases hty) (by
      intro F E _ _ ht
      cases ht) n _ (Nat.zero_le _) (Nat.zero_le _) hwp
  have hW := hG s.heap _ [] (ai_entry [.retAddr 0] (by decide)) (fun k q hq => by cases hq) va_S.rf
  rw [lg_entry_eq]
  exact hW
set_option maxHeartbeats 4000000 in
theorem lw_walk (hpure : ∀ L xs, L ≤ 3 → ai_Law L xs) (l : Launch) (hlt : l.stackTraces = false) (b : Addr) (xs : List Int32) : MetFree l x (headSpec (Jvm.Cond.code x code maxLocals ret :: tables_1) room_1) (lw_P b xs) (fun _ _ _ _ _ => True) lw_Q := by
  refine MetFree.of_bodyS (code := code) (maxLocals := maxLocals) (ret := ret) (by decide) ?_ ?_
  · intro args s m h hn
    obtain ⟨meth, c, h1, h2, h3, h4, h5, h6, -, -⟩ := Cond.code_spec hn (atoms_spec (ws := Jvm.Cond.code x code maxLocals ret :: tables_1) h _ List.mem_cons_self)
    exact ⟨meth, c, h1, h2, h3, h4, h5, h6⟩
  · intro p e s m args below meth c s₁ B hml0 hP _
    obtain ⟨rfl, hx, hbd, hgv⟩ := hP
    obtain ⟨scr, harrAt, hlist, hof, hsmall⟩ := hx
    obtain ⟨hcb, hkn, -, -⟩ := State.arrayAt?_spec harrAt
    have hown : s.vm.findClass R_law = some m.cls := findClass_of_methodNamed B.named
    have hts0 : ∀ c ∈ (Jvm.Cond.code x code maxLocals ret :: tables_1), c.before #[Value.ref b] s = true := atoms_spec (ws := Jvm.Cond.code x code maxLocals ret :: tables_1) B.pre
    have hts : ∀ w ∈ lw_tbl, w.before #[Value.ref b] s = true := k2_hts_sels lw_privs (fun w hw => hts0 w (List.mem_cons_of_mem _ hw)) lw_privs_ok
    have hml : c.maxLocals = 7 := B.maxLocals_eq (hts0 _ List.mem_cons_self)
    have X₀ : Stand p l e room_1 s m #[Value.ref b] below meth c s₁ [] 0 0 := Stand.of_body B
    have hh0 : s₁.heap = s.heap := by rw [B.state]; rfl
    have hsz : scr.slots.size = xs.length := by rw [← Array.length_toList, hlist, List.length_map]
    have hval : ∀ j : Nat, j < xs.length → scr.slots[j]? = some (.int (xs.getD j 0)) := fun j hj => by
      rw [← Array.getElem?_toList, hlist]
      simp [hj]
    have hbl : b < s.heap.size := (Array.getElem?_eq_some_iff.mp hcb).1
    have hX : va_X b xs.length (fun j => xs.getD j 0) s s.heap := ⟨scr, hcb, hof, hkn, hsz, hval⟩
    have K : W p l e room_1 s m #[Value.ref b] below meth c s₁.heap [] 0 0 (lw_Z below #[Value.ref b] s) (entryFrame m ([Value.ref b] : List Value).toArray 7) := by
      rw [hh0]
      exact whole_start hpure l hlt hbd ⟨B.exec, B.bytes, B.returns, hml, hown, hts, hX, hbl, B.notSynchronized, hgv⟩
    obtain ⟨t, a1, o, b1, b2, b3⟩ := K s₁ rfl X₀
    exact ⟨t, o, a1, b1, b2, b3⟩
theorem lw_pre_spec {args : Array Value} {s : State} (h : (Jvm.Cond.and given_1 narrow_1).before args s = true) (hr : rest_1_c.before args s = true) : ∃ (b : Addr) (xs : List Int32), lw_P b xs args s := by
  have hs := flat_of_before _ h
  have hq := flat_of_before _ hr
  have hc : (Cond.count 1).before args s = true := hs _ (by decide +kernel)
  have harr : (Cond.arrayOf (.arg 0) .int).before args s = true := hs _ (by decide +kernel)
  have hle : (Cond.le (.length (.arg 0)) (.int 3)).before args s = true := hs _ (by decide +kernel)
  have hlen : (Cond.isInt (.length (.arg 0))).before args s = true := hq _ (by decide +kernel)
  have hall : (Cond.all (.arg 0) (.isInt (.elem (.arg 0) (.index 0)))).before args s = true := hq _ (by decide +kernel)
  obtain ⟨b, xs, hb, hx⟩ := State.ints_of_pre rfl harr hlen hall
  have hsm : xs.length < 2 ^ 31 := hx.choose_spec.2.2.2
  have hev : (Term.length (.arg 0)).eval args s none [] s = some (.int xs.length.toInt32) := hx.length_eval hb
  have hv := Cond.le_ints hev (show (Term.int 3).eval args s none [] s = some (.int 3) from rfl)
  have hd : xs.length.toInt32 ≤ 3 := by
    simpa [Cond.before, Cond.holds, hv] using hle
  have hN : xs.length ≤ 3 := (Int32.ofNat_le_ofNat hsm (by decide)).mp (show Int32.ofNat xs.length ≤ Int32.ofNat 3 from hd)
  exact ⟨b, xs, Cond.one_arg hc (show args[0]? = some (.ref b) from hb), hx, hN, h⟩
theorem lw_comes (hpure : ∀ L xs, L ≤ 3 → ai_Law L xs) (l : Launch) (hlt : l.stackTraces = false) : Comes l x (Jvm.Cond.code x code maxLocals ret :: tables_1) room_1 (fun tb e args s => Calls_1 tb e args s ∧ rest_1 tb e args s ∧ Pre_1 tb e args s)
    (fun _ _ args s o t => lw_Q args s o t) := by
  intro p e ha hc hk s m args below hf hfit hheap happ hpre
  obtain ⟨b, xs, hP⟩ := lw_pre_spec hpre.2.2 hpre.2.1
  obtain ⟨k, o, h1, h2, h3, hQ⟩ := lw_walk hpure l hlt b xs p e ha hc hk s m args below hf ((Spec.applies_iff_loose hf).mp happ).1 hP trivial
  exact ⟨k, o, h1, h2, h3, hQ⟩
theorem lw_frame {s t : State} {o : Outcome} {args : Array Value} (h : Framed s o t [] 600002 7302232) :
    Framed s o t (fieldLocs frame_1_writes args s ++ arrayLocs frame_1_arrays args s ++ staticLocs frame_1_statics s) 600002 7302232 := h
theorem lw_limb (hpure : ∀ L xs, L ≤ 3 → ai_Law L xs) (L : Cond) (hL : ∀ (args : Array Value) (s t : State), L.after args s (.returned (some (.int 1))) t = true) :
    ArmFor flags0 classFile x code maxLocals ret World_1 tables_1 room_1 Calls_1 rest_1 Pre_1
      (fun tb e a s o t => postC L tb e a s o t ∧ Framed s o t (fieldLocs frame_1_writes a s ++ arrayLocs frame_1_arrays a s ++ staticLocs frame_1_statics s) 600002 7302232) := by
  intro l hfl _ _ p e ha hc hk s m args below hf hfit hheap happ hpre
  obtain ⟨k, o, h1, h2, h3, rfl, hF⟩ := lw_comes hpure l (by unfold Launch.stackTraces; rw [hfl]; decide +kernel) p e ha hc hk s m args below hf hfit hheap happ hpre
  exact ⟨k, _, h1, h2, h3, hL args s _, lw_frame hF⟩
theorem i_vc_open (hpure : ∀ L xs, L ≤ 3 → ai_Law L xs) : Claimed_1_1 ∧ Claimed_1_2 := ⟨lw_limb hpure limb_1_1 (fun args s t => by simp [limb_1_1, Cond.after, Cond.holds, Cond.value]), lw_limb hpure limb_1_2 (fun args s t => Cond.after_iff.mpr (by
  first | (rw [show limb_1_2 = Cond.eq .result (.int 1) from rfl, Cond.eq_ints (x := 1) (y := 1) rfl rfl]; simp; done) | (simp [limb_1_2, Cond.value, Term.eval]; done)))⟩
end
section
/-! The abstract machine as a program, for runs that are closed. -/
def ai_cmpB (c : ClassFile.Cond) (x y : Int32) : Bool := match c with
  | .eq => decide (x = y)
  | .ne => decide (¬ x = y)
  | .lt => decide (x < y)
  | .ge => decide (y ≤ x)
  | .gt => decide (y < x)
  | .le => decide (x ≤ y)
theorem ai_cmpB_ok (c : ClassFile.Cond) (x y : Int32) : ai_cmpB c x y = true ↔ ai_cmp c x y := by
  cases c <;> simp [ai_cmpB, ai_cmp]
abbrev ai_rF : Type := Nat → List Value → ai_S → Option ai_O
/-- behind a call -/
def ai_backF (M : ai_M) (kd pc : Nat) (lv : ai_L) (rest : List Value) (o : Option ai_O) : Option (ai_F ⊕ ai_O) := match o with
  | some (.inl v, S) => some (.inl (pc + 3, lv, v.toList ++ rest, S))
  | some (.inr E, S) => if kd = 0 then (match ai_hand M pc E with
      | some h => (match ai_at M h with
        | some (.astore_n k, 1) => if (k : Nat) < lv.length ∧ ((k : Nat) = 0 ∨ ai_isl (lv.getD ((k : Nat) - 1) none) = false) then some (.inl (h + 1, lv.set k none, [], S)) else none
        | _ => none)
      | none => none) else none
  | none => none
def ai_invF (run : ai_rF) (M : ai_M) (ks : List Nat) (x : Nat) (F : ai_F) : Option (ai_F ⊕ ai_O) := match ai_mth (ai_oi M) x with
  | some (kd, mi, na, ci) => if kd ∈ ks then
      (if kd = 2 ∨ kd = 3 ∨ kd = 6 then (if na ≤ F.2.2.1.length ∧ ai_sum (F.2.2.1.drop na) ≤ 8 then ai_backF M kd F.1 F.2.1 (F.2.2.1.drop na) (run mi (F.2.2.1.take na).reverse F.2.2.2) else none)
       else match F.2.2.1.drop na with
         | .ref a :: rest => if na ≤ F.2.2.1.length ∧ ai_sum rest ≤ 8 ∧ (ai_obj F.2.2.2 a ci).isSome = true then ai_backF M kd F.1 F.2.1 rest (run mi (.ref a :: (F.2.2.1.take na).reverse) F.2.2.2) else none
         | _ => none)
      else none
  | none => none
def ai_oneF (M : ai_M) (run : ai_rF) (F : ai_F) : Option (ai_F ⊕ ai_O) := match ai_at M F.1 with
  | none => none
  | some (i, len) => match i with
    | .goto off => some (.inl (ai_to F.1 off, F.2))
    | .ifCond c off => match F.2.2.1 with
      | .int x :: r => if ai_cmpB c x 0 = true then some (.inl (ai_to F.1 off, F.2.1, r, F.2.2.2)) else some (.inl (F.1 + 3, F.2.1, r, F.2.2.2))
      | _ => none
    | .if_icmp c off => match F.2.2.1 with
      | .int y :: .int x :: r => if ai_cmpB c x y = true then some (.inl (ai_to F.1 off, F.2.1, r, F.2.2.2)) else some (.inl (F.1 + 3, F.2.1, r, F.2.2.2))
      | _ => none
    | .tableswitch _ _ _ _ => none
    | .invokevirtual x => ai_invF run M [0, 1] x F
    | .invokestatic x => if ai_isCpy (ai_oi M) x = true then none else ai_invF run M [2, 3, 6] x F
    | .invokespecial x => if ai_isObj (ai_oi M) x = true then (match F.2.2.1 with
        | .ref _ :: r => if ai_sum r ≤ 8 then some (.inl (F.1 + 3, F.2.1, r, F.2.2.2)) else none
        | _ => none) else ai_invF run M [4, 5] x F
    | .ireturn => match F.2.2.1 with
      | [.int v] => match ai_ret M with
        | some ty => if narrow ty (.int v) = .int v then some (.inr (ai_ok (some (.int v)) F.2.2.2)) else none
        | none => none
      | _ => none
    | .return_ => match F.2.2.1 with
      | [] => match ai_ret M with
        | none => some (.inr (ai_ok none F.2.2.2))
        | some _ => none
      | _ => none
    | i => match ai_thr M F.1 with
      | some E => if ai_sum F.2.2.1 ≤ 8 then some (.inr (.inr E, (F.2.2.2.1, F.2.2.2.2.1 + 1, F.2.2.2.2.2.1 + 6, F.2.2.2.2.2.2))) else none
      | none => match ai_step 0 (fun _ => 0) M i len F with
        | some G => some (.inl G)
        | none => none
def ai_loopF (M : ai_M) (run : ai_rF) : Nat → ai_F → Option ai_O
  | 0, _ => none
  | n + 1, F => match ai_oneF M run F with
    | none => none
    | some (.inl G) => ai_loopF M run n G
    | some (.inr o) => some o
def ai_runF (f : Nat) : Nat → ai_rF
  | 0 => fun _ _ _ => none
  | d + 1 => fun mi as S => match ai_MT[mi]? with
    | none => none
    | some M => if ai_oi M = 99 ∨ ¬ (ai_ent as).length ≤ ai_nL M then none else ai_loopF M (ai_runF f d) f (0, ai_in M as, [], S)
section AIR
variable {M : ai_M} {L : Nat} {xs : Nat → Int32} {rF : ai_rF} {run : Nat → List Value → ai_S → ai_O → Prop}
theorem ai_step_free {i : Instr} {len : Nat} {F : ai_F} (h : ai_oi M ≠ 99) : ai_step 0 (fun _ => 0) M i len F = ai_step L xs M i len F := by
  unfold ai_step ai_scr
  simp only [if_neg h]
theorem ai_invF_ok {ks : List Nat} {x : Nat} {F : ai_F} {r : ai_F ⊕ ai_O} (hr : ∀ mi as S o, rF mi as S = some o → run mi as S o) (h : ai_invF rF M ks x F = some r) : ∃ G, r = .inl G ∧ ∀ go : ai_F → Prop, go G → ai_inv (fun mi as S Q => ∃ o, run mi as S o ∧ Q o) M go ks x F := by
  have hb : ∀ (mi : Nat) (as : List Value) (pc : Nat) (lv : ai_L) (rest : List Value) (kd : Nat), ai_backF M kd pc lv rest (rF mi as F.2.2.2) = some r → ∃ G, r = .inl G ∧ ∀ go : ai_F → Prop, go G → ∃ o, run mi as F.2.2.2 o ∧ ai_back M go kd pc lv rest o := by
    intro mi as pc lv rest kd h
    unfold ai_backF at h
    split at h
    · rename_i v S' he
      cases h
      exact ⟨_, rfl, fun go hg => ⟨_, hr _ _ _ _ he, hg⟩⟩
    · rename_i E S' he
      by_cases hkd : kd = 0
      · rw [if_pos hkd] at h
        split at h
        · rename_i hh hhe
          split at h
          · rename_i k hka
            by_cases hc : (k : Nat) < lv.length ∧ ((k : Nat) = 0 ∨ ai_isl (lv.getD ((k : Nat) - 1) none) = false)
            · rw [if_pos hc] at h
              cases h
              refine ⟨_, rfl, fun go hg => ⟨_, hr _ _ _ _ he, ?_⟩⟩
              simp only [ai_back, hhe, hka]
              exact ⟨hkd, hc.1, hc.2, hg⟩
            · rw [if_neg hc] at h; cases h
          · cases h
        · cases h
      · rw [if_neg hkd] at h; cases h
    · cases h
  unfold ai_invF at h
  unfold ai_inv
  cases he : ai_mth (ai_oi M) x with
  | none => rw [he] at h; cases h
  | some q =>
    obtain ⟨kd, mi, na, ci⟩ := q
    rw [he] at h
    simp only at h ⊢
    by_cases hk : kd ∈ ks
    · rw [if_pos hk] at h
      by_cases h23 : kd = 2 ∨ kd = 3 ∨ kd = 6
      · rw [if_pos h23] at h
        simp only [if_pos h23]
        by_cases hc : na ≤ F.2.2.1.length ∧ ai_sum (F.2.2.1.drop na) ≤ 8
        · rw [if_pos hc] at h
          obtain ⟨G, e1, e2⟩ := hb _ _ _ _ _ kd h
          exact ⟨G, e1, fun go hg => ⟨hk, hc.1, hc.2, e2 go hg⟩⟩
        · rw [if_neg hc] at h; cases h
      · rw [if_neg h23] at h
        simp only [if_neg h23]
        split at h
        · rename_i a rest hs
          by_cases hc : na ≤ F.2.2.1.length ∧ ai_sum rest ≤ 8 ∧ (ai_obj F.2.2.2 a ci).isSome = true
          · rw [if_pos hc] at h
            obtain ⟨G, e1, e2⟩ := hb _ _ _ _ _ kd h
            obtain ⟨fs, hfs⟩ := Option.isSome_iff_exists.mp hc.2.2
            exact ⟨G, e1, fun go hg => ⟨hk, by (try simp only [hs]); exact ⟨hc.1, hc.2.1, ⟨fs, hfs⟩, e2 go hg⟩⟩⟩
          · rw [if_neg hc] at h; cases h
        · cases h
    · rw [if_neg hk] at h; cases h
set_option maxHeartbeats 2000000 in
theorem ai_oneF_ok {F : ai_F} {r : ai_F ⊕ ai_O} (h99 : ai_oi M ≠ 99) (hr : ∀ mi as S o, rF mi as S = some o → run mi as S o) (h : ai_oneF M rF F = some r) : (∃ G, r = .inl G ∧ ∀ (go : ai_F → Prop) (Q : ai_O → Prop), go G → ai_one L xs M (fun mi as S Q => ∃ o, run mi as S o ∧ Q o) go Q F) ∨ (∃ o, r = .inr o ∧ ∀ (go : ai_F → Prop) (Q : ai_O → Prop), Q o → ai_one L xs M (fun mi as S Q => ∃ o, run mi as S o ∧ Q o) go Q F) := by
  unfold ai_oneF at h
  unfold ai_one
  cases ha : ai_at M F.1 with
  | none => rw [ha] at h; cases h
  | some q =>
    obtain ⟨i, len⟩ := q
    rw [ha] at h
    cases i
    case goto off => cases h; exact Or.inl ⟨_, rfl, fun go Q hg => hg⟩
    case ifCond c off =>
      simp only at h ⊢
      split at h
      · rename_i x rr hs
        by_cases hc : ai_cmpB c x 0 = true
        · rw [if_pos hc] at h; cases h
          exact Or.inl ⟨_, rfl, fun go Q hg => by (try simp only [hs]); exact ⟨fun _ => hg, fun z => absurd ((ai_cmpB_ok ..).mp hc) z⟩⟩
        · rw [if_neg hc] at h; cases h
          exact Or.inl ⟨_, rfl, fun go Q hg => by (try simp only [hs]); exact ⟨fun z => absurd ((ai_cmpB_ok ..).mpr z) hc, fun _ => hg⟩⟩
      · cases h
    case if_icmp c off =>
      simp only at h ⊢
      split at h
      · rename_i y x rr hs
        by_cases hc : ai_cmpB c x y = true
        · rw [if_pos hc] at h; cases h
          exact Or.inl ⟨_, rfl, fun go Q hg => by (try simp only [hs]); exact ⟨fun _ => hg, fun z => absurd ((ai_cmpB_ok ..).mp hc) z⟩⟩
        · rw [if_neg hc] at h; cases h
          exact Or.inl ⟨_, rfl, fun go Q hg => by (try simp only [hs]); exact ⟨fun z => absurd ((ai_cmpB_ok ..).mpr z) hc, fun _ => hg⟩⟩
      · cases h
    case tableswitch => cases h
    case invokevirtual x =>
      obtain ⟨G, e1, e2⟩ := ai_invF_ok hr h
      exact Or.inl ⟨G, e1, fun go Q hg => e2 go hg⟩
    case invokestatic x =>
      simp only at h ⊢
      by_cases hx : ai_isCpy (ai_oi M) x = true
      · rw [if_pos hx] at h; cases h
      · rw [if_neg hx] at h
        simp only [if_neg hx]
        obtain ⟨G, e1, e2⟩ := ai_invF_ok hr h
        exact Or.inl ⟨G, e1, fun go Q hg => e2 go hg⟩
    case invokespecial x =>
      simp only at h ⊢
      by_cases hx : ai_isObj (ai_oi M) x = true
      · rw [if_pos hx] at h
        simp only [if_pos hx]
        split at h
        · rename_i a rr hs
          by_cases hc : ai_sum rr ≤ 8
          · rw [if_pos hc] at h; cases h
            exact Or.inl ⟨_, rfl, fun go Q hg => by (try simp only [hs]); exact ⟨hc, hg⟩⟩
          · rw [if_neg hc] at h; cases h
        · cases h
      · rw [if_neg hx] at h
        simp only [if_neg hx]
        obtain ⟨G, e1, e2⟩ := ai_invF_ok hr h
        exact Or.inl ⟨G, e1, fun go Q hg => e2 go hg⟩
    case ireturn =>
      simp only at h ⊢
      split at h
      · rename_i v hs
        split at h
        · rename_i ty hty
          by_cases hc : narrow ty (.int v) = .int v
          · rw [if_pos hc] at h; cases h
            exact Or.inr ⟨_, rfl, fun go Q hq => by (try simp only [hs]); exact ⟨⟨ty, hty, hc⟩, hq⟩⟩
          · rw [if_neg hc] at h; cases h
        · cases h
      · cases h
    case return_ =>
      simp only at h ⊢
      split at h
      · rename_i hs
        split at h
        · rename_i hty
          cases h
          exact Or.inr ⟨_, rfl, fun go Q hq => ⟨hs, hty, hq⟩⟩
        · cases h
      · cases h
    all_goals
      simp only at h ⊢
      split at h
      · rename_i E hE
        by_cases hc : ai_sum F.2.2.1 ≤ 8
        · rw [if_pos hc] at h
          cases h
          exact Or.inr ⟨_, rfl, fun go Q hq => by (try simp only [hE]); exact ⟨hc, hq⟩⟩
        · rw [if_neg hc] at h; cases h
      · rename_i hE
        split at h
        · rename_i G hG
          cases h
          rw [ai_step_free (L := L) (xs := xs) h99] at hG
          refine Or.inl ⟨G, rfl, fun go Q hg => ?_⟩
          try simp only [hE, hG]
          exact hg
        · cases h
theorem ai_loopF_ok (h99 : ai_oi M ≠ 99) (hr : ∀ mi as S o, rF mi as S = some o → run mi as S o) : ∀ (n : Nat) (F : ai_F) (o : ai_O), ai_loopF M rF n F = some o → ai_wp L xs M (fun mi as S Q => ∃ o, run mi as S o ∧ Q o) (fun x => x = o) n F := by
  intro n
  induction n with
  | zero => intro F o h; cases h
  | succ n ih =>
    intro F o h
    unfold ai_loopF at h
    cases ho : ai_oneF M rF F with
    | none => rw [ho] at h; cases h
    | some r =>
      rw [ho] at h
      rcases ai_oneF_ok (L := L) (xs := xs) h99 hr ho with ⟨G, rfl, e2⟩ | ⟨o', rfl, e2⟩
      · exact e2 _ _ (ih G o h)
      · cases h
        exact e2 _ _ rfl
theorem ai_runF_ok {f : Nat} : ∀ (d mi : Nat) (as : List Value) (S : ai_S) (o : ai_O), ai_runF f d mi as S = some o → ai_run L xs d mi as S o := by
  intro d
  induction d with
  | zero => intro mi as S o h; cases h
  | succ d ih =>
    intro mi as S o h
    unfold ai_runF at h
    cases hM : ai_MT[mi]? with
    | none => rw [hM] at h; cases h
    | some M =>
      rw [hM] at h
      simp only at h
      by_cases hc : ai_oi M = 99 ∨ ¬ (ai_ent as).length ≤ ai_nL M
      · rw [if_pos hc] at h; cases h
      · rw [if_neg hc] at h
        have h99 : ai_oi M ≠ 99 := fun z => hc (Or.inl z)
        have hle : (ai_ent as).length ≤ ai_nL M := Classical.byContradiction fun z => hc (Or.inr z)
        exact ⟨M, f, hM, h99, hle, ai_loopF_ok h99 ih f _ o h⟩
end AIR
end
section
/-! The fresh objects: the constructors' run, by computation. -/
def ai_isO (x : ai_C) (c : Nat) (fs : List Value) : Bool := match x with
  | .inr (c', fs') => decide (c' = c) && decide (fs' = fs)
  | _ => false
def ai_isZ (x : ai_C) (t n : Nat) (v : Int32) : Bool := match x with
  | .inl (t', n', .inl f) => decide (t' = t) && decide (n' = n) && (List.range n).all fun j => decide (f j = v)
  | _ => false
def ai_isP (x : ai_C) (n b : Nat) : Bool := match x with
  | .inl (4, n', .inr (.inr (.inr (.inr f)))) => decide (n' = n) && (List.range n).all fun j => decide (f j = some (b + 5 * j))
  | _ => false
def ai_isL (x : ai_C) (v : Int64) : Bool := match x with
  | .inl (3, 1, .inr (.inl f)) => decide (f 0 = v)
  | _ => false
def ai_fo0 : List (Nat × Nat × List Value) := [(0, 0, [.ref 1, .ref 4, .ref 6, .ref 11]), (1, 1, [.ref 2, .ref 3, .int 0]), (4, 2, [.ref 5, .int 0]), (6, 3, [.ref 7, .ref 9]), (7, 4, [.ref 8, .int 0]), (9, 4, [.ref 10, .int 0]), (11, 5, [.ref 12, .ref 84, .ref 326, .ref 412, .ref 417, .ref 425, .ref 398, .ref 400, .ref 405, .ref 410, .int 0, .int 0]), (12, 6, [.ref 13, .int 0]), (14, 3, [.ref 15, .ref 17]), (15, 4, [.ref 16, .int 0]), (17, 4, [.ref 18, .int 0]), (19, 3, [.ref 20, .ref 22]), (20, 4, [.ref 21, .int 0]), (22, 4, [.ref 23, .int 0]), (24, 3, [.ref 25, .ref 27]), (25, 4, [.ref 26, .int 0]), (27, 4, [.ref 28, .int 0]), (29, 3, [.ref 30, .ref 32]), (30, 4, [.ref 31, .int 0]), (32, 4, [.ref 33, .int 0]), (34, 3, [.ref 35, .ref 37]), (35, 4, [.ref 36, .int 0]), (37, 4, [.ref 38, .int 0]), (39, 3, [.ref 40, .ref 42]), (40, 4, [.ref 41, .int 0]), (42, 4, [.ref 43, .int 0]), (44, 3, [.ref 45, .ref 47]), (45, 4, [.ref 46, .int 0]), (47, 4, [.ref 48, .int 0]), (49, 3, [.ref 50, .ref 52]), (50, 4, [.ref 51, .int 0]), (52, 4, [.ref 53, .int 0]), (54, 3, [.ref 55, .ref 57]), (55, 4, [.ref 56, .int 0]), (57, 4, [.ref 58, .int 0]), (59, 3, [.ref 60, .ref 62]), (60, 4, [.ref 61, .int 0]), (62, 4, [.ref 63, .int 0]), (64, 3, [.ref 65, .ref 67]), (65, 4, [.ref 66, .int 0]), (67, 4, [.ref 68, .int 0]), (69, 3, [.ref 70, .ref 72]), (70, 4, [.ref 71, .int 0]), (72, 4, [.ref 73, .int 0]), (74, 3, [.ref 75, .ref 77]), (75, 4, [.ref 76, .int 0]), (77, 4, [.ref 78, .int 0]), (79, 3, [.ref 80, .ref 82]), (80, 4, [.ref 81, .int 0]), (82, 4, [.ref 83, .int 0]), (84, 6, [.ref 85, .int 0]), (86, 3, [.ref 87, .ref 89]), (87, 4, [.ref 88, .int 0]), (89, 4, [.ref 90, .int 0]), (91, 3, [.ref 92, .ref 94]), (92, 4, [.ref 93, .int 0]), (94, 4, [.ref 95, .int 0]), (96, 3, [.ref 97, .ref 99]), (97, 4, [.ref 98, .int 0]), (99, 4, [.ref 100, .int 0])]
def ai_fo1 : List (Nat × Nat × List Value) := [(101, 3, [.ref 102, .ref 104]), (102, 4, [.ref 103, .int 0]), (104, 4, [.ref 105, .int 0]), (106, 3, [.ref 107, .ref 109]), (107, 4, [.ref 108, .int 0]), (109, 4, [.ref 110, .int 0]), (111, 3, [.ref 112, .ref 114]), (112, 4, [.ref 113, .int 0]), (114, 4, [.ref 115, .int 0]), (116, 3, [.ref 117, .ref 119]), (117, 4, [.ref 118, .int 0]), (119, 4, [.ref 120, .int 0]), (121, 3, [.ref 122, .ref 124]), (122, 4, [.ref 123, .int 0]), (124, 4, [.ref 125, .int 0]), (126, 3, [.ref 127, .ref 129]), (127, 4, [.ref 128, .int 0]), (129, 4, [.ref 130, .int 0]), (131, 3, [.ref 132, .ref 134]), (132, 4, [.ref 133, .int 0]), (134, 4, [.ref 135, .int 0]), (136, 3, [.ref 137, .ref 139]), (137, 4, [.ref 138, .int 0]), (139, 4, [.ref 140, .int 0]), (141, 3, [.ref 142, .ref 144]), (142, 4, [.ref 143, .int 0]), (144, 4, [.ref 145, .int 0]), (146, 3, [.ref 147, .ref 149]), (147, 4, [.ref 148, .int 0]), (149, 4, [.ref 150, .int 0]), (151, 3, [.ref 152, .ref 154]), (152, 4, [.ref 153, .int 0]), (154, 4, [.ref 155, .int 0]), (156, 3, [.ref 157, .ref 159]), (157, 4, [.ref 158, .int 0]), (159, 4, [.ref 160, .int 0]), (161, 3, [.ref 162, .ref 164]), (162, 4, [.ref 163, .int 0]), (164, 4, [.ref 165, .int 0]), (166, 3, [.ref 167, .ref 169]), (167, 4, [.ref 168, .int 0]), (169, 4, [.ref 170, .int 0]), (171, 3, [.ref 172, .ref 174]), (172, 4, [.ref 173, .int 0]), (174, 4, [.ref 175, .int 0]), (176, 3, [.ref 177, .ref 179]), (177, 4, [.ref 178, .int 0]), (179, 4, [.ref 180, .int 0]), (181, 3, [.ref 182, .ref 184]), (182, 4, [.ref 183, .int 0]), (184, 4, [.ref 185, .int 0]), (186, 3, [.ref 187, .ref 189]), (187, 4, [.ref 188, .int 0]), (189, 4, [.ref 190, .int 0]), (191, 3, [.ref 192, .ref 194]), (192, 4, [.ref 193, .int 0]), (194, 4, [.ref 195, .int 0]), (196, 3, [.ref 197, .ref 199]), (197, 4, [.ref 198, .int 0]), (199, 4, [.ref 200, .int 0])]
def ai_fo2 : List (Nat × Nat × List Value) := [(201, 3, [.ref 202, .ref 204]), (202, 4, [.ref 203, .int 0]), (204, 4, [.ref 205, .int 0]), (206, 3, [.ref 207, .ref 209]), (207, 4, [.ref 208, .int 0]), (209, 4, [.ref 210, .int 0]), (211, 3, [.ref 212, .ref 214]), (212, 4, [.ref 213, .int 0]), (214, 4, [.ref 215, .int 0]), (216, 3, [.ref 217, .ref 219]), (217, 4, [.ref 218, .int 0]), (219, 4, [.ref 220, .int 0]), (221, 3, [.ref 222, .ref 224]), (222, 4, [.ref 223, .int 0]), (224, 4, [.ref 225, .int 0]), (226, 3, [.ref 227, .ref 229]), (227, 4, [.ref 228, .int 0]), (229, 4, [.ref 230, .int 0]), (231, 3, [.ref 232, .ref 234]), (232, 4, [.ref 233, .int 0]), (234, 4, [.ref 235, .int 0]), (236, 3, [.ref 237, .ref 239]), (237, 4, [.ref 238, .int 0]), (239, 4, [.ref 240, .int 0]), (241, 3, [.ref 242, .ref 244]), (242, 4, [.ref 243, .int 0]), (244, 4, [.ref 245, .int 0]), (246, 3, [.ref 247, .ref 249]), (247, 4, [.ref 248, .int 0]), (249, 4, [.ref 250, .int 0]), (251, 3, [.ref 252, .ref 254]), (252, 4, [.ref 253, .int 0]), (254, 4, [.ref 255, .int 0]), (256, 3, [.ref 257, .ref 259]), (257, 4, [.ref 258, .int 0]), (259, 4, [.ref 260, .int 0]), (261, 3, [.ref 262, .ref 264]), (262, 4, [.ref 263, .int 0]), (264, 4, [.ref 265, .int 0]), (266, 3, [.ref 267, .ref 269]), (267, 4, [.ref 268, .int 0]), (269, 4, [.ref 270, .int 0]), (271, 3, [.ref 272, .ref 274]), (272, 4, [.ref 273, .int 0]), (274, 4, [.ref 275, .int 0]), (276, 3, [.ref 277, .ref 279]), (277, 4, [.ref 278, .int 0]), (279, 4, [.ref 280, .int 0]), (281, 3, [.ref 282, .ref 284]), (282, 4, [.ref 283, .int 0]), (284, 4, [.ref 285, .int 0]), (286, 3, [.ref 287, .ref 289]), (287, 4, [.ref 288, .int 0]), (289, 4, [.ref 290, .int 0]), (291, 3, [.ref 292, .ref 294]), (292, 4, [.ref 293, .int 0]), (294, 4, [.ref 295, .int 0]), (296, 3, [.ref 297, .ref 299]), (297, 4, [.ref 298, .int 0]), (299, 4, [.ref 300, .int 0])]
def ai_fo3 : List (Nat × Nat × List Value) := [(301, 3, [.ref 302, .ref 304]), (302, 4, [.ref 303, .int 0]), (304, 4, [.ref 305, .int 0]), (306, 3, [.ref 307, .ref 309]), (307, 4, [.ref 308, .int 0]), (309, 4, [.ref 310, .int 0]), (311, 3, [.ref 312, .ref 314]), (312, 4, [.ref 313, .int 0]), (314, 4, [.ref 315, .int 0]), (316, 3, [.ref 317, .ref 319]), (317, 4, [.ref 318, .int 0]), (319, 4, [.ref 320, .int 0]), (321, 3, [.ref 322, .ref 324]), (322, 4, [.ref 323, .int 0]), (324, 4, [.ref 325, .int 0]), (326, 6, [.ref 327, .int 0]), (328, 3, [.ref 329, .ref 331]), (329, 4, [.ref 330, .int 0]), (331, 4, [.ref 332, .int 0]), (333, 3, [.ref 334, .ref 336]), (334, 4, [.ref 335, .int 0]), (336, 4, [.ref 337, .int 0]), (338, 3, [.ref 339, .ref 341]), (339, 4, [.ref 340, .int 0]), (341, 4, [.ref 342, .int 0]), (343, 3, [.ref 344, .ref 346]), (344, 4, [.ref 345, .int 0]), (346, 4, [.ref 347, .int 0]), (348, 3, [.ref 349, .ref 351]), (349, 4, [.ref 350, .int 0]), (351, 4, [.ref 352, .int 0]), (353, 3, [.ref 354, .ref 356]), (354, 4, [.ref 355, .int 0]), (356, 4, [.ref 357, .int 0]), (358, 3, [.ref 359, .ref 361]), (359, 4, [.ref 360, .int 0]), (361, 4, [.ref 362, .int 0]), (363, 3, [.ref 364, .ref 366]), (364, 4, [.ref 365, .int 0]), (366, 4, [.ref 367, .int 0]), (368, 3, [.ref 369, .ref 371]), (369, 4, [.ref 370, .int 0]), (371, 4, [.ref 372, .int 0]), (373, 3, [.ref 374, .ref 376]), (374, 4, [.ref 375, .int 0]), (376, 4, [.ref 377, .int 0]), (378, 3, [.ref 379, .ref 381]), (379, 4, [.ref 380, .int 0]), (381, 4, [.ref 382, .int 0]), (383, 3, [.ref 384, .ref 386]), (384, 4, [.ref 385, .int 0]), (386, 4, [.ref 387, .int 0]), (388, 3, [.ref 389, .ref 391]), (389, 4, [.ref 390, .int 0]), (391, 4, [.ref 392, .int 0]), (393, 3, [.ref 394, .ref 396]), (394, 4, [.ref 395, .int 0]), (396, 4, [.ref 397, .int 0]), (398, 7, [.ref 399, .int 0]), (400, 3, [.ref 401, .ref 403])]
def ai_fo4 : List (Nat × Nat × List Value) := [(401, 4, [.ref 402, .int 0]), (403, 4, [.ref 404, .int 0]), (405, 3, [.ref 406, .ref 408]), (406, 4, [.ref 407, .int 0]), (408, 4, [.ref 409, .int 0]), (410, 4, [.ref 411, .int 0]), (412, 8, [.ref 1, .ref 12, .ref 413, .ref 414, .ref 415, .int 0]), (415, 4, [.ref 416, .int 0]), (417, 9, [.ref 1, .ref 418, .ref 420, .ref 422, .ref 423, .ref 424]), (418, 4, [.ref 419, .int 0]), (420, 4, [.ref 421, .int 0]), (425, 10, [.ref 1, .ref 426, .ref 427, .ref 428, .ref 429, .ref 430, .ref 431, .int 0, .int 0, .int 0, .int 0, .int 0]), (432, 11, [.int 0, .ref 433, .ref 434, .int 0, .int 0, .ref 435, .int 0, .ref 436, .ref 437, .ref 438, .int 0, .int 0, .ref 439, .ref 440, .ref 441, .int 0, .int 0, .ref 442, .ref 443, .ref 444, .ref 445, .ref 446, .ref 447, .ref 448, .ref 449, .ref 450, .ref 451])]
def ai_fo : List (Nat × Nat × List Value) := ai_fo0 ++ ai_fo1 ++ ai_fo2 ++ ai_fo3 ++ ai_fo4
def ai_fa : List (Nat × Nat × Nat × Int32) := [(2, 0, 256, 0), (3, 0, 256, 0), (5, 1, 60, 0), (8, 1, 24, 0), (10, 1, 24, 0), (16, 1, 24, 0), (18, 1, 24, 0), (21, 1, 24, 0), (23, 1, 24, 0), (26, 1, 24, 0), (28, 1, 24, 0), (31, 1, 24, 0), (33, 1, 24, 0), (36, 1, 24, 0), (38, 1, 24, 0), (41, 1, 24, 0), (43, 1, 24, 0), (46, 1, 24, 0), (48, 1, 24, 0), (51, 1, 24, 0), (53, 1, 24, 0), (56, 1, 24, 0), (58, 1, 24, 0), (61, 1, 24, 0), (63, 1, 24, 0), (66, 1, 24, 0), (68, 1, 24, 0), (71, 1, 24, 0), (73, 1, 24, 0), (76, 1, 24, 0), (78, 1, 24, 0), (81, 1, 24, 0), (83, 1, 24, 0), (88, 1, 24, 0), (90, 1, 24, 0), (93, 1, 24, 0), (95, 1, 24, 0), (98, 1, 24, 0), (100, 1, 24, 0), (103, 1, 24, 0), (105, 1, 24, 0), (108, 1, 24, 0), (110, 1, 24, 0), (113, 1, 24, 0), (115, 1, 24, 0), (118, 1, 24, 0), (120, 1, 24, 0), (123, 1, 24, 0), (125, 1, 24, 0), (128, 1, 24, 0), (130, 1, 24, 0), (133, 1, 24, 0), (135, 1, 24, 0), (138, 1, 24, 0), (140, 1, 24, 0), (143, 1, 24, 0), (145, 1, 24, 0), (148, 1, 24, 0), (150, 1, 24, 0), (153, 1, 24, 0), (155, 1, 24, 0), (158, 1, 24, 0), (160, 1, 24, 0), (163, 1, 24, 0), (165, 1, 24, 0), (168, 1, 24, 0), (170, 1, 24, 0), (173, 1, 24, 0), (175, 1, 24, 0), (178, 1, 24, 0), (180, 1, 24, 0), (183, 1, 24, 0), (185, 1, 24, 0), (188, 1, 24, 0), (190, 1, 24, 0), (193, 1, 24, 0), (195, 1, 24, 0), (198, 1, 24, 0), (200, 1, 24, 0), (203, 1, 24, 0), (205, 1, 24, 0), (208, 1, 24, 0), (210, 1, 24, 0), (213, 1, 24, 0), (215, 1, 24, 0), (218, 1, 24, 0), (220, 1, 24, 0), (223, 1, 24, 0), (225, 1, 24, 0), (228, 1, 24, 0), (230, 1, 24, 0), (233, 1, 24, 0), (235, 1, 24, 0), (238, 1, 24, 0), (240, 1, 24, 0), (243, 1, 24, 0), (245, 1, 24, 0), (248, 1, 24, 0), (250, 1, 24, 0), (253, 1, 24, 0), (255, 1, 24, 0), (258, 1, 24, 0), (260, 1, 24, 0), (263, 1, 24, 0), (265, 1, 24, 0), (268, 1, 24, 0), (270, 1, 24, 0), (273, 1, 24, 0), (275, 1, 24, 0), (278, 1, 24, 0), (280, 1, 24, 0), (283, 1, 24, 0), (285, 1, 24, 0), (288, 1, 24, 0), (290, 1, 24, 0), (293, 1, 24, 0), (295, 1, 24, 0), (298, 1, 24, 0), (300, 1, 24, 0), (303, 1, 24, 0), (305, 1, 24, 0), (308, 1, 24, 0), (310, 1, 24, 0), (313, 1, 24, 0), (315, 1, 24, 0), (318, 1, 24, 0), (320, 1, 24, 0), (323, 1, 24, 0), (325, 1, 24, 0), (330, 1, 24, 0), (332, 1, 24, 0), (335, 1, 24, 0), (337, 1, 24, 0), (340, 1, 24, 0), (342, 1, 24, 0), (345, 1, 24, 0), (347, 1, 24, 0), (350, 1, 24, 0), (352, 1, 24, 0), (355, 1, 24, 0), (357, 1, 24, 0), (360, 1, 24, 0), (362, 1, 24, 0), (365, 1, 24, 0), (367, 1, 24, 0), (370, 1, 24, 0), (372, 1, 24, 0), (375, 1, 24, 0), (377, 1, 24, 0), (380, 1, 24, 0), (382, 1, 24, 0), (385, 1, 24, 0), (387, 1, 24, 0), (390, 1, 24, 0), (392, 1, 24, 0), (395, 1, 24, 0), (397, 1, 24, 0), (399, 0, 12, 0), (402, 1, 24, 0), (404, 1, 24, 0), (407, 1, 24, 0), (409, 1, 24, 0), (411, 1, 24, 0), (413, 0, 24, 0), (414, 0, 6, 0), (416, 1, 24, 0), (419, 1, 24, 0), (421, 1, 24, 0), (422, 0, 24, 0), (423, 0, 24, 0), (424, 2, 576, 0), (426, 1, 96, 0), (427, 0, 96, 0), (428, 0, 96, 0), (429, 0, 108, 0), (430, 2, 108, 0), (431, 0, 216, 0), (433, 0, 8, (-1)), (434, 0, 8, 0), (435, 0, 60, 0), (436, 0, 720, 0), (437, 0, 15, 0), (438, 0, 15, 0), (439, 0, 2976, 0), (440, 0, 62, 0), (441, 0, 62, 0), (442, 0, 192, 0), (443, 0, 3, 0), (444, 0, 20, 0), (445, 0, 20, 0), (446, 0, 128, 0), (447, 0, 20, 0), (448, 0, 400, 0), (449, 0, 400, 0), (450, 0, 20, 0), (451, 2, 576, 0)]
def ai_fp : List (Nat × Nat × Nat) := [(13, 14, 14), (85, 48, 86), (327, 14, 328)]
/-- the two objects and the row for answers, as they are made; kind: cells 0 to 431, reference: 432 to 451, row: 452 -/
def ai_frc (S : ai_S) : Bool := decide (S.1 = 453) && decide (S.2.1 = 453) && decide (S.2.2.1 = 12190) && (ai_fo.all fun q => ai_isO (S.2.2.2 q.1) q.2.1 q.2.2) && (ai_fa.all fun q => ai_isZ (S.2.2.2 q.1) q.2.1 q.2.2.1 q.2.2.2) && (ai_fp.all fun q => ai_isP (S.2.2.2 q.1) q.2.1 q.2.2) && ai_isL (S.2.2.2 452) 0
def ai_pre1 : Option ai_O := ai_runF 4000 12 0 [.ref 0] (ai_mk ai_S0 4 (.inr (0, ai_blank 0)))
def ai_pre : Option (ai_S × ai_S) := match ai_pre1 with
  | some (.inl none, Sa) => (match ai_runF 4000 12 96 [.ref 432] (ai_mk Sa 27 (.inr (11, ai_blank 11))) with
    | some (.inl none, Sb) => some (Sa, Sb)
    | _ => none)
  | _ => none
def ai_last (S : ai_S) : ai_S := ai_mk S 1 (.inl (3, ai_zero 3 1))
set_option maxRecDepth 1000000 in
set_option maxHeartbeats 0 in
theorem ai_fresh : (match ai_pre with
  | some q => decide (q.1.1 = 432) && decide (q.1.2.1 = 432) && ai_frc (ai_last q.2)
  | none => false) = true := by decide +kernel
end
section
/-! The law's own walk: one turn after the other, for what the calls do is left free. -/
/-- the method comes back, with that -/
def ai_rn (L : Nat) (xs : Nat → Int32) (d mi : Nat) (as : List Value) (S : ai_S) (Q : Option Value → ai_S → Prop) : Prop := ∃ v S', ai_run L xs d mi as S (.inl v, S') ∧ Q v S'
section LW
variable {L : Nat} {xs : Nat → Int32} {d : Nat} {M : ai_M} {Q : ai_O → Prop} {pc len : Nat} {lv lv' : ai_L} {st st' : List Value} {S S' : ai_S} {i : Instr}
theorem ai_rn.mono {mi : Nat} {as : List Value} {P P' : Option Value → ai_S → Prop} (h : ai_rn L xs d mi as S P) (k : ∀ v S', P v S' → P' v S') : ai_rn L xs d mi as S P' := by
  obtain ⟨v, S', h1, h2⟩ := h
  exact ⟨v, S', h1, k _ _ h2⟩
theorem aw_cv {x kd mi na ci a : Nat} (args rest : List Value) (ha : ai_at M pc = some (.invokevirtual x, len)) (hm : ai_mth (ai_oi M) x = some (kd, mi, na, ci)) (hk : kd = 0 ∨ kd = 1) (hst : st = args.reverse ++ .ref a :: rest) (hl : args.length = na) (hs : ai_sum rest ≤ 8) (ho : ∃ fs, ai_obj S a ci = some fs)
    (k : ai_rn L xs d mi (.ref a :: args) S fun v S' => ai_aw L xs d M Q (pc + 3, lv, v.toList ++ rest, S')) : ai_aw L xs d M Q (pc, lv, st, S) := by
  obtain ⟨fs, ho⟩ := ho
  obtain ⟨v, S', h1, h2⟩ := k
  subst hst
  refine aw_callV (rest := rest) ha hm hk ?_ ?_ hs ho rfl ⟨(.inl v, S'), ?_, h2⟩
  · rw [List.drop_left' (by rw [List.length_reverse, hl])]
  · rw [List.length_append, List.length_reverse, hl]; exact Nat.le_add_right _ _
  · rw [List.take_left' (by rw [List.length_reverse, hl]), List.reverse_reverse]; exact h1
theorem aw_cs {x kd mi na ci : Nat} (args rest : List Value) (ha : ai_at M pc = some (.invokestatic x, len)) (hx : ai_isCpy (ai_oi M) x = false) (hm : ai_mth (ai_oi M) x = some (kd, mi, na, ci)) (hk : kd = 2 ∨ kd = 3 ∨ kd = 6) (hst : st = args.reverse ++ rest) (hl : args.length = na) (hs : ai_sum rest ≤ 8)
    (k : ai_rn L xs d mi args S fun v S' => ai_aw L xs d M Q (pc + 3, lv, v.toList ++ rest, S')) : ai_aw L xs d M Q (pc, lv, st, S) := by
  obtain ⟨v, S', h1, h2⟩ := k
  subst hst
  refine aw_callS (rest := rest) ha hx hm hk ?_ ?_ hs rfl ⟨(.inl v, S'), ?_, h2⟩
  · rw [List.drop_left' (by rw [List.length_reverse, hl])]
  · rw [List.length_append, List.length_reverse, hl]; exact Nat.le_add_right _ _
  · rw [List.take_left' (by rw [List.length_reverse, hl]), List.reverse_reverse]; exact h1
theorem aw_ci {x kd mi na ci a : Nat} (args rest : List Value) (ha : ai_at M pc = some (.invokespecial x, len)) (hx : ai_isObj (ai_oi M) x = false) (hm : ai_mth (ai_oi M) x = some (kd, mi, na, ci)) (hk : kd = 4 ∨ kd = 5) (hst : st = args.reverse ++ .ref a :: rest) (hl : args.length = na) (hs : ai_sum rest ≤ 8) (ho : ∃ fs, ai_obj S a ci = some fs)
    (k : ai_rn L xs d mi (.ref a :: args) S fun v S' => ai_aw L xs d M Q (pc + 3, lv, v.toList ++ rest, S')) : ai_aw L xs d M Q (pc, lv, st, S) := by
  obtain ⟨fs, ho⟩ := ho
  obtain ⟨v, S', h1, h2⟩ := k
  subst hst
  refine aw_callI (rest := rest) ha hx hm hk ?_ ?_ hs ho rfl ⟨(.inl v, S'), ?_, h2⟩
  · rw [List.drop_left' (by rw [List.length_reverse, hl])]
  · rw [List.length_append, List.length_reverse, hl]; exact Nat.le_add_right _ _
  · rw [List.take_left' (by rw [List.length_reverse, hl]), List.reverse_reverse]; exact h1
/-- a run out of a walk that ends by 'return' -/
theorem ai_rn_of {mi : Nat} {as : List Value} {P : Option Value → ai_S → Prop} (hM : ai_MT[mi]? = some M) (ho : ai_oi M ≠ 99) (he : (ai_ent as).length ≤ ai_nL M) (h : ai_aw L xs d M (fun o => ∃ v S', o = (.inl v, S') ∧ P v S') (0, ai_in M as, [], S)) : ai_rn L xs (d + 1) mi as S P := by
  obtain ⟨o, h1, v, S', rfl, h2⟩ := ai_run_of hM ho he h
  exact ⟨v, S', h1, h2⟩
theorem ai_thr159 (pc : Nat) : ai_thr ai_m159 pc = none := rfl
theorem i32_add3 (t : Nat) : Int32.ofNat (3 * t) + Int32.ofInt 3 = Int32.ofNat (3 * (t + 1)) := by
  rw [show 3 * (t + 1) = 3 * t + 3 from rfl, Int32.ofNat_add]; rfl
theorem i32_add1 (t : Nat) : Int32.ofNat (3 * t) + Int32.ofInt 1 = Int32.ofNat (3 * t + 1) := by rw [Int32.ofNat_add]; rfl
theorem i32_add2 (t : Nat) : Int32.ofNat (3 * t) + Int32.ofInt 2 = Int32.ofNat (3 * t + 2) := by rw [Int32.ofNat_add]; rfl
theorem i32_inb {k n : Nat} (h : k < n) (hn : n < 2 ^ 31) : ¬ (Int32.ofNat k < 0 ∨ n ≤ (Int32.ofNat k).toNatClampNeg) := by
  have h1 : (Int32.ofNat k).toInt = k := Int32.toInt_ofNat_of_lt (by omega)
  rw [Int32.toNatClampNeg_ofNat_of_lt (by omega), Int32.lt_iff_toInt_lt, h1]
  have : (0 : Int32).toInt = 0 := rfl
  omega
theorem i32_head {t L : Nat} (hL : L ≤ 1536) (ht : 3 * t ≤ 1536) : (Int32.ofNat L - Int32.ofInt 3 < Int32.ofNat (3 * t)) ↔ L < 3 * t + 3 := by
  have h1 : (Int32.ofNat (3 * t)).toInt = ((3 * t : Nat) : Int) := Int32.toInt_ofNat_of_lt (by omega)
  have h2 : (Int32.ofNat L).toInt = (L : Int) := Int32.toInt_ofNat_of_lt (by omega)
  have h3 : (Int32.ofNat L - Int32.ofInt 3).toInt = (L : Int) - 3 := by
    rw [Int32.toInt_sub, h2, show (Int32.ofInt 3).toInt = 3 from rfl]
    exact Int.bmod_eq_of_le (by omega) (by omega)
  rw [Int32.lt_iff_toInt_lt, h1, h3]
  omega
/-- the law reads its script -/
theorem aw_sld {k : Nat} {j : Int32} {r : List Value} (ha : ai_at ai_m159 pc = some (.iaload, 1)) (hk : k < L) (hL : L ≤ 1536) (hj : j = Int32.ofNat k) (kk : ai_aw L xs d ai_m159 Q (pc + 1, lv, .int (xs k) :: r, S)) : ai_aw L xs d ai_m159 Q (pc, lv, .int j :: .retAddr 0 :: r, S) := by
  subst hj
  refine aw_scr ha rfl (Or.inl rfl) (fun j a r h => by cases h) (fun a r h => by cases h) ?_ kk
  show (if Int32.ofNat k < 0 ∨ L ≤ (Int32.ofNat k).toNatClampNeg then none else some (.int (xs (Int32.ofNat k).toNatClampNeg) :: r)) = _
  rw [if_neg (i32_inb hk (by omega)), Int32.toNatClampNeg_ofNat_of_lt (by omega)]
theorem aw_slen {r : List Value} (ha : ai_at ai_m159 pc = some (.arraylength, 1)) (kk : ai_aw L xs d ai_m159 Q (pc + 1, lv, .int (Int32.ofNat L) :: r, S)) : ai_aw L xs d ai_m159 Q (pc, lv, .retAddr 0 :: r, S) :=
  aw_scr ha rfl (Or.inr rfl) (fun j a r h => by cases h) (fun a r h => by cases h) rfl kk
end LW
/-- both objects and the row for answers are there -/
def ai_prs (S : ai_S) : Prop := (∃ fs, ai_obj S 0 0 = some fs) ∧ (∃ fs, ai_obj S 432 11 = some fs) ∧ ∃ f, ai_arrJ S 452 3 = some (1, f)
def ai_chr (x : Int32) : Int32 := (x.toUInt32 % 65536).toInt32
def ai_lng (a b : Int32) : Int64 := (a.toInt64 <<< ((32 : Int32).toInt64 &&& 63)) ||| (b.toInt64 &&& 4294967295)
/-- a call that can throw, through its helper, then the reference's, then what that threw -/
def ai_opT (L : Nat) (xs : Nat → Int32) (d h m : Nat) (ha ma : List Value) (I : ai_S → Prop) (S : ai_S) : Prop :=
  ai_rn L xs d h ha S fun v S1 => ai_prs S1 ∧ ai_rn L xs d m ma S1 fun w S2 => ai_prs S2 ∧ ai_rn L xs d 97 [.ref 432] S2 fun u S3 => ai_prs S3 ∧ ∃ k b : Int32, v = some (.int k) ∧ w = some (.int b) ∧ u = some (.int k) ∧ (k = 0 → ∃ f, ai_arrJ S3 452 3 = some (1, f) ∧ f 0 = b.toInt64) ∧ I S3
def ai_opV (L : Nat) (xs : Nat → Int32) (d c m : Nat) (ca ma : List Value) (I : ai_S → Prop) (S : ai_S) : Prop :=
  ai_rn L xs d c ca S fun v S1 => ai_prs S1 ∧ ai_rn L xs d m ma S1 fun w S2 => ai_prs S2 ∧ ∃ k : Int32, v = some (.int k) ∧ w = some (.int k) ∧ I S2
def ai_opN (L : Nat) (xs : Nat → Int32) (d c m : Nat) (ca ma : List Value) (I : ai_S → Prop) (S : ai_S) : Prop :=
  ai_rn L xs d c ca S fun v S1 => ai_prs S1 ∧ ai_rn L xs d m ma S1 fun w S2 => ai_prs S2 ∧ v = none ∧ w = none ∧ I S2
def ai_opD (L : Nat) (xs : Nat → Int32) (d : Nat) (ha ma : List Value) (I : ai_S → Prop) (S : ai_S) : Prop :=
  ai_rn L xs d 91 ha S fun v S1 => ai_prs S1 ∧ ai_rn L xs d 98 ma S1 fun w S2 => ai_prs S2 ∧ ai_rn L xs d 97 [.ref 432] S2 fun u S3 => ai_prs S3 ∧ ∃ k : Int32, v = some (.int k) ∧ w = none ∧ u = some (.int k) ∧ I S3
/-- what a turn with the call's number n and its two numbers owes -/
def ai_op (L : Nat) (xs : Nat → Int32) (d : Nat) (n A B : Int32) (I : ai_S → Prop) (S : ai_S) : Prop :=
  (n = 0 → ai_opD L xs d [.ref 0, .int (ai_chr A), .int B] [.ref 432, .int (ai_chr A), .int B] I S) ∧
  (n = 1 → ai_opV L xs d 1 100 [.ref 0, .long (ai_lng A B)] [.ref 432, .long (ai_lng A B)] I S) ∧
  (n = 2 → ai_opN L xs d 2 102 [.ref 0] [.ref 432] I S) ∧
  (n = 3 → ai_opT L xs d 92 104 [.ref 0, .ref 452] [.ref 432] I S) ∧
  (n = 4 → ai_opT L xs d 93 112 [.ref 0, .int A, .ref 452] [.ref 432, .int A] I S) ∧
  (n = 5 → ai_opV L xs d 3 148 [.ref 0] [.ref 432] I S) ∧
  (n = 6 → ai_opV L xs d 4 149 [.ref 0] [.ref 432] I S) ∧
  (n = 7 → ai_opV L xs d 5 150 [.ref 0] [.ref 432] I S) ∧
  (n = 8 → ai_opV L xs d 6 151 [.ref 0, .int A, .int B] [.ref 432, .int A, .int B] I S) ∧
  (n = 9 → ai_opV L xs d 7 154 [.ref 0, .int A, .int B] [.ref 432, .int A, .int B] I S) ∧
  (n = 10 → ai_opT L xs d 94 155 [.ref 0, .ref 452] [.ref 432] I S) ∧
  (n = 11 → ai_opT L xs d 95 156 [.ref 0, .ref 452] [.ref 432] I S) ∧
  (n = 12 → ai_opV L xs d 8 103 [.ref 0, .int A] [.ref 432, .int A] I S) ∧
  (n = 13 → ai_opN L xs d 9 157 [.ref 0] [.ref 432] I S) ∧
  ((n = 14 ∨ n = 15) → I S)
section LB
variable {L : Nat} {xs : Nat → Int32} {d t : Nat} {Q : ai_O → Prop} {S : ai_S} {v5 v6 : Option Value}
/-- the law's locals in its loop -/
abbrev lw_lv (i : Int32) (v5 v6 : Option Value) : ai_L := [some (.retAddr 0), some (.ref 0), some (.ref 432), some (.ref 452), some (.int i), v5, v6]
theorem lg_cmp_self (x : Int64) : lg_cmp x x = 0 := by simp [lg_cmp]
theorem lw_eqv (k : Int32) {A B : Prop} (h : A) : (ai_cmp .eq k k → A) ∧ (¬ ai_cmp .eq k k → B) := ⟨fun _ => h, fun z => absurd rfl z⟩
theorem at_159_23 : ai_at ai_m159 23 = some (.iload 4, 2) := rfl
theorem at_159_25 : ai_at ai_m159 25 = some (.aload_n 0, 1) := rfl
theorem at_159_26 : ai_at ai_m159 26 = some (.arraylength, 1) := rfl
theorem at_159_27 : ai_at ai_m159 27 = some (.iconst 3, 1) := rfl
theorem at_159_28 : ai_at ai_m159 28 = some (.isub, 1) := rfl
theorem at_159_29 : ai_at ai_m159 29 = some (.if_icmp .gt 540, 3) := rfl
theorem at_159_32 : ai_at ai_m159 32 = some (.aload_n 0, 1) := rfl
theorem at_159_33 : ai_at ai_m159 33 = some (.iload 4, 2) := rfl
theorem at_159_35 : ai_at ai_m159 35 = some (.iaload, 1) := rfl
theorem at_159_36 : ai_at ai_m159 36 = some (.bipush 15, 2) := rfl
theorem at_159_38 : ai_at ai_m159 38 = some (.iand, 1) := rfl
theorem at_159_39 : ai_at ai_m159 39 = some (.tableswitch 524 0 13 #[69, 119, 176, 187, 231, 287, 300, 313, 326, 363, 400, 444, 488, 513], 69) := rfl
theorem at_159_108 : ai_at ai_m159 108 = some (.aload_n 1, 1) := rfl
theorem at_159_109 : ai_at ai_m159 109 = some (.aload_n 0, 1) := rfl
theorem at_159_110 : ai_at ai_m159 110 = some (.iload 4, 2) := rfl
theorem at_159_112 : ai_at ai_m159 112 = some (.iconst 1, 1) := rfl
theorem at_159_113 : ai_at ai_m159 113 = some (.iadd, 1) := rfl
theorem at_159_114 : ai_at ai_m159 114 = some (.iaload, 1) := rfl
theorem at_159_115 : ai_at ai_m159 115 = some (.i2c, 1) := rfl
theorem at_159_116 : ai_at ai_m159 116 = some (.aload_n 0, 1) := rfl
theorem at_159_117 : ai_at ai_m159 117 = some (.iload 4, 2) := rfl
theorem at_159_119 : ai_at ai_m159 119 = some (.iconst 2, 1) := rfl
theorem at_159_120 : ai_at ai_m159 120 = some (.iadd, 1) := rfl
theorem at_159_121 : ai_at ai_m159 121 = some (.iaload, 1) := rfl
theorem at_159_122 : ai_at ai_m159 122 = some (.invokestatic 37, 3) := rfl
theorem at_159_125 : ai_at ai_m159 125 = some (.istore 5, 2) := rfl
theorem at_159_127 : ai_at ai_m159 127 = some (.aload_n 2, 1) := rfl
theorem at_159_128 : ai_at ai_m159 128 = some (.aload_n 0, 1) := rfl
theorem at_159_129 : ai_at ai_m159 129 = some (.iload 4, 2) := rfl
theorem at_159_131 : ai_at ai_m159 131 = some (.iconst 1, 1) := rfl
theorem at_159_132 : ai_at ai_m159 132 = some (.iadd, 1) := rfl
theorem at_159_133 : ai_at ai_m159 133 = some (.iaload, 1) := rfl
theorem at_159_134 : ai_at ai_m159 134 = some (.i2c, 1) := rfl
theorem at_159_135 : ai_at ai_m159 135 = some (.aload_n 0, 1) := rfl
theorem at_159_136 : ai_at ai_m159 136 = some (.iload 4, 2) := rfl
theorem at_159_138 : ai_at ai_m159 138 = some (.iconst 2, 1) := rfl
theorem at_159_139 : ai_at ai_m159 139 = some (.iadd, 1) := rfl
theorem at_159_140 : ai_at ai_m159 140 = some (.iaload, 1) := rfl
theorem at_159_141 : ai_at ai_m159 141 = some (.invokevirtual 42, 3) := rfl
theorem at_159_144 : ai_at ai_m159 144 = some (.aload_n 2, 1) := rfl
theorem at_159_145 : ai_at ai_m159 145 = some (.invokevirtual 43, 3) := rfl
theorem at_159_148 : ai_at ai_m159 148 = some (.iload 5, 2) := rfl
theorem at_159_150 : ai_at ai_m159 150 = some (.if_icmp .eq 5, 3) := rfl
theorem at_159_155 : ai_at ai_m159 155 = some (.goto 408, 3) := rfl
theorem at_159_158 : ai_at ai_m159 158 = some (.aload_n 1, 1) := rfl
theorem at_159_159 : ai_at ai_m159 159 = some (.aload_n 0, 1) := rfl
theorem at_159_160 : ai_at ai_m159 160 = some (.iload 4, 2) := rfl
theorem at_159_162 : ai_at ai_m159 162 = some (.iconst 1, 1) := rfl
theorem at_159_163 : ai_at ai_m159 163 = some (.iadd, 1) := rfl
theorem at_159_164 : ai_at ai_m159 164 = some (.iaload, 1) := rfl
theorem at_159_165 : ai_at ai_m159 165 = some (.i2l, 1) := rfl
theorem at_159_166 : ai_at ai_m159 166 = some (.bipush 32, 2) := rfl
theorem at_159_168 : ai_at ai_m159 168 = some (.lshl, 1) := rfl
theorem at_159_169 : ai_at ai_m159 169 = some (.aload_n 0, 1) := rfl
theorem at_159_170 : ai_at ai_m159 170 = some (.iload 4, 2) := rfl
theorem at_159_172 : ai_at ai_m159 172 = some (.iconst 2, 1) := rfl
theorem at_159_173 : ai_at ai_m159 173 = some (.iadd, 1) := rfl
theorem at_159_174 : ai_at ai_m159 174 = some (.iaload, 1) := rfl
theorem at_159_175 : ai_at ai_m159 175 = some (.i2l, 1) := rfl
theorem at_159_176 : ai_at ai_m159 176 = some (.ldc2_w 46, 3) := rfl
theorem at_159_179 : ai_at ai_m159 179 = some (.land, 1) := rfl
theorem at_159_180 : ai_at ai_m159 180 = some (.lor, 1) := rfl
theorem at_159_181 : ai_at ai_m159 181 = some (.invokevirtual 48, 3) := rfl
theorem at_159_184 : ai_at ai_m159 184 = some (.aload_n 2, 1) := rfl
theorem at_159_185 : ai_at ai_m159 185 = some (.aload_n 0, 1) := rfl
theorem at_159_186 : ai_at ai_m159 186 = some (.iload 4, 2) := rfl
theorem at_159_188 : ai_at ai_m159 188 = some (.iconst 1, 1) := rfl
theorem at_159_189 : ai_at ai_m159 189 = some (.iadd, 1) := rfl
theorem at_159_190 : ai_at ai_m159 190 = some (.iaload, 1) := rfl
theorem at_159_191 : ai_at ai_m159 191 = some (.i2l, 1) := rfl
theorem at_159_192 : ai_at ai_m159 192 = some (.bipush 32, 2) := rfl
theorem at_159_194 : ai_at ai_m159 194 = some (.lshl, 1) := rfl
theorem at_159_195 : ai_at ai_m159 195 = some (.aload_n 0, 1) := rfl
theorem at_159_196 : ai_at ai_m159 196 = some (.iload 4, 2) := rfl
theorem at_159_198 : ai_at ai_m159 198 = some (.iconst 2, 1) := rfl
theorem at_159_199 : ai_at ai_m159 199 = some (.iadd, 1) := rfl
theorem at_159_200 : ai_at ai_m159 200 = some (.iaload, 1) := rfl
theorem at_159_201 : ai_at ai_m159 201 = some (.i2l, 1) := rfl
theorem at_159_202 : ai_at ai_m159 202 = some (.ldc2_w 46, 3) := rfl
theorem at_159_205 : ai_at ai_m159 205 = some (.land, 1) := rfl
theorem at_159_206 : ai_at ai_m159 206 = some (.lor, 1) := rfl
theorem at_159_207 : ai_at ai_m159 207 = some (.invokevirtual 52, 3) := rfl
theorem at_159_210 : ai_at ai_m159 210 = some (.if_icmp .eq 353, 3) := rfl
theorem at_159_215 : ai_at ai_m159 215 = some (.aload_n 1, 1) := rfl
theorem at_159_216 : ai_at ai_m159 216 = some (.invokevirtual 53, 3) := rfl
theorem at_159_219 : ai_at ai_m159 219 = some (.aload_n 2, 1) := rfl
theorem at_159_220 : ai_at ai_m159 220 = some (.invokevirtual 56, 3) := rfl
theorem at_159_223 : ai_at ai_m159 223 = some (.goto 340, 3) := rfl
theorem at_159_226 : ai_at ai_m159 226 = some (.aload_n 1, 1) := rfl
theorem at_159_227 : ai_at ai_m159 227 = some (.aload_n 3, 1) := rfl
theorem at_159_228 : ai_at ai_m159 228 = some (.invokestatic 57, 3) := rfl
theorem at_159_231 : ai_at ai_m159 231 = some (.istore 5, 2) := rfl
theorem at_159_233 : ai_at ai_m159 233 = some (.aload_n 2, 1) := rfl
theorem at_159_234 : ai_at ai_m159 234 = some (.invokevirtual 60, 3) := rfl
theorem at_159_237 : ai_at ai_m159 237 = some (.istore 6, 2) := rfl
theorem at_159_239 : ai_at ai_m159 239 = some (.aload_n 2, 1) := rfl
theorem at_159_240 : ai_at ai_m159 240 = some (.invokevirtual 43, 3) := rfl
theorem at_159_243 : ai_at ai_m159 243 = some (.iload 5, 2) := rfl
theorem at_159_245 : ai_at ai_m159 245 = some (.if_icmp .eq 5, 3) := rfl
theorem at_159_250 : ai_at ai_m159 250 = some (.iload 5, 2) := rfl
theorem at_159_252 : ai_at ai_m159 252 = some (.ifCond .ne 15, 3) := rfl
theorem at_159_255 : ai_at ai_m159 255 = some (.aload_n 3, 1) := rfl
theorem at_159_256 : ai_at ai_m159 256 = some (.iconst 0, 1) := rfl
theorem at_159_257 : ai_at ai_m159 257 = some (.laload, 1) := rfl
theorem at_159_258 : ai_at ai_m159 258 = some (.iload 6, 2) := rfl
theorem at_159_260 : ai_at ai_m159 260 = some (.i2l, 1) := rfl
theorem at_159_261 : ai_at ai_m159 261 = some (.lcmp, 1) := rfl
theorem at_159_262 : ai_at ai_m159 262 = some (.ifCond .eq 5, 3) := rfl
theorem at_159_267 : ai_at ai_m159 267 = some (.goto 296, 3) := rfl
theorem at_159_270 : ai_at ai_m159 270 = some (.aload_n 1, 1) := rfl
theorem at_159_271 : ai_at ai_m159 271 = some (.aload_n 0, 1) := rfl
theorem at_159_272 : ai_at ai_m159 272 = some (.iload 4, 2) := rfl
theorem at_159_274 : ai_at ai_m159 274 = some (.iconst 1, 1) := rfl
theorem at_159_275 : ai_at ai_m159 275 = some (.iadd, 1) := rfl
theorem at_159_276 : ai_at ai_m159 276 = some (.iaload, 1) := rfl
theorem at_159_277 : ai_at ai_m159 277 = some (.aload_n 3, 1) := rfl
theorem at_159_278 : ai_at ai_m159 278 = some (.invokestatic 61, 3) := rfl
theorem at_159_281 : ai_at ai_m159 281 = some (.istore 5, 2) := rfl
theorem at_159_283 : ai_at ai_m159 283 = some (.aload_n 2, 1) := rfl
theorem at_159_284 : ai_at ai_m159 284 = some (.aload_n 0, 1) := rfl
theorem at_159_285 : ai_at ai_m159 285 = some (.iload 4, 2) := rfl
theorem at_159_287 : ai_at ai_m159 287 = some (.iconst 1, 1) := rfl
theorem at_159_288 : ai_at ai_m159 288 = some (.iadd, 1) := rfl
theorem at_159_289 : ai_at ai_m159 289 = some (.iaload, 1) := rfl
theorem at_159_290 : ai_at ai_m159 290 = some (.invokevirtual 64, 3) := rfl
theorem at_159_293 : ai_at ai_m159 293 = some (.istore 6, 2) := rfl
theorem at_159_295 : ai_at ai_m159 295 = some (.aload_n 2, 1) := rfl
theorem at_159_296 : ai_at ai_m159 296 = some (.invokevirtual 43, 3) := rfl
theorem at_159_299 : ai_at ai_m159 299 = some (.iload 5, 2) := rfl
set_option maxRecDepth 100000 in
theorem at_159_301 : ai_at ai_m159 301 = some (.if_icmp .eq 5, 3) := rfl
set_option maxRecDepth 100000 in
theorem at_159_306 : ai_at ai_m159 306 = some (.iload 5, 2) := rfl
set_option maxRecDepth 100000 in
theorem at_159_308 : ai_at ai_m159 308 = some (.ifCond .ne 15, 3) := rfl
set_option maxRecDepth 100000 in
theorem at_159_311 : ai_at ai_m159 311 = some (.aload_n 3, 1) := rfl
set_option maxRecDepth 100000 in
theorem at_159_312 : ai_at ai_m159 312 = some (.iconst 0, 1) := rfl
set_option maxRecDepth 100000 in
theorem at_159_313 : ai_at ai_m159 313 = some (.laload, 1) := rfl
set_option maxRecDepth 100000 in
theorem at_159_314 : ai_at ai_m159 314 = some (.iload 6, 2) := rfl
set_option maxRecDepth 100000 in
theorem at_159_316 : ai_at ai_m159 316 = some (.i2l, 1) := rfl
set_option maxRecDepth 100000 in
theorem at_159_317 : ai_at ai_m159 317 = some (.lcmp, 1) := rfl
set_option maxRecDepth 100000 in
theorem at_159_318 : ai_at ai_m159 318 = some (.ifCond .eq 5, 3) := rfl
set_option maxRecDepth 100000 in
theorem at_159_323 : ai_at ai_m159 323 = some (.goto 240, 3) := rfl
set_option maxRecDepth 100000 in
theorem at_159_326 : ai_at ai_m159 326 = some (.aload_n 1, 1) := rfl
set_option maxRecDepth 100000 in
theorem at_159_327 : ai_at ai_m159 327 = some (.invokevirtual 65, 3) := rfl
set_option maxRecDepth 100000 in
theorem at_159_330 : ai_at ai_m159 330 = some (.aload_n 2, 1) := rfl
set_option maxRecDepth 100000 in
theorem at_159_331 : ai_at ai_m159 331 = some (.invokevirtual 68, 3) := rfl
set_option maxRecDepth 100000 in
theorem at_159_334 : ai_at ai_m159 334 = some (.if_icmp .eq 229, 3) := rfl
set_option maxRecDepth 100000 in
theorem at_159_339 : ai_at ai_m159 339 = some (.aload_n 1, 1) := rfl
set_option maxRecDepth 100000 in
theorem at_159_340 : ai_at ai_m159 340 = some (.invokevirtual 69, 3) := rfl
set_option maxRecDepth 100000 in
theorem at_159_343 : ai_at ai_m159 343 = some (.aload_n 2, 1) := rfl
set_option maxRecDepth 100000 in
theorem at_159_344 : ai_at ai_m159 344 = some (.invokevirtual 72, 3) := rfl
set_option maxRecDepth 100000 in
theorem at_159_347 : ai_at ai_m159 347 = some (.if_icmp .eq 216, 3) := rfl
set_option maxRecDepth 100000 in
theorem at_159_352 : ai_at ai_m159 352 = some (.aload_n 1, 1) := rfl
set_option maxRecDepth 100000 in
theorem at_159_353 : ai_at ai_m159 353 = some (.invokevirtual 73, 3) := rfl
set_option maxRecDepth 100000 in
theorem at_159_356 : ai_at ai_m159 356 = some (.aload_n 2, 1) := rfl
set_option maxRecDepth 100000 in
theorem at_159_357 : ai_at ai_m159 357 = some (.invokevirtual 76, 3) := rfl
set_option maxRecDepth 100000 in
theorem at_159_360 : ai_at ai_m159 360 = some (.if_icmp .eq 203, 3) := rfl
set_option maxRecDepth 100000 in
theorem at_159_365 : ai_at ai_m159 365 = some (.aload_n 1, 1) := rfl
set_option maxRecDepth 100000 in
theorem at_159_366 : ai_at ai_m159 366 = some (.aload_n 0, 1) := rfl
set_option maxRecDepth 100000 in
theorem at_159_367 : ai_at ai_m159 367 = some (.iload 4, 2) := rfl
set_option maxRecDepth 100000 in
theorem at_159_369 : ai_at ai_m159 369 = some (.iconst 1, 1) := rfl
set_option maxRecDepth 100000 in
theorem at_159_370 : ai_at ai_m159 370 = some (.iadd, 1) := rfl
set_option maxRecDepth 100000 in
theorem at_159_371 : ai_at ai_m159 371 = some (.iaload, 1) := rfl
set_option maxRecDepth 100000 in
theorem at_159_372 : ai_at ai_m159 372 = some (.aload_n 0, 1) := rfl
set_option maxRecDepth 100000 in
theorem at_159_373 : ai_at ai_m159 373 = some (.iload 4, 2) := rfl
set_option maxRecDepth 100000 in
theorem at_159_375 : ai_at ai_m159 375 = some (.iconst 2, 1) := rfl
set_option maxRecDepth 100000 in
theorem at_159_376 : ai_at ai_m159 376 = some (.iadd, 1) := rfl
set_option maxRecDepth 100000 in
theorem at_159_377 : ai_at ai_m159 377 = some (.iaload, 1) := rfl
set_option maxRecDepth 100000 in
theorem at_159_378 : ai_at ai_m159 378 = some (.invokevirtual 77, 3) := rfl
set_option maxRecDepth 100000 in
theorem at_159_381 : ai_at ai_m159 381 = some (.aload_n 2, 1) := rfl
set_option maxRecDepth 100000 in
theorem at_159_382 : ai_at ai_m159 382 = some (.aload_n 0, 1) := rfl
set_option maxRecDepth 100000 in
theorem at_159_383 : ai_at ai_m159 383 = some (.iload 4, 2) := rfl
set_option maxRecDepth 100000 in
theorem at_159_385 : ai_at ai_m159 385 = some (.iconst 1, 1) := rfl
set_option maxRecDepth 100000 in
theorem at_159_386 : ai_at ai_m159 386 = some (.iadd, 1) := rfl
set_option maxRecDepth 100000 in
theorem at_159_387 : ai_at ai_m159 387 = some (.iaload, 1) := rfl
set_option maxRecDepth 100000 in
theorem at_159_388 : ai_at ai_m159 388 = some (.aload_n 0, 1) := rfl
set_option maxRecDepth 100000 in
theorem at_159_389 : ai_at ai_m159 389 = some (.iload 4, 2) := rfl
set_option maxRecDepth 100000 in
theorem at_159_391 : ai_at ai_m159 391 = some (.iconst 2, 1) := rfl
set_option maxRecDepth 100000 in
theorem at_159_392 : ai_at ai_m159 392 = some (.iadd, 1) := rfl
set_option maxRecDepth 100000 in
theorem at_159_393 : ai_at ai_m159 393 = some (.iaload, 1) := rfl
set_option maxRecDepth 100000 in
theorem at_159_394 : ai_at ai_m159 394 = some (.invokevirtual 81, 3) := rfl
set_option maxRecDepth 100000 in
theorem at_159_397 : ai_at ai_m159 397 = some (.if_icmp .eq 166, 3) := rfl
set_option maxRecDepth 100000 in
theorem at_159_402 : ai_at ai_m159 402 = some (.aload_n 1, 1) := rfl
set_option maxRecDepth 100000 in
theorem at_159_403 : ai_at ai_m159 403 = some (.aload_n 0, 1) := rfl
set_option maxRecDepth 100000 in
theorem at_159_404 : ai_at ai_m159 404 = some (.iload 4, 2) := rfl
set_option maxRecDepth 100000 in
theorem at_159_406 : ai_at ai_m159 406 = some (.iconst 1, 1) := rfl
set_option maxRecDepth 100000 in
theorem at_159_407 : ai_at ai_m159 407 = some (.iadd, 1) := rfl
set_option maxRecDepth 100000 in
theorem at_159_408 : ai_at ai_m159 408 = some (.iaload, 1) := rfl
set_option maxRecDepth 100000 in
theorem at_159_409 : ai_at ai_m159 409 = some (.aload_n 0, 1) := rfl
set_option maxRecDepth 100000 in
theorem at_159_410 : ai_at ai_m159 410 = some (.iload 4, 2) := rfl
set_option maxRecDepth 100000 in
theorem at_159_412 : ai_at ai_m159 412 = some (.iconst 2, 1) := rfl
set_option maxRecDepth 100000 in
theorem at_159_413 : ai_at ai_m159 413 = some (.iadd, 1) := rfl
set_option maxRecDepth 100000 in
theorem at_159_414 : ai_at ai_m159 414 = some (.iaload, 1) := rfl
set_option maxRecDepth 100000 in
theorem at_159_415 : ai_at ai_m159 415 = some (.invokevirtual 82, 3) := rfl
set_option maxRecDepth 100000 in
theorem at_159_418 : ai_at ai_m159 418 = some (.aload_n 2, 1) := rfl
set_option maxRecDepth 100000 in
theorem at_159_419 : ai_at ai_m159 419 = some (.aload_n 0, 1) := rfl
set_option maxRecDepth 100000 in
theorem at_159_420 : ai_at ai_m159 420 = some (.iload 4, 2) := rfl
set_option maxRecDepth 100000 in
theorem at_159_422 : ai_at ai_m159 422 = some (.iconst 1, 1) := rfl
set_option maxRecDepth 100000 in
theorem at_159_423 : ai_at ai_m159 423 = some (.iadd, 1) := rfl
set_option maxRecDepth 100000 in
theorem at_159_424 : ai_at ai_m159 424 = some (.iaload, 1) := rfl
set_option maxRecDepth 100000 in
theorem at_159_425 : ai_at ai_m159 425 = some (.aload_n 0, 1) := rfl
set_option maxRecDepth 100000 in
theorem at_159_426 : ai_at ai_m159 426 = some (.iload 4, 2) := rfl
set_option maxRecDepth 100000 in
theorem at_159_428 : ai_at ai_m159 428 = some (.iconst 2, 1) := rfl
set_option maxRecDepth 100000 in
theorem at_159_429 : ai_at ai_m159 429 = some (.iadd, 1) := rfl
set_option maxRecDepth 100000 in
theorem at_159_430 : ai_at ai_m159 430 = some (.iaload, 1) := rfl
set_option maxRecDepth 100000 in
theorem at_159_431 : ai_at ai_m159 431 = some (.invokevirtual 85, 3) := rfl
set_option maxRecDepth 100000 in
theorem at_159_434 : ai_at ai_m159 434 = some (.if_icmp .eq 129, 3) := rfl
set_option maxRecDepth 100000 in
theorem at_159_439 : ai_at ai_m159 439 = some (.aload_n 1, 1) := rfl
set_option maxRecDepth 100000 in
theorem at_159_440 : ai_at ai_m159 440 = some (.aload_n 3, 1) := rfl
set_option maxRecDepth 100000 in
theorem at_159_441 : ai_at ai_m159 441 = some (.invokestatic 86, 3) := rfl
set_option maxRecDepth 100000 in
theorem at_159_444 : ai_at ai_m159 444 = some (.istore 5, 2) := rfl
set_option maxRecDepth 100000 in
theorem at_159_446 : ai_at ai_m159 446 = some (.aload_n 2, 1) := rfl
set_option maxRecDepth 100000 in
theorem at_159_447 : ai_at ai_m159 447 = some (.invokevirtual 88, 3) := rfl
set_option maxRecDepth 100000 in
theorem at_159_450 : ai_at ai_m159 450 = some (.istore 6, 2) := rfl
set_option maxRecDepth 100000 in
theorem at_159_452 : ai_at ai_m159 452 = some (.aload_n 2, 1) := rfl
set_option maxRecDepth 100000 in
theorem at_159_453 : ai_at ai_m159 453 = some (.invokevirtual 43, 3) := rfl
set_option maxRecDepth 100000 in
theorem at_159_456 : ai_at ai_m159 456 = some (.iload 5, 2) := rfl
set_option maxRecDepth 100000 in
theorem at_159_458 : ai_at ai_m159 458 = some (.if_icmp .eq 5, 3) := rfl
set_option maxRecDepth 100000 in
theorem at_159_463 : ai_at ai_m159 463 = some (.iload 5, 2) := rfl
set_option maxRecDepth 100000 in
theorem at_159_465 : ai_at ai_m159 465 = some (.ifCond .ne 15, 3) := rfl
set_option maxRecDepth 100000 in
theorem at_159_468 : ai_at ai_m159 468 = some (.aload_n 3, 1) := rfl
set_option maxRecDepth 100000 in
theorem at_159_469 : ai_at ai_m159 469 = some (.iconst 0, 1) := rfl
set_option maxRecDepth 100000 in
theorem at_159_470 : ai_at ai_m159 470 = some (.laload, 1) := rfl
set_option maxRecDepth 100000 in
theorem at_159_471 : ai_at ai_m159 471 = some (.iload 6, 2) := rfl
set_option maxRecDepth 100000 in
theorem at_159_473 : ai_at ai_m159 473 = some (.i2l, 1) := rfl
set_option maxRecDepth 100000 in
theorem at_159_474 : ai_at ai_m159 474 = some (.lcmp, 1) := rfl
set_option maxRecDepth 100000 in
theorem at_159_475 : ai_at ai_m159 475 = some (.ifCond .eq 5, 3) := rfl
set_option maxRecDepth 100000 in
theorem at_159_480 : ai_at ai_m159 480 = some (.goto 83, 3) := rfl
set_option maxRecDepth 100000 in
theorem at_159_483 : ai_at ai_m159 483 = some (.aload_n 1, 1) := rfl
set_option maxRecDepth 100000 in
theorem at_159_484 : ai_at ai_m159 484 = some (.aload_n 3, 1) := rfl
set_option maxRecDepth 100000 in
theorem at_159_485 : ai_at ai_m159 485 = some (.invokestatic 89, 3) := rfl
set_option maxRecDepth 100000 in
theorem at_159_488 : ai_at ai_m159 488 = some (.istore 5, 2) := rfl
set_option maxRecDepth 100000 in
theorem at_159_490 : ai_at ai_m159 490 = some (.aload_n 2, 1) := rfl
set_option maxRecDepth 100000 in
theorem at_159_491 : ai_at ai_m159 491 = some (.invokevirtual 91, 3) := rfl
set_option maxRecDepth 100000 in
theorem at_159_494 : ai_at ai_m159 494 = some (.istore 6, 2) := rfl
set_option maxRecDepth 100000 in
theorem at_159_496 : ai_at ai_m159 496 = some (.aload_n 2, 1) := rfl
set_option maxRecDepth 100000 in
theorem at_159_497 : ai_at ai_m159 497 = some (.invokevirtual 43, 3) := rfl
set_option maxRecDepth 100000 in
theorem at_159_500 : ai_at ai_m159 500 = some (.iload 5, 2) := rfl
set_option maxRecDepth 100000 in
theorem at_159_502 : ai_at ai_m159 502 = some (.if_icmp .eq 5, 3) := rfl
set_option maxRecDepth 100000 in
theorem at_159_507 : ai_at ai_m159 507 = some (.iload 5, 2) := rfl
set_option maxRecDepth 100000 in
theorem at_159_509 : ai_at ai_m159 509 = some (.ifCond .ne 15, 3) := rfl
set_option maxRecDepth 100000 in
theorem at_159_512 : ai_at ai_m159 512 = some (.aload_n 3, 1) := rfl
set_option maxRecDepth 100000 in
theorem at_159_513 : ai_at ai_m159 513 = some (.iconst 0, 1) := rfl
set_option maxRecDepth 100000 in
theorem at_159_514 : ai_at ai_m159 514 = some (.laload, 1) := rfl
set_option maxRecDepth 100000 in
theorem at_159_515 : ai_at ai_m159 515 = some (.iload 6, 2) := rfl
set_option maxRecDepth 100000 in
theorem at_159_517 : ai_at ai_m159 517 = some (.i2l, 1) := rfl
set_option maxRecDepth 100000 in
theorem at_159_518 : ai_at ai_m159 518 = some (.lcmp, 1) := rfl
set_option maxRecDepth 100000 in
theorem at_159_519 : ai_at ai_m159 519 = some (.ifCond .eq 5, 3) := rfl
set_option maxRecDepth 100000 in
theorem at_159_524 : ai_at ai_m159 524 = some (.goto 39, 3) := rfl
set_option maxRecDepth 100000 in
theorem at_159_527 : ai_at ai_m159 527 = some (.aload_n 1, 1) := rfl
set_option maxRecDepth 100000 in
theorem at_159_528 : ai_at ai_m159 528 = some (.aload_n 0, 1) := rfl
set_option maxRecDepth 100000 in
theorem at_159_529 : ai_at ai_m159 529 = some (.iload 4, 2) := rfl
set_option maxRecDepth 100000 in
theorem at_159_531 : ai_at ai_m159 531 = some (.iconst 1, 1) := rfl
set_option maxRecDepth 100000 in
theorem at_159_532 : ai_at ai_m159 532 = some (.iadd, 1) := rfl
set_option maxRecDepth 100000 in
theorem at_159_533 : ai_at ai_m159 533 = some (.iaload, 1) := rfl
set_option maxRecDepth 100000 in
theorem at_159_534 : ai_at ai_m159 534 = some (.invokevirtual 92, 3) := rfl
set_option maxRecDepth 100000 in
theorem at_159_537 : ai_at ai_m159 537 = some (.aload_n 2, 1) := rfl
set_option maxRecDepth 100000 in
theorem at_159_538 : ai_at ai_m159 538 = some (.aload_n 0, 1) := rfl
set_option maxRecDepth 100000 in
theorem at_159_539 : ai_at ai_m159 539 = some (.iload 4, 2) := rfl
set_option maxRecDepth 100000 in
theorem at_159_541 : ai_at ai_m159 541 = some (.iconst 1, 1) := rfl
set_option maxRecDepth 100000 in
theorem at_159_542 : ai_at ai_m159 542 = some (.iadd, 1) := rfl
set_option maxRecDepth 100000 in
theorem at_159_543 : ai_at ai_m159 543 = some (.iaload, 1) := rfl
set_option maxRecDepth 100000 in
theorem at_159_544 : ai_at ai_m159 544 = some (.invokevirtual 96, 3) := rfl
set_option maxRecDepth 100000 in
theorem at_159_547 : ai_at ai_m159 547 = some (.if_icmp .eq 16, 3) := rfl
set_option maxRecDepth 100000 in
theorem at_159_552 : ai_at ai_m159 552 = some (.aload_n 1, 1) := rfl
set_option maxRecDepth 100000 in
theorem at_159_553 : ai_at ai_m159 553 = some (.invokevirtual 97, 3) := rfl
set_option maxRecDepth 100000 in
theorem at_159_556 : ai_at ai_m159 556 = some (.aload_n 2, 1) := rfl
set_option maxRecDepth 100000 in
theorem at_159_557 : ai_at ai_m159 557 = some (.invokevirtual 100, 3) := rfl
set_option maxRecDepth 100000 in
theorem at_159_560 : ai_at ai_m159 560 = some (.goto 3, 3) := rfl
set_option maxRecDepth 100000 in
theorem at_159_563 : ai_at ai_m159 563 = some (.iinc 4 3, 3) := rfl
set_option maxRecDepth 100000 in
theorem at_159_566 : ai_at ai_m159 566 = some (.goto (-543), 3) := rfl
set_option maxRecDepth 100000 in
theorem at_159_569 : ai_at ai_m159 569 = some (.iconst 1, 1) := rfl
set_option maxRecDepth 100000 in
theorem at_159_570 : ai_at ai_m159 570 = some (.ireturn, 1) := rfl
theorem mt_99_37 : ai_mth 99 37 = some (6, 91, 3, 0) := by decide +kernel
theorem mt_99_42 : ai_mth 99 42 = some (0, 98, 2, 11) := by decide +kernel
theorem mt_99_43 : ai_mth 99 43 = some (0, 97, 0, 11) := by decide +kernel
theorem mt_99_48 : ai_mth 99 48 = some (0, 1, 1, 0) := by decide +kernel
theorem mt_99_52 : ai_mth 99 52 = some (0, 100, 1, 11) := by decide +kernel
theorem mt_99_53 : ai_mth 99 53 = some (0, 2, 0, 0) := by decide +kernel
theorem mt_99_56 : ai_mth 99 56 = some (0, 102, 0, 11) := by decide +kernel
theorem mt_99_57 : ai_mth 99 57 = some (6, 92, 2, 0) := by decide +kernel
theorem mt_99_60 : ai_mth 99 60 = some (0, 104, 0, 11) := by decide +kernel
theorem mt_99_61 : ai_mth 99 61 = some (6, 93, 3, 0) := by decide +kernel
theorem mt_99_64 : ai_mth 99 64 = some (0, 112, 1, 11) := by decide +kernel
theorem mt_99_65 : ai_mth 99 65 = some (0, 3, 0, 0) := by decide +kernel
theorem mt_99_68 : ai_mth 99 68 = some (0, 148, 0, 11) := by decide +kernel
theorem mt_99_69 : ai_mth 99 69 = some (0, 4, 0, 0) := by decide +kernel
theorem mt_99_72 : ai_mth 99 72 = some (0, 149, 0, 11) := by decide +kernel
theorem mt_99_73 : ai_mth 99 73 = some (0, 5, 0, 0) := by decide +kernel
theorem mt_99_76 : ai_mth 99 76 = some (0, 150, 0, 11) := by decide +kernel
theorem mt_99_77 : ai_mth 99 77 = some (0, 6, 2, 0) := by decide +kernel
theorem mt_99_81 : ai_mth 99 81 = some (0, 151, 2, 11) := by decide +kernel
theorem mt_99_82 : ai_mth 99 82 = some (0, 7, 2, 0) := by decide +kernel
theorem mt_99_85 : ai_mth 99 85 = some (0, 154, 2, 11) := by decide +kernel
theorem mt_99_86 : ai_mth 99 86 = some (6, 94, 2, 0) := by decide +kernel
theorem mt_99_88 : ai_mth 99 88 = some (0, 155, 0, 11) := by decide +kernel
theorem mt_99_89 : ai_mth 99 89 = some (6, 95, 2, 0) := by decide +kernel
theorem mt_99_91 : ai_mth 99 91 = some (0, 156, 0, 11) := by decide +kernel
theorem mt_99_92 : ai_mth 99 92 = some (0, 8, 1, 0) := by decide +kernel
theorem mt_99_96 : ai_mth 99 96 = some (0, 103, 1, 11) := by decide +kernel
theorem mt_99_97 : ai_mth 99 97 = some (0, 9, 0, 0) := by decide +kernel
theorem mt_99_100 : ai_mth 99 100 = some (0, 157, 0, 11) := by decide +kernel
set_option maxHeartbeats 1000000 in
theorem lw_b0 {I : ai_S → Prop} (hL : L ≤ 1536) (hi : 3 * t + 3 ≤ L) (hp : ai_prs S) (h : ai_opD L xs d [.ref 0, .int (ai_chr (xs (3 * t + 1))), .int (xs (3 * t + 2))] [.ref 432, .int (ai_chr (xs (3 * t + 1))), .int (xs (3 * t + 2))] I S) (k : ∀ v5 v6 S9, ai_prs S9 → I S9 → ai_aw L xs d ai_m159 Q (563, lw_lv (Int32.ofNat (3 * t)) v5 v6, [], S9)) : ai_aw L xs d ai_m159 Q (108, lw_lv (Int32.ofNat (3 * t)) v5 v6, [], S) := by
  refine aw_loc at_159_108 rfl rfl ?_
  refine aw_loc at_159_109 rfl rfl ?_
  refine aw_loc at_159_110 rfl rfl ?_
  refine aw_pure at_159_112 rfl rfl ?_
  refine aw_pure at_159_113 rfl rfl ?_
  refine aw_sld at_159_114 (by omega) hL (i32_add1 t) ?_
  refine aw_pure at_159_115 rfl rfl ?_
  refine aw_loc at_159_116 rfl rfl ?_
  refine aw_loc at_159_117 rfl rfl ?_
  refine aw_pure at_159_119 rfl rfl ?_
  refine aw_pure at_159_120 rfl rfl ?_
  refine aw_sld at_159_121 (by omega) hL (i32_add2 t) ?_
  refine aw_cs [.ref 0, .int (ai_chr (xs (3 * t + 1))), .int (xs (3 * t + 2))] [] at_159_122 rfl mt_99_37 (Or.inr (Or.inr rfl)) rfl rfl (Nat.le_of_ble_eq_true rfl) ?_
  refine h.mono (fun v S1 h => ?_)
  obtain ⟨hp1, h⟩ := h
  obtain ⟨w, S2, r2, hp2, u, S3, r3, hp3, k5, rfl, rfl, rfl, hI⟩ := h
  refine aw_loc at_159_125 rfl rfl ?_
  refine aw_loc at_159_127 rfl rfl ?_
  refine aw_loc at_159_128 rfl rfl ?_
  refine aw_loc at_159_129 rfl rfl ?_
  refine aw_pure at_159_131 rfl rfl ?_
  refine aw_pure at_159_132 rfl rfl ?_
  refine aw_sld at_159_133 (by omega) hL (i32_add1 t) ?_
  refine aw_pure at_159_134 rfl rfl ?_
  refine aw_loc at_159_135 rfl rfl ?_
  refine aw_loc at_159_136 rfl rfl ?_
  refine aw_pure at_159_138 rfl rfl ?_
  refine aw_pure at_159_139 rfl rfl ?_
  refine aw_sld at_159_140 (by omega) hL (i32_add2 t) ?_
  refine aw_cv (a := 432) [.int (ai_chr (xs (3 * t + 1))), .int (xs (3 * t + 2))] [] at_159_141 mt_99_42 (Or.inl rfl) rfl rfl (Nat.le_of_ble_eq_true rfl) hp1.2.1 ?_
  refine ⟨none, S2, r2, ?_⟩
  refine aw_loc at_159_144 rfl rfl ?_
  refine aw_cv (a := 432) [] [] at_159_145 mt_99_43 (Or.inl rfl) rfl rfl (Nat.le_of_ble_eq_true rfl) hp2.2.1 ?_
  refine ⟨_, S3, r3, ?_⟩
  refine aw_loc at_159_148 rfl rfl ?_
  refine aw_icmp at_159_150 (fun _ => ?_) (fun z => absurd rfl z)
  refine aw_goto at_159_155 ?_
  exact k _ _ S3 hp3 hI
set_option maxHeartbeats 1000000 in
theorem lw_b1 {I : ai_S → Prop} (hL : L ≤ 1536) (hi : 3 * t + 3 ≤ L) (hp : ai_prs S) (h : ai_opV L xs d 1 100 [.ref 0, .long (ai_lng (xs (3 * t + 1)) (xs (3 * t + 2)))] [.ref 432, .long (ai_lng (xs (3 * t + 1)) (xs (3 * t + 2)))] I S) (k : ∀ v5 v6 S9, ai_prs S9 → I S9 → ai_aw L xs d ai_m159 Q (563, lw_lv (Int32.ofNat (3 * t)) v5 v6, [], S9)) : ai_aw L xs d ai_m159 Q (158, lw_lv (Int32.ofNat (3 * t)) v5 v6, [], S) := by
  refine aw_loc at_159_158 rfl rfl ?_
  refine aw_loc at_159_159 rfl rfl ?_
  refine aw_loc at_159_160 rfl rfl ?_
  refine aw_pure at_159_162 rfl rfl ?_
  refine aw_pure at_159_163 rfl rfl ?_
  refine aw_sld at_159_164 (by omega) hL (i32_add1 t) ?_
  refine aw_pure at_159_165 rfl rfl ?_
  refine aw_pure at_159_166 rfl rfl ?_
  refine aw_pure at_159_168 rfl rfl ?_
  refine aw_loc at_159_169 rfl rfl ?_
  refine aw_loc at_159_170 rfl rfl ?_
  refine aw_pure at_159_172 rfl rfl ?_
  refine aw_pure at_159_173 rfl rfl ?_
  refine aw_sld at_159_174 (by omega) hL (i32_add2 t) ?_
  refine aw_pure at_159_175 rfl rfl ?_
  refine aw_fop at_159_176 rfl (st' := _) rfl ?_
  refine aw_pure at_159_179 rfl rfl ?_
  refine aw_pure at_159_180 rfl rfl ?_
  refine aw_cv (a := 0) [.long (ai_lng (xs (3 * t + 1)) (xs (3 * t + 2)))] [] at_159_181 mt_99_48 (Or.inl rfl) rfl rfl (Nat.le_of_ble_eq_true rfl) hp.1 ?_
  refine h.mono (fun v S1 h => ?_)
  obtain ⟨hp1, w, S2, r2, hp2, k5, rfl, rfl, hI⟩ := h
  refine aw_loc at_159_184 rfl rfl ?_
  refine aw_loc at_159_185 rfl rfl ?_
  refine aw_loc at_159_186 rfl rfl ?_
  refine aw_pure at_159_188 rfl rfl ?_
  refine aw_pure at_159_189 rfl rfl ?_
  refine aw_sld at_159_190 (by omega) hL (i32_add1 t) ?_
  refine aw_pure at_159_191 rfl rfl ?_
  refine aw_pure at_159_192 rfl rfl ?_
  refine aw_pure at_159_194 rfl rfl ?_
  refine aw_loc at_159_195 rfl rfl ?_
  refine aw_loc at_159_196 rfl rfl ?_
  refine aw_pure at_159_198 rfl rfl ?_
  refine aw_pure at_159_199 rfl rfl ?_
  refine aw_sld at_159_200 (by omega) hL (i32_add2 t) ?_
  refine aw_pure at_159_201 rfl rfl ?_
  refine aw_fop at_159_202 rfl (st' := _) rfl ?_
  refine aw_pure at_159_205 rfl rfl ?_
  refine aw_pure at_159_206 rfl rfl ?_
  refine aw_cv (a := 432) [.long (ai_lng (xs (3 * t + 1)) (xs (3 * t + 2)))] [.int k5] at_159_207 mt_99_52 (Or.inl rfl) rfl rfl (Nat.le_of_ble_eq_true rfl) hp1.2.1 ?_
  refine ⟨_, S2, r2, ?_⟩
  refine aw_icmp at_159_210 (fun _ => ?_) (fun z => absurd rfl z)
  exact k _ _ S2 hp2 hI
set_option maxHeartbeats 1000000 in
theorem lw_b2 {I : ai_S → Prop} (hL : L ≤ 1536) (hi : 3 * t + 3 ≤ L) (hp : ai_prs S) (h : ai_opN L xs d 2 102 [.ref 0] [.ref 432] I S) (k : ∀ v5 v6 S9, ai_prs S9 → I S9 → ai_aw L xs d ai_m159 Q (563, lw_lv (Int32.ofNat (3 * t)) v5 v6, [], S9)) : ai_aw L xs d ai_m159 Q (215, lw_lv (Int32.ofNat (3 * t)) v5 v6, [], S) := by
  refine aw_loc at_159_215 rfl rfl ?_
  refine aw_cv (a := 0) [] [] at_159_216 mt_99_53 (Or.inl rfl) rfl rfl (Nat.le_of_ble_eq_true rfl) hp.1 ?_
  refine h.mono (fun v S1 h => ?_)
  obtain ⟨hp1, w, S2, r2, hp2, rfl, rfl, hI⟩ := h
  refine aw_loc at_159_219 rfl rfl ?_
  refine aw_cv (a := 432) [] [] at_159_220 mt_99_56 (Or.inl rfl) rfl rfl (Nat.le_of_ble_eq_true rfl) hp1.2.1 ?_
  refine ⟨_, S2, r2, ?_⟩
  refine aw_goto at_159_223 ?_
  exact k _ _ S2 hp2 hI
set_option maxHeartbeats 1000000 in
theorem lw_b3 {I : ai_S → Prop} (hL : L ≤ 1536) (hi : 3 * t + 3 ≤ L) (hp : ai_prs S) (h : ai_opT L xs d 92 104 [.ref 0, .ref 452] [.ref 432] I S) (k : ∀ v5 v6 S9, ai_prs S9 → I S9 → ai_aw L xs d ai_m159 Q (563, lw_lv (Int32.ofNat (3 * t)) v5 v6, [], S9)) : ai_aw L xs d ai_m159 Q (226, lw_lv (Int32.ofNat (3 * t)) v5 v6, [], S) := by
  refine aw_loc at_159_226 rfl rfl ?_
  refine aw_loc at_159_227 rfl rfl ?_
  refine aw_cs [.ref 0, .ref 452] [] at_159_228 rfl mt_99_57 (Or.inr (Or.inr rfl)) rfl rfl (Nat.le_of_ble_eq_true rfl) ?_
  refine h.mono (fun v S1 h => ?_)
  obtain ⟨hp1, w, S2, r2, hp2, u, S3, r3, hp3, k5, b6, rfl, rfl, rfl, hout, hI⟩ := h
  refine aw_loc at_159_231 rfl rfl ?_
  refine aw_loc at_159_233 rfl rfl ?_
  refine aw_cv (a := 432) [] [] at_159_234 mt_99_60 (Or.inl rfl) rfl rfl (Nat.le_of_ble_eq_true rfl) hp1.2.1 ?_
  refine ⟨_, S2, r2, ?_⟩
  refine aw_loc at_159_237 rfl rfl ?_
  refine aw_loc at_159_239 rfl rfl ?_
  refine aw_cv (a := 432) [] [] at_159_240 mt_99_43 (Or.inl rfl) rfl rfl (Nat.le_of_ble_eq_true rfl) hp2.2.1 ?_
  refine ⟨_, S3, r3, ?_⟩
  refine aw_loc at_159_243 rfl rfl ?_
  refine aw_icmp at_159_245 (fun _ => ?_) (fun z => absurd rfl z)
  refine aw_loc at_159_250 rfl rfl ?_
  refine aw_if at_159_252 (fun z => ?_) (fun z => ?_)
  · show ai_aw L xs d ai_m159 Q (267, _, _, _)
    refine aw_goto at_159_267 ?_
    exact k _ _ S3 hp3 hI
  · have hz : k5 = 0 := Classical.byContradiction z
    obtain ⟨f, hf, hb⟩ := hout hz
    refine aw_loc at_159_255 rfl rfl ?_
    refine aw_pure at_159_256 rfl rfl ?_
    refine aw_lald at_159_257 rfl hf (by decide) ?_
    rw [show f (Int32.ofInt 0).toNatClampNeg = b6.toInt64 from hb]
    refine aw_loc at_159_258 rfl rfl ?_
    refine aw_pure at_159_260 rfl rfl ?_
    refine aw_pure at_159_261 rfl rfl ?_
    refine aw_if at_159_262 (fun _ => ?_) (fun z => absurd (lg_cmp_self _) z)
    refine aw_goto at_159_267 ?_
    exact k _ _ S3 hp3 hI
set_option maxHeartbeats 1000000 in
theorem lw_b4 {I : ai_S → Prop} (hL : L ≤ 1536) (hi : 3 * t + 3 ≤ L) (hp : ai_prs S) (h : ai_opT L xs d 93 112 [.ref 0, .int (xs (3 * t + 1)), .ref 452] [.ref 432, .int (xs (3 * t + 1))] I S) (k : ∀ v5 v6 S9, ai_prs S9 → I S9 → ai_aw L xs d ai_m159 Q (563, lw_lv (Int32.ofNat (3 * t)) v5 v6, [], S9)) : ai_aw L xs d ai_m159 Q (270, lw_lv (Int32.ofNat (3 * t)) v5 v6, [], S) := by
  refine aw_loc at_159_270 rfl rfl ?_
  refine aw_loc at_159_271 rfl rfl ?_
  refine aw_loc at_159_272 rfl rfl ?_
  refine aw_pure at_159_274 rfl rfl ?_
  refine aw_pure at_159_275 rfl rfl ?_
  refine aw_sld at_159_276 (by omega) hL (i32_add1 t) ?_
  refine aw_loc at_159_277 rfl rfl ?_
  refine aw_cs [.ref 0, .int (xs (3 * t + 1)), .ref 452] [] at_159_278 rfl mt_99_61 (Or.inr (Or.inr rfl)) rfl rfl (Nat.le_of_ble_eq_true rfl) ?_
  refine h.mono (fun v S1 h => ?_)
  obtain ⟨hp1, w, S2, r2, hp2, u, S3, r3, hp3, k5, b6, rfl, rfl, rfl, hout, hI⟩ := h
  refine aw_loc at_159_281 rfl rfl ?_
  refine aw_loc at_159_283 rfl rfl ?_
  refine aw_loc at_159_284 rfl rfl ?_
  refine aw_loc at_159_285 rfl rfl ?_
  refine aw_pure at_159_287 rfl rfl ?_
  refine aw_pure at_159_288 rfl rfl ?_
  refine aw_sld at_159_289 (by omega) hL (i32_add1 t) ?_
  refine aw_cv (a := 432) [.int (xs (3 * t + 1))] [] at_159_290 mt_99_64 (Or.inl rfl) rfl rfl (Nat.le_of_ble_eq_true rfl) hp1.2.1 ?_
  refine ⟨_, S2, r2, ?_⟩
  refine aw_loc at_159_293 rfl rfl ?_
  refine aw_loc at_159_295 rfl rfl ?_
  refine aw_cv (a := 432) [] [] at_159_296 mt_99_43 (Or.inl rfl) rfl rfl (Nat.le_of_ble_eq_true rfl) hp2.2.1 ?_
  refine ⟨_, S3, r3, ?_⟩
  refine aw_loc at_159_299 rfl rfl ?_
  refine aw_icmp at_159_301 (fun _ => ?_) (fun z => absurd rfl z)
  refine aw_loc at_159_306 rfl rfl ?_
  refine aw_if at_159_308 (fun z => ?_) (fun z => ?_)
  · show ai_aw L xs d ai_m159 Q (323, _, _, _)
    refine aw_goto at_159_323 ?_
    exact k _ _ S3 hp3 hI
  · have hz : k5 = 0 := Classical.byContradiction z
    obtain ⟨f, hf, hb⟩ := hout hz
    refine aw_loc at_159_311 rfl rfl ?_
    refine aw_pure at_159_312 rfl rfl ?_
    refine aw_lald at_159_313 rfl hf (by decide) ?_
    rw [show f (Int32.ofInt 0).toNatClampNeg = b6.toInt64 from hb]
    refine aw_loc at_159_314 rfl rfl ?_
    refine aw_pure at_159_316 rfl rfl ?_
    refine aw_pure at_159_317 rfl rfl ?_
    refine aw_if at_159_318 (fun _ => ?_) (fun z => absurd (lg_cmp_self _) z)
    refine aw_goto at_159_323 ?_
    exact k _ _ S3 hp3 hI
set_option maxHeartbeats 1000000 in
theorem lw_b5 {I : ai_S → Prop} (hL : L ≤ 1536) (hi : 3 * t + 3 ≤ L) (hp : ai_prs S) (h : ai_opV L xs d 3 148 [.ref 0] [.ref 432] I S) (k : ∀ v5 v6 S9, ai_prs S9 → I S9 → ai_aw L xs d ai_m159 Q (563, lw_lv (Int32.ofNat (3 * t)) v5 v6, [], S9)) : ai_aw L xs d ai_m159 Q (326, lw_lv (Int32.ofNat (3 * t)) v5 v6, [], S) := by
  refine aw_loc at_159_326 rfl rfl ?_
  refine aw_cv (a := 0) [] [] at_159_327 mt_99_65 (Or.inl rfl) rfl rfl (Nat.le_of_ble_eq_true rfl) hp.1 ?_
  refine h.mono (fun v S1 h => ?_)
  obtain ⟨hp1, w, S2, r2, hp2, k5, rfl, rfl, hI⟩ := h
  refine aw_loc at_159_330 rfl rfl ?_
  refine aw_cv (a := 432) [] [.int k5] at_159_331 mt_99_68 (Or.inl rfl) rfl rfl (Nat.le_of_ble_eq_true rfl) hp1.2.1 ?_
  refine ⟨_, S2, r2, ?_⟩
  refine aw_icmp at_159_334 (fun _ => ?_) (fun z => absurd rfl z)
  exact k _ _ S2 hp2 hI
set_option maxHeartbeats 1000000 in
theorem lw_b6 {I : ai_S → Prop} (hL : L ≤ 1536) (hi : 3 * t + 3 ≤ L) (hp : ai_prs S) (h : ai_opV L xs d 4 149 [.ref 0] [.ref 432] I S) (k : ∀ v5 v6 S9, ai_prs S9 → I S9 → ai_aw L xs d ai_m159 Q (563, lw_lv (Int32.ofNat (3 * t)) v5 v6, [], S9)) : ai_aw L xs d ai_m159 Q (339, lw_lv (Int32.ofNat (3 * t)) v5 v6, [], S) := by
  refine aw_loc at_159_339 rfl rfl ?_
  refine aw_cv (a := 0) [] [] at_159_340 mt_99_69 (Or.inl rfl) rfl rfl (Nat.le_of_ble_eq_true rfl) hp.1 ?_
  refine h.mono (fun v S1 h => ?_)
  obtain ⟨hp1, w, S2, r2, hp2, k5, rfl, rfl, hI⟩ := h
  refine aw_loc at_159_343 rfl rfl ?_
  refine aw_cv (a := 432) [] [.int k5] at_159_344 mt_99_72 (Or.inl rfl) rfl rfl (Nat.le_of_ble_eq_true rfl) hp1.2.1 ?_
  refine ⟨_, S2, r2, ?_⟩
  refine aw_icmp at_159_347 (fun _ => ?_) (fun z => absurd rfl z)
  exact k _ _ S2 hp2 hI
set_option maxHeartbeats 1000000 in
theorem lw_b7 {I : ai_S → Prop} (hL : L ≤ 1536) (hi : 3 * t + 3 ≤ L) (hp : ai_prs S) (h : ai_opV L xs d 5 150 [.ref 0] [.ref 432] I S) (k : ∀ v5 v6 S9, ai_prs S9 → I S9 → ai_aw L xs d ai_m159 Q (563, lw_lv (Int32.ofNat (3 * t)) v5 v6, [], S9)) : ai_aw L xs d ai_m159 Q (352, lw_lv (Int32.ofNat (3 * t)) v5 v6, [], S) := by
  refine aw_loc at_159_352 rfl rfl ?_
  refine aw_cv (a := 0) [] [] at_159_353 mt_99_73 (Or.inl rfl) rfl rfl (Nat.le_of_ble_eq_true rfl) hp.1 ?_
  refine h.mono (fun v S1 h => ?_)
  obtain ⟨hp1, w, S2, r2, hp2, k5, rfl, rfl, hI⟩ := h
  refine aw_loc at_159_356 rfl rfl ?_
  refine aw_cv (a := 432) [] [.int k5] at_159_357 mt_99_76 (Or.inl rfl) rfl rfl (Nat.le_of_ble_eq_true rfl) hp1.2.1 ?_
  refine ⟨_, S2, r2, ?_⟩
  refine aw_icmp at_159_360 (fun _ => ?_) (fun z => absurd rfl z)
  exact k _ _ S2 hp2 hI
set_option maxHeartbeats 1000000 in
theorem lw_b8 {I : ai_S → Prop} (hL : L ≤ 1536) (hi : 3 * t + 3 ≤ L) (hp : ai_prs S) (h : ai_opV L xs d 6 151 [.ref 0, .int (xs (3 * t + 1)), .int (xs (3 * t + 2))] [.ref 432, .int (xs (3 * t + 1)), .int (xs (3 * t + 2))] I S) (k : ∀ v5 v6 S9, ai_prs S9 → I S9 → ai_aw L xs d ai_m159 Q (563, lw_lv (Int32.ofNat (3 * t)) v5 v6, [], S9)) : ai_aw L xs d ai_m159 Q (365, lw_lv (Int32.ofNat (3 * t)) v5 v6, [], S) := by
  refine aw_loc at_159_365 rfl rfl ?_
  refine aw_loc at_159_366 rfl rfl ?_
  refine aw_loc at_159_367 rfl rfl ?_
  refine aw_pure at_159_369 rfl rfl ?_
  refine aw_pure at_159_370 rfl rfl ?_
  refine aw_sld at_159_371 (by omega) hL (i32_add1 t) ?_
  refine aw_loc at_159_372 rfl rfl ?_
  refine aw_loc at_159_373 rfl rfl ?_
  refine aw_pure at_159_375 rfl rfl ?_
  refine aw_pure at_159_376 rfl rfl ?_
  refine aw_sld at_159_377 (by omega) hL (i32_add2 t) ?_
  refine aw_cv (a := 0) [.int (xs (3 * t + 1)), .int (xs (3 * t + 2))] [] at_159_378 mt_99_77 (Or.inl rfl) rfl rfl (Nat.le_of_ble_eq_true rfl) hp.1 ?_
  refine h.mono (fun v S1 h => ?_)
  obtain ⟨hp1, w, S2, r2, hp2, k5, rfl, rfl, hI⟩ := h
  refine aw_loc at_159_381 rfl rfl ?_
  refine aw_loc at_159_382 rfl rfl ?_
  refine aw_loc at_159_383 rfl rfl ?_
  refine aw_pure at_159_385 rfl rfl ?_
  refine aw_pure at_159_386 rfl rfl ?_
  refine aw_sld at_159_387 (by omega) hL (i32_add1 t) ?_
  refine aw_loc at_159_388 rfl rfl ?_
  refine aw_loc at_159_389 rfl rfl ?_
  refine aw_pure at_159_391 rfl rfl ?_
  refine aw_pure at_159_392 rfl rfl ?_
  refine aw_sld at_159_393 (by omega) hL (i32_add2 t) ?_
  refine aw_cv (a := 432) [.int (xs (3 * t + 1)), .int (xs (3 * t + 2))] [.int k5] at_159_394 mt_99_81 (Or.inl rfl) rfl rfl (Nat.le_of_ble_eq_true rfl) hp1.2.1 ?_
  refine ⟨_, S2, r2, ?_⟩
  refine aw_icmp at_159_397 (fun _ => ?_) (fun z => absurd rfl z)
  exact k _ _ S2 hp2 hI
set_option maxHeartbeats 1000000 in
theorem lw_b9 {I : ai_S → Prop} (hL : L ≤ 1536) (hi : 3 * t + 3 ≤ L) (hp : ai_prs S) (h : ai_opV L xs d 7 154 [.ref 0, .int (xs (3 * t + 1)), .int (xs (3 * t + 2))] [.ref 432, .int (xs (3 * t + 1)), .int (xs (3 * t + 2))] I S) (k : ∀ v5 v6 S9, ai_prs S9 → I S9 → ai_aw L xs d ai_m159 Q (563, lw_lv (Int32.ofNat (3 * t)) v5 v6, [], S9)) : ai_aw L xs d ai_m159 Q (402, lw_lv (Int32.ofNat (3 * t)) v5 v6, [], S) := by
  refine aw_loc at_159_402 rfl rfl ?_
  refine aw_loc at_159_403 rfl rfl ?_
  refine aw_loc at_159_404 rfl rfl ?_
  refine aw_pure at_159_406 rfl rfl ?_
  refine aw_pure at_159_407 rfl rfl ?_
  refine aw_sld at_159_408 (by omega) hL (i32_add1 t) ?_
  refine aw_loc at_159_409 rfl rfl ?_
  refine aw_loc at_159_410 rfl rfl ?_
  refine aw_pure at_159_412 rfl rfl ?_
  refine aw_pure at_159_413 rfl rfl ?_
  refine aw_sld at_159_414 (by omega) hL (i32_add2 t) ?_
  refine aw_cv (a := 0) [.int (xs (3 * t + 1)), .int (xs (3 * t + 2))] [] at_159_415 mt_99_82 (Or.inl rfl) rfl rfl (Nat.le_of_ble_eq_true rfl) hp.1 ?_
  refine h.mono (fun v S1 h => ?_)
  obtain ⟨hp1, w, S2, r2, hp2, k5, rfl, rfl, hI⟩ := h
  refine aw_loc at_159_418 rfl rfl ?_
  refine aw_loc at_159_419 rfl rfl ?_
  refine aw_loc at_159_420 rfl rfl ?_
  refine aw_pure at_159_422 rfl rfl ?_
  refine aw_pure at_159_423 rfl rfl ?_
  refine aw_sld at_159_424 (by omega) hL (i32_add1 t) ?_
  refine aw_loc at_159_425 rfl rfl ?_
  refine aw_loc at_159_426 rfl rfl ?_
  refine aw_pure at_159_428 rfl rfl ?_
  refine aw_pure at_159_429 rfl rfl ?_
  refine aw_sld at_159_430 (by omega) hL (i32_add2 t) ?_
  refine aw_cv (a := 432) [.int (xs (3 * t + 1)), .int (xs (3 * t + 2))] [.int k5] at_159_431 mt_99_85 (Or.inl rfl) rfl rfl (Nat.le_of_ble_eq_true rfl) hp1.2.1 ?_
  refine ⟨_, S2, r2, ?_⟩
  refine aw_icmp at_159_434 (fun _ => ?_) (fun z => absurd rfl z)
  exact k _ _ S2 hp2 hI
set_option maxHeartbeats 1000000 in
theorem lw_b10 {I : ai_S → Prop} (hL : L ≤ 1536) (hi : 3 * t + 3 ≤ L) (hp : ai_prs S) (h : ai_opT L xs d 94 155 [.ref 0, .ref 452] [.ref 432] I S) (k : ∀ v5 v6 S9, ai_prs S9 → I S9 → ai_aw L xs d ai_m159 Q (563, lw_lv (Int32.ofNat (3 * t)) v5 v6, [], S9)) : ai_aw L xs d ai_m159 Q (439, lw_lv (Int32.ofNat (3 * t)) v5 v6, [], S) := by
  refine aw_loc at_159_439 rfl rfl ?_
  refine aw_loc at_159_440 rfl rfl ?_
  refine aw_cs [.ref 0, .ref 452] [] at_159_441 rfl mt_99_86 (Or.inr (Or.inr rfl)) rfl rfl (Nat.le_of_ble_eq_true rfl) ?_
  refine h.mono (fun v S1 h => ?_)
  obtain ⟨hp1, w, S2, r2, hp2, u, S3, r3, hp3, k5, b6, rfl, rfl, rfl, hout, hI⟩ := h
  refine aw_loc at_159_444 rfl rfl ?_
  refine aw_loc at_159_446 rfl rfl ?_
  refine aw_cv (a := 432) [] [] at_159_447 mt_99_88 (Or.inl rfl) rfl rfl (Nat.le_of_ble_eq_true rfl) hp1.2.1 ?_
  refine ⟨_, S2, r2, ?_⟩
  refine aw_loc at_159_450 rfl rfl ?_
  refine aw_loc at_159_452 rfl rfl ?_
  refine aw_cv (a := 432) [] [] at_159_453 mt_99_43 (Or.inl rfl) rfl rfl (Nat.le_of_ble_eq_true rfl) hp2.2.1 ?_
  refine ⟨_, S3, r3, ?_⟩
  refine aw_loc at_159_456 rfl rfl ?_
  refine aw_icmp at_159_458 (fun _ => ?_) (fun z => absurd rfl z)
  refine aw_loc at_159_463 rfl rfl ?_
  refine aw_if at_159_465 (fun z => ?_) (fun z => ?_)
  · show ai_aw L xs d ai_m159 Q (480, _, _, _)
    refine aw_goto at_159_480 ?_
    exact k _ _ S3 hp3 hI
  · have hz : k5 = 0 := Classical.byContradiction z
    obtain ⟨f, hf, hb⟩ := hout hz
    refine aw_loc at_159_468 rfl rfl ?_
    refine aw_pure at_159_469 rfl rfl ?_
    refine aw_lald at_159_470 rfl hf (by decide) ?_
    rw [show f (Int32.ofInt 0).toNatClampNeg = b6.toInt64 from hb]
    refine aw_loc at_159_471 rfl rfl ?_
    refine aw_pure at_159_473 rfl rfl ?_
    refine aw_pure at_159_474 rfl rfl ?_
    refine aw_if at_159_475 (fun _ => ?_) (fun z => absurd (lg_cmp_self _) z)
    refine aw_goto at_159_480 ?_
    exact k _ _ S3 hp3 hI
set_option maxHeartbeats 1000000 in
theorem lw_b11 {I : ai_S → Prop} (hL : L ≤ 1536) (hi : 3 * t + 3 ≤ L) (hp : ai_prs S) (h : ai_opT L xs d 95 156 [.ref 0, .ref 452] [.ref 432] I S) (k : ∀ v5 v6 S9, ai_prs S9 → I S9 → ai_aw L xs d ai_m159 Q (563, lw_lv (Int32.ofNat (3 * t)) v5 v6, [], S9)) : ai_aw L xs d ai_m159 Q (483, lw_lv (Int32.ofNat (3 * t)) v5 v6, [], S) := by
  refine aw_loc at_159_483 rfl rfl ?_
  refine aw_loc at_159_484 rfl rfl ?_
  refine aw_cs [.ref 0, .ref 452] [] at_159_485 rfl mt_99_89 (Or.inr (Or.inr rfl)) rfl rfl (Nat.le_of_ble_eq_true rfl) ?_
  refine h.mono (fun v S1 h => ?_)
  obtain ⟨hp1, w, S2, r2, hp2, u, S3, r3, hp3, k5, b6, rfl, rfl, rfl, hout, hI⟩ := h
  refine aw_loc at_159_488 rfl rfl ?_
  refine aw_loc at_159_490 rfl rfl ?_
  refine aw_cv (a := 432) [] [] at_159_491 mt_99_91 (Or.inl rfl) rfl rfl (Nat.le_of_ble_eq_true rfl) hp1.2.1 ?_
  refine ⟨_, S2, r2, ?_⟩
  refine aw_loc at_159_494 rfl rfl ?_
  refine aw_loc at_159_496 rfl rfl ?_
  refine aw_cv (a := 432) [] [] at_159_497 mt_99_43 (Or.inl rfl) rfl rfl (Nat.le_of_ble_eq_true rfl) hp2.2.1 ?_
  refine ⟨_, S3, r3, ?_⟩
  refine aw_loc at_159_500 rfl rfl ?_
  refine aw_icmp at_159_502 (fun _ => ?_) (fun z => absurd rfl z)
  refine aw_loc at_159_507 rfl rfl ?_
  refine aw_if at_159_509 (fun z => ?_) (fun z => ?_)
  · show ai_aw L xs d ai_m159 Q (524, _, _, _)
    refine aw_goto at_159_524 ?_
    exact k _ _ S3 hp3 hI
  · have hz : k5 = 0 := Classical.byContradiction z
    obtain ⟨f, hf, hb⟩ := hout hz
    refine aw_loc at_159_512 rfl rfl ?_
    refine aw_pure at_159_513 rfl rfl ?_
    refine aw_lald at_159_514 rfl hf (by decide) ?_
    rw [show f (Int32.ofInt 0).toNatClampNeg = b6.toInt64 from hb]
    refine aw_loc at_159_515 rfl rfl ?_
    refine aw_pure at_159_517 rfl rfl ?_
    refine aw_pure at_159_518 rfl rfl ?_
    refine aw_if at_159_519 (fun _ => ?_) (fun z => absurd (lg_cmp_self _) z)
    refine aw_goto at_159_524 ?_
    exact k _ _ S3 hp3 hI
set_option maxHeartbeats 1000000 in
theorem lw_b12 {I : ai_S → Prop} (hL : L ≤ 1536) (hi : 3 * t + 3 ≤ L) (hp : ai_prs S) (h : ai_opV L xs d 8 103 [.ref 0, .int (xs (3 * t + 1))] [.ref 432, .int (xs (3 * t + 1))] I S) (k : ∀ v5 v6 S9, ai_prs S9 → I S9 → ai_aw L xs d ai_m159 Q (563, lw_lv (Int32.ofNat (3 * t)) v5 v6, [], S9)) : ai_aw L xs d ai_m159 Q (527, lw_lv (Int32.ofNat (3 * t)) v5 v6, [], S) := by
  refine aw_loc at_159_527 rfl rfl ?_
  refine aw_loc at_159_528 rfl rfl ?_
  refine aw_loc at_159_529 rfl rfl ?_
  refine aw_pure at_159_531 rfl rfl ?_
  refine aw_pure at_159_532 rfl rfl ?_
  refine aw_sld at_159_533 (by omega) hL (i32_add1 t) ?_
  refine aw_cv (a := 0) [.int (xs (3 * t + 1))] [] at_159_534 mt_99_92 (Or.inl rfl) rfl rfl (Nat.le_of_ble_eq_true rfl) hp.1 ?_
  refine h.mono (fun v S1 h => ?_)
  obtain ⟨hp1, w, S2, r2, hp2, k5, rfl, rfl, hI⟩ := h
  refine aw_loc at_159_537 rfl rfl ?_
  refine aw_loc at_159_538 rfl rfl ?_
  refine aw_loc at_159_539 rfl rfl ?_
  refine aw_pure at_159_541 rfl rfl ?_
  refine aw_pure at_159_542 rfl rfl ?_
  refine aw_sld at_159_543 (by omega) hL (i32_add1 t) ?_
  refine aw_cv (a := 432) [.int (xs (3 * t + 1))] [.int k5] at_159_544 mt_99_96 (Or.inl rfl) rfl rfl (Nat.le_of_ble_eq_true rfl) hp1.2.1 ?_
  refine ⟨_, S2, r2, ?_⟩
  refine aw_icmp at_159_547 (fun _ => ?_) (fun z => absurd rfl z)
  exact k _ _ S2 hp2 hI
set_option maxHeartbeats 1000000 in
theorem lw_b13 {I : ai_S → Prop} (hL : L ≤ 1536) (hi : 3 * t + 3 ≤ L) (hp : ai_prs S) (h : ai_opN L xs d 9 157 [.ref 0] [.ref 432] I S) (k : ∀ v5 v6 S9, ai_prs S9 → I S9 → ai_aw L xs d ai_m159 Q (563, lw_lv (Int32.ofNat (3 * t)) v5 v6, [], S9)) : ai_aw L xs d ai_m159 Q (552, lw_lv (Int32.ofNat (3 * t)) v5 v6, [], S) := by
  refine aw_loc at_159_552 rfl rfl ?_
  refine aw_cv (a := 0) [] [] at_159_553 mt_99_97 (Or.inl rfl) rfl rfl (Nat.le_of_ble_eq_true rfl) hp.1 ?_
  refine h.mono (fun v S1 h => ?_)
  obtain ⟨hp1, w, S2, r2, hp2, rfl, rfl, hI⟩ := h
  refine aw_loc at_159_556 rfl rfl ?_
  refine aw_cv (a := 432) [] [] at_159_557 mt_99_100 (Or.inl rfl) rfl rfl (Nat.le_of_ble_eq_true rfl) hp1.2.1 ?_
  refine ⟨_, S2, r2, ?_⟩
  refine aw_goto at_159_560 ?_
  exact k _ _ S2 hp2 hI
theorem lw_and15 (x : Int32) : ¬ ((x &&& Int32.ofInt 15).toInt < 0 ∨ 15 < (x &&& Int32.ofInt 15).toInt) := by
  have h : ((x &&& 15).toBitVec).toNat ≤ 15 := by
    rw [Int32.toBitVec_and, BitVec.toNat_and]
    exact Nat.and_le_right
  have h2 : (x &&& 15).toInt = ((x &&& 15).toBitVec).toNat := by
    rw [← Int32.toInt_toBitVec, BitVec.toInt_eq_toNat_of_lt (by omega)]
  show ¬ ((x &&& 15).toInt < 0 ∨ 15 < (x &&& 15).toInt)
  omega
theorem lw_15 (y : Int32) (h : ¬ (y.toInt < 0 ∨ 15 < y.toInt)) : ∃ n : Nat, n < 16 ∧ y = Int32.ofNat n := by
  refine ⟨y.toInt.toNat, by omega, ?_⟩
  apply Int32.toInt_inj.mp
  rw [Int32.toInt_ofNat_of_lt (by omega)]
  omega
set_option maxHeartbeats 1000000 in
theorem lw_turn {I : ai_S → Prop} (hL : L ≤ 1536) (hi : 3 * t + 3 ≤ L) (hp : ai_prs S) (h : ai_op L xs d (xs (3 * t) &&& Int32.ofInt 15) (xs (3 * t + 1)) (xs (3 * t + 2)) I S) (k : ∀ v5 v6 S9, ai_prs S9 → I S9 → ai_aw L xs d ai_m159 Q (23, lw_lv (Int32.ofNat (3 * (t + 1))) v5 v6, [], S9)) : ai_aw L xs d ai_m159 Q (23, lw_lv (Int32.ofNat (3 * t)) v5 v6, [], S) := by
  refine aw_loc at_159_23 rfl rfl ?_
  refine aw_loc at_159_25 rfl rfl ?_
  refine aw_slen at_159_26 ?_
  refine aw_pure at_159_27 rfl rfl ?_
  refine aw_pure at_159_28 rfl rfl ?_
  refine aw_icmp at_159_29 (fun z => absurd ((i32_head hL (by omega)).mp z) (by omega)) (fun _ => ?_)
  refine aw_loc at_159_32 rfl rfl ?_
  refine aw_loc at_159_33 rfl rfl ?_
  refine aw_sld at_159_35 (k := 3 * t) (by omega) hL rfl ?_
  refine aw_pure at_159_36 rfl rfl ?_
  refine aw_pure at_159_38 rfl rfl ?_
  change ai_aw L xs d ai_m159 Q (39, _, .int (xs (3 * t) &&& Int32.ofInt 15) :: [], S)
  have k563 : ∀ v5 v6 S9, ai_prs S9 → I S9 → ai_aw L xs d ai_m159 Q (563, lw_lv (Int32.ofNat (3 * t)) v5 v6, [], S9) := by
    intro v5 v6 S9 hp9 h9
    refine aw_loc at_159_563 rfl rfl ?_
    refine aw_goto at_159_566 ?_
    have := k v5 v6 S9 hp9 h9
    rw [← i32_add3] at this
    exact this
  obtain ⟨n, hn, hy⟩ := lw_15 _ (lw_and15 (xs (3 * t)))
  rw [hy] at h ⊢
  obtain ⟨h0, h1, h2, h3, h4, h5, h6, h7, h8, h9, h10, h11, h12, h13, h14⟩ := h
  refine aw_switch at_159_39 (fun z => ?_) (fun z => ?_)
  · have h15 : n = 14 ∨ n = 15 := by
      rw [Int32.toInt_ofNat_of_lt (by omega)] at z; omega
    refine k563 _ _ S hp (h14 ?_)
    rcases h15 with rfl | rfl
    · exact Or.inl rfl
    · exact Or.inr rfl
  · rw [Int32.toInt_ofNat_of_lt (by omega)] at z ⊢
    have hlt : n < 14 := by omega
    match n, hlt with
    | 0, _ => exact ⟨_, rfl, lw_b0 hL hi hp (h0 rfl) k563⟩
    | 1, _ => exact ⟨_, rfl, lw_b1 hL hi hp (h1 rfl) k563⟩
    | 2, _ => exact ⟨_, rfl, lw_b2 hL hi hp (h2 rfl) k563⟩
    | 3, _ => exact ⟨_, rfl, lw_b3 hL hi hp (h3 rfl) k563⟩
    | 4, _ => exact ⟨_, rfl, lw_b4 hL hi hp (h4 rfl) k563⟩
    | 5, _ => exact ⟨_, rfl, lw_b5 hL hi hp (h5 rfl) k563⟩
    | 6, _ => exact ⟨_, rfl, lw_b6 hL hi hp (h6 rfl) k563⟩
    | 7, _ => exact ⟨_, rfl, lw_b7 hL hi hp (h7 rfl) k563⟩
    | 8, _ => exact ⟨_, rfl, lw_b8 hL hi hp (h8 rfl) k563⟩
    | 9, _ => exact ⟨_, rfl, lw_b9 hL hi hp (h9 rfl) k563⟩
    | 10, _ => exact ⟨_, rfl, lw_b10 hL hi hp (h10 rfl) k563⟩
    | 11, _ => exact ⟨_, rfl, lw_b11 hL hi hp (h11 rfl) k563⟩
    | 12, _ => exact ⟨_, rfl, lw_b12 hL hi hp (h12 rfl) k563⟩
    | 13, _ => exact ⟨_, rfl, lw_b13 hL hi hp (h13 rfl) k563⟩
theorem lw_end (hL : L ≤ 1536) (ht : 3 * t ≤ 1536) (hi : L < 3 * t + 3) (hq : Q (ai_ok (some (.int 1)) S)) : ai_aw L xs d ai_m159 Q (23, lw_lv (Int32.ofNat (3 * t)) v5 v6, [], S) := by
  refine aw_loc at_159_23 rfl rfl ?_
  refine aw_loc at_159_25 rfl rfl ?_
  refine aw_slen at_159_26 ?_
  refine aw_pure at_159_27 rfl rfl ?_
  refine aw_pure at_159_28 rfl rfl ?_
  refine aw_icmp at_159_29 (fun _ => ?_) (fun z => absurd ((i32_head hL (by omega)).mpr hi) z)
  show ai_aw L xs d ai_m159 Q (569, _, _, _)
  refine aw_pure at_159_569 rfl rfl ?_
  exact aw_ret at_159_570 rfl rfl hq
theorem lw_loop {I : Nat → ai_S → Prop} (hL : L ≤ 1536) (hop : ∀ t S, 3 * t + 3 ≤ L → ai_prs S → I t S → ai_op L xs d (xs (3 * t) &&& Int32.ofInt 15) (xs (3 * t + 1)) (xs (3 * t + 2)) (I (t + 1)) S) (hq : ∀ t S, 3 * t ≤ L → I t S → Q (ai_ok (some (.int 1)) S)) : ∀ (n t : Nat) (v5 v6 : Option Value) (S : ai_S), L ≤ 3 * t + n → 3 * t ≤ L → ai_prs S → I t S → ai_aw L xs d ai_m159 Q (23, lw_lv (Int32.ofNat (3 * t)) v5 v6, [], S) := by
  intro n
  induction n with
  | zero => intro t v5 v6 S h1 h2 hp hI; exact lw_end hL (by omega) (by omega) (hq t S h2 hI)
  | succ n ih =>
    intro t v5 v6 S h1 h2 hp hI
    by_cases h3 : 3 * t + 3 ≤ L
    · exact lw_turn hL h3 hp (hop t S h3 hp hI) (fun v5 v6 S9 hp9 hI9 => ih (t + 1) v5 v6 S9 (by omega) (by omega) hp9 hI9)
    · exact lw_end hL (by omega) (by omega) (hq t S h2 hI)
end LB
end
section
/-! The law's entry: the two objects and the row for answers are made. -/
section LE
variable {L : Nat} {xs : Nat → Int32}
theorem ai_isO_eq {x : ai_C} {c : Nat} {fs : List Value} (h : ai_isO x c fs = true) : x = .inr (c, fs) := by
  unfold ai_isO at h
  split at h
  · simp only [Bool.and_eq_true, decide_eq_true_eq] at h
    rw [h.1, h.2]
  · cases h
theorem ai_isZ_eq {x : ai_C} {t n : Nat} {v : Int32} (h : ai_isZ x t n v = true) : ∃ f, x = .inl (t, ai_I n f) ∧ ∀ j, j < n → f j = v := by
  unfold ai_isZ at h
  split at h
  · rename_i t' n' f
    simp only [Bool.and_eq_true, decide_eq_true_eq, List.all_eq_true, List.mem_range] at h
    exact ⟨f, by rw [h.1.1, h.1.2], h.2⟩
  · cases h
theorem ai_isP_eq {x : ai_C} {n b : Nat} (h : ai_isP x n b = true) : ∃ f, x = .inl (4, ai_A n f) ∧ ∀ j, j < n → f j = some (b + 5 * j) := by
  unfold ai_isP at h
  split at h
  · rename_i n' f
    simp only [Bool.and_eq_true, decide_eq_true_eq, List.all_eq_true, List.mem_range] at h
    exact ⟨f, by rw [h.1], h.2⟩
  · cases h
theorem ai_isL_eq {x : ai_C} {v : Int64} (h : ai_isL x v = true) : ∃ f, x = .inl (3, ai_J 1 f) ∧ f 0 = v := by
  unfold ai_isL at h
  split at h
  · rename_i f
    exact ⟨f, rfl, by simpa using h⟩
  · cases h
/-- what a fresh state is, in words -/
theorem ai_frc_all {S : ai_S} (h : ai_frc S = true) : S.1 = 453 ∧ S.2.1 = 453 ∧ S.2.2.1 = 12190 ∧ (∀ q ∈ ai_fo, S.2.2.2 q.1 = .inr (q.2.1, q.2.2)) ∧ (∀ q ∈ ai_fa, ∃ f, S.2.2.2 q.1 = .inl (q.2.1, ai_I q.2.2.1 f) ∧ ∀ j, j < q.2.2.1 → f j = q.2.2.2) ∧ (∀ q ∈ ai_fp, ∃ f, S.2.2.2 q.1 = .inl (4, ai_A q.2.1 f) ∧ ∀ j, j < q.2.1 → f j = some (q.2.2 + 5 * j)) ∧ ∃ f, S.2.2.2 452 = .inl (3, ai_J 1 f) ∧ f 0 = 0 := by
  unfold ai_frc at h
  simp only [Bool.and_eq_true, decide_eq_true_eq] at h
  obtain ⟨⟨⟨⟨⟨⟨h1, h2⟩, h3⟩, h4⟩, h5⟩, h6⟩, h7⟩ := h
  exact ⟨h1, h2, h3, fun q hq => ai_isO_eq (List.all_eq_true.mp h4 q hq), fun q hq => ai_isZ_eq (List.all_eq_true.mp h5 q hq), fun q hq => ai_isP_eq (List.all_eq_true.mp h6 q hq), ai_isL_eq h7⟩
theorem ai_obj_of {S : ai_S} {a c : Nat} {fs : List Value} (h : S.2.2.2 a = .inr (c, fs)) (hl : a < S.1) : ai_obj S a c = some fs := by
  unfold ai_obj
  rw [if_pos hl, h]
  exact if_pos rfl
theorem ai_arr_of {S : ai_S} {a t n : Nat} {f : Nat → Int32} (h : S.2.2.2 a = .inl (t, ai_I n f)) (hl : a < S.1) : ai_arr S a t = some (n, f) := by
  unfold ai_arr
  rw [if_pos hl, h]
  exact if_pos rfl
theorem ai_arrJ_of {S : ai_S} {a t n : Nat} {f : Nat → Int64} (h : S.2.2.2 a = .inl (t, ai_J n f)) (hl : a < S.1) : ai_arrJ S a t = some (n, f) := by
  unfold ai_arrJ
  rw [if_pos hl, h]
  exact if_pos rfl
theorem ai_arrA_of {S : ai_S} {a t n : Nat} {f : Nat → Option Nat} (h : S.2.2.2 a = .inl (t, ai_A n f)) (hl : a < S.1) : ai_arrA S a t = some (n, f) := by
  unfold ai_arrA
  rw [if_pos hl, h]
  exact if_pos rfl
theorem ai_fo_m : (0, 0, [.ref 1, .ref 4, .ref 6, .ref 11]) ∈ ai_fo := List.mem_append_left _ (List.mem_append_left _ (List.mem_append_left _ (List.mem_append_left _ List.mem_cons_self)))
theorem ai_fo_has : ai_fo.any (fun q => decide (q.1 = 432) && decide (q.2.1 = 11)) = true := by decide +kernel
theorem ai_prs_of {S : ai_S} (h : ai_frc S = true) : ai_prs S := by
  obtain ⟨h1, -, -, h4, -, -, f, hf, -⟩ := ai_frc_all h
  refine ⟨⟨_, ai_obj_of (h4 _ ai_fo_m) (by rw [h1]; decide)⟩, ?_, f, ai_arrJ_of hf (by rw [h1]; decide)⟩
  obtain ⟨q, hq, h⟩ := List.any_eq_true.mp ai_fo_has
  simp only [Bool.and_eq_true, decide_eq_true_eq] at h
  have := h4 q hq
  rw [h.1, h.2] at this
  exact ⟨_, ai_obj_of this (by rw [h1]; decide)⟩
theorem at_159_0 : ai_at ai_m159 0 = some (.new 8, 3) := rfl
theorem at_159_3 : ai_at ai_m159 3 = some (.dup, 1) := rfl
theorem at_159_4 : ai_at ai_m159 4 = some (.invokespecial 33, 3) := rfl
theorem at_159_7 : ai_at ai_m159 7 = some (.astore_n 1, 1) := rfl
theorem at_159_8 : ai_at ai_m159 8 = some (.new 34, 3) := rfl
theorem at_159_11 : ai_at ai_m159 11 = some (.dup, 1) := rfl
theorem at_159_12 : ai_at ai_m159 12 = some (.invokespecial 36, 3) := rfl
theorem at_159_15 : ai_at ai_m159 15 = some (.astore_n 2, 1) := rfl
theorem at_159_16 : ai_at ai_m159 16 = some (.iconst 1, 1) := rfl
theorem at_159_17 : ai_at ai_m159 17 = some (.newarray .long, 2) := rfl
theorem at_159_19 : ai_at ai_m159 19 = some (.astore_n 3, 1) := rfl
theorem at_159_20 : ai_at ai_m159 20 = some (.iconst 0, 1) := rfl
theorem at_159_21 : ai_at ai_m159 21 = some (.istore 4, 2) := rfl
theorem mt_99_33 : ai_mth 99 33 = some (4, 0, 0, 0) := by decide +kernel
theorem mt_99_36 : ai_mth 99 36 = some (4, 96, 0, 11) := by decide +kernel
set_option maxHeartbeats 1000000 in
/-- the law's claim, out of an invariant of its turns -/
theorem lw_law {I : Nat → ai_S → Prop} (hL : L ≤ 1536) (h0 : ∀ q, ai_pre = some q → ai_frc (ai_last q.2) = true → I 0 (ai_last q.2)) (hop : ∀ t S, 3 * t + 3 ≤ L → ai_prs S → I t S → ai_op L xs 12 (xs (3 * t) &&& Int32.ofInt 15) (xs (3 * t + 1)) (xs (3 * t + 2)) (I (t + 1)) S) (hq : ∀ t S, 3 * t ≤ L → I t S → S.2.1 ≤ 600002 ∧ S.2.2.1 ≤ 7302232) : ai_Law L xs := by
  have hf := ai_fresh
  cases hp : ai_pre with
  | none => rw [hp] at hf; cases hf
  | some q =>
    rw [hp] at hf
    simp only [Bool.and_eq_true, decide_eq_true_eq] at hf
    obtain ⟨⟨hn1, hn2⟩, hfr⟩ := hf
    obtain ⟨Sa, Sb⟩ := q
    have hp' := hp
    unfold ai_pre ai_pre1 at hp
    split at hp
    · rename_i Sa' hr1
      split at hp
      · rename_i Sb' hr2
        cases hp
        have r1 := ai_runF_ok (L := L) (xs := xs) 12 0 _ _ _ hr1
        have r2 := ai_runF_ok (L := L) (xs := xs) 12 96 _ _ _ hr2
        have hp0 := ai_prs_of hfr
        have hlast := ai_frc_all hfr
        have hb1 : Sb.1 = 452 := by
          have := hlast.1
          exact Nat.succ.inj this
        have hb2 : Sb.2.1 = 452 := by
          have := hlast.2.1
          exact Nat.succ.inj this
        have key : ai_aw L xs 12 ai_m159 (fun o => o.1 = .inl (some (.int 1)) ∧ o.2.2.1 ≤ 600002 ∧ o.2.2.2.1 ≤ 7302232) (0, ai_in ai_m159 [.retAddr 0], [], ai_S0) := by
          refine aw_fop at_159_0 rfl (S' := ai_mk ai_S0 4 (.inr (0, ai_blank 0))) (st' := [.ref 0]) rfl ?_
          refine aw_pure at_159_3 rfl rfl ?_
          refine aw_ci (a := 0) [] [.ref 0] at_159_4 rfl mt_99_33 (Or.inl rfl) rfl rfl (Nat.le_of_ble_eq_true rfl) ⟨ai_blank 0, rfl⟩ ⟨none, Sa, r1, ?_⟩
          refine aw_loc at_159_7 rfl rfl ?_
          refine aw_fop at_159_8 rfl (S' := ai_mk Sa 27 (.inr (11, ai_blank 11))) (st' := [.ref 432]) ?_ ?_
          · show (if Sa.1 = Sa.2.1 then some (Value.ref Sa.1 :: [], ai_mk Sa (ai_N 11) (.inr (11, ai_blank 11))) else none) = _
            rw [if_pos (hn1.trans hn2.symm), hn1]
            rfl
          refine aw_pure at_159_11 rfl rfl ?_
          refine aw_ci (a := 432) [] [.ref 432] at_159_12 rfl mt_99_36 (Or.inl rfl) rfl rfl (Nat.le_of_ble_eq_true rfl) ⟨ai_blank 11, ?_⟩ ⟨none, Sb, r2, ?_⟩
          · refine ai_obj_of ?_ ?_
            · show va_up Sa.2.2.2 Sa.1 _ 432 = _
              rw [hn1]; exact va_up_self ..
            · show 432 < Sa.1 + 1
              rw [hn1]; decide
          refine aw_loc at_159_15 rfl rfl ?_
          refine aw_pure at_159_16 rfl rfl ?_
          refine aw_heap at_159_17 rfl (S' := ai_last Sb) (st' := [.ref 452]) ?_ ?_
          · show (if Int32.ofInt 1 < 0 ∨ ¬ Sb.1 = Sb.2.1 ∨ 65536 < (Int32.ofInt 1).toNatClampNeg then none else some ([Value.ref Sb.1], ai_mk Sb (Int32.ofInt 1).toNatClampNeg (.inl (3, ai_zero 3 (Int32.ofInt 1).toNatClampNeg)))) = _
            rw [if_neg (by rw [hb1, hb2]; decide), hb1]
            rfl
          refine aw_loc at_159_19 rfl rfl ?_
          refine aw_pure at_159_20 rfl rfl ?_
          refine aw_loc at_159_21 rfl rfl ?_
          exact lw_loop (I := I) hL hop (fun t S ht hI => ⟨rfl, hq t S ht hI⟩) L 0 none none (ai_last Sb) (by omega) (by omega) hp0 (h0 _ hp' hfr)
        obtain ⟨n, hwp⟩ := key
        obtain ⟨o, h1, h2, -⟩ := ai_wp_det ai_run_le hwp
        exact ⟨12, n, o, h1, h2.1, h2.2⟩
      · cases hp
    · cases hp
end LE
end
section
/-! Closed calls, by computation. -/
section CK
variable {L : Nat} {xs : Nat → Int32}
def ck_rn (mi : Nat) (as : List Value) (S : ai_S) (k : Option Value → ai_S → Bool) : Bool := match ai_runF 4000 12 mi as S with
  | some (.inl v, S') => k v S'
  | _ => false
theorem ck_rn_ok {mi : Nat} {as : List Value} {S : ai_S} {k : Option Value → ai_S → Bool} (h : ck_rn mi as S k = true) : ai_rn L xs 12 mi as S (fun v S' => k v S' = true) := by
  unfold ck_rn at h
  split at h
  · rename_i v S' he
    exact ⟨v, S', ai_runF_ok 12 mi as S _ he, h⟩
  · cases h
def ck_prs (S : ai_S) : Bool := (ai_obj S 0 0).isSome && (ai_obj S 432 11).isSome && (match ai_arrJ S 452 3 with
  | some q => decide (q.1 = 1)
  | none => false)
theorem ck_prs_ok {S : ai_S} (h : ck_prs S = true) : ai_prs S := by
  unfold ck_prs at h
  simp only [Bool.and_eq_true] at h
  obtain ⟨⟨h1, h2⟩, h3⟩ := h
  refine ⟨Option.isSome_iff_exists.mp h1, Option.isSome_iff_exists.mp h2, ?_⟩
  split at h3
  · rename_i q hq
    obtain ⟨n, f⟩ := q
    have : n = 1 := by simpa using h3
    subst this
    exact ⟨f, hq⟩
  · cases h3
def ck_rm (S : ai_S) : Bool := decide (S.2.1 ≤ 600000) && decide (S.2.2.1 ≤ 7200000)
def p1_rm (S : ai_S) : Prop := S.2.1 ≤ 600000 ∧ S.2.2.1 ≤ 7200000
theorem ck_rm_ok {S : ai_S} (h : ck_rm S = true) : p1_rm S := by
  unfold ck_rm at h
  unfold p1_rm
  simpa using h
def ck_out (S : ai_S) (k b : Int32) : Bool := !decide (k = 0) || (match ai_arrJ S 452 3 with
  | some q => decide (q.1 = 1) && decide (q.2 0 = b.toInt64)
  | none => false)
theorem ck_out_ok {S : ai_S} {k b : Int32} (h : ck_out S k b = true) : k = 0 → ∃ f, ai_arrJ S 452 3 = some (1, f) ∧ f 0 = b.toInt64 := by
  intro hk
  unfold ck_out at h
  rw [hk] at h
  simp only [decide_true, Bool.not_true, Bool.false_or] at h
  split at h
  · rename_i q hq
    obtain ⟨n, f⟩ := q
    simp only [Bool.and_eq_true, decide_eq_true_eq] at h
    obtain ⟨h1, h2⟩ := h
    subst h1
    exact ⟨f, hq, h2⟩
  · cases h
def ck_eT (v w u : Option Value) (S : ai_S) : Bool := match v, w, u with
  | some (.int k), some (.int b), some (.int k') => decide (k' = k) && ck_out S k b && ck_rm S
  | _, _, _ => false
def ck_eD (v w u : Option Value) (S : ai_S) : Bool := match v, w, u with
  | some (.int k), none, some (.int k') => decide (k' = k) && ck_rm S
  | _, _, _ => false
def ck_eV (v w : Option Value) (S : ai_S) : Bool := match v, w with
  | some (.int k), some (.int k') => decide (k' = k) && ck_rm S
  | _, _ => false
def ck_eN (v w : Option Value) (S : ai_S) : Bool := match v, w with
  | none, none => ck_rm S
  | _, _ => false
def ck_opT (h m : Nat) (ha ma : List Value) (S : ai_S) : Bool := ck_rn h ha S fun v S1 => ck_prs S1 && ck_rn m ma S1 fun w S2 => ck_prs S2 && ck_rn 97 [.ref 432] S2 fun u S3 => ck_prs S3 && ck_eT v w u S3
def ck_opD (ha ma : List Value) (S : ai_S) : Bool := ck_rn 91 ha S fun v S1 => ck_prs S1 && ck_rn 98 ma S1 fun w S2 => ck_prs S2 && ck_rn 97 [.ref 432] S2 fun u S3 => ck_prs S3 && ck_eD v w u S3
def ck_opV (c m : Nat) (ca ma : List Value) (S : ai_S) : Bool := ck_rn c ca S fun v S1 => ck_prs S1 && ck_rn m ma S1 fun w S2 => ck_prs S2 && ck_eV v w S2
def ck_opN (c m : Nat) (ca ma : List Value) (S : ai_S) : Bool := ck_rn c ca S fun v S1 => ck_prs S1 && ck_rn m ma S1 fun w S2 => ck_prs S2 && ck_eN v w S2
theorem ck_opT_ok {h m : Nat} {ha ma : List Value} {S : ai_S} (hc : ck_opT h m ha ma S = true) : ai_opT L xs 12 h m ha ma p1_rm S := by
  refine (ck_rn_ok hc).mono fun v S1 h1 => ?_
  simp only [Bool.and_eq_true] at h1
  refine ⟨ck_prs_ok h1.1, (ck_rn_ok h1.2).mono fun w S2 h2 => ?_⟩
  simp only [Bool.and_eq_true] at h2
  refine ⟨ck_prs_ok h2.1, (ck_rn_ok h2.2).mono fun u S3 h3 => ?_⟩
  simp only [Bool.and_eq_true] at h3
  refine ⟨ck_prs_ok h3.1, ?_⟩
  have h4 := h3.2
  unfold ck_eT at h4
  split at h4
  · rename_i k b k'
    simp only [Bool.and_eq_true, decide_eq_true_eq] at h4
    exact ⟨k, b, rfl, rfl, by rw [h4.1.1], ck_out_ok h4.1.2, ck_rm_ok h4.2⟩
  · cases h4
theorem ck_opD_ok {ha ma : List Value} {S : ai_S} (hc : ck_opD ha ma S = true) : ai_opD L xs 12 ha ma p1_rm S := by
  refine (ck_rn_ok hc).mono fun v S1 h1 => ?_
  simp only [Bool.and_eq_true] at h1
  refine ⟨ck_prs_ok h1.1, (ck_rn_ok h1.2).mono fun w S2 h2 => ?_⟩
  simp only [Bool.and_eq_true] at h2
  refine ⟨ck_prs_ok h2.1, (ck_rn_ok h2.2).mono fun u S3 h3 => ?_⟩
  simp only [Bool.and_eq_true] at h3
  refine ⟨ck_prs_ok h3.1, ?_⟩
  have h4 := h3.2
  unfold ck_eD at h4
  split at h4
  · rename_i k k'
    simp only [Bool.and_eq_true, decide_eq_true_eq] at h4
    exact ⟨k, rfl, rfl, by rw [h4.1], ck_rm_ok h4.2⟩
  · cases h4
theorem ck_opV_ok {c m : Nat} {ca ma : List Value} {S : ai_S} (hc : ck_opV c m ca ma S = true) : ai_opV L xs 12 c m ca ma p1_rm S := by
  refine (ck_rn_ok hc).mono fun v S1 h1 => ?_
  simp only [Bool.and_eq_true] at h1
  refine ⟨ck_prs_ok h1.1, (ck_rn_ok h1.2).mono fun w S2 h2 => ?_⟩
  simp only [Bool.and_eq_true] at h2
  refine ⟨ck_prs_ok h2.1, ?_⟩
  have h4 := h2.2
  unfold ck_eV at h4
  split at h4
  · rename_i k k'
    simp only [Bool.and_eq_true, decide_eq_true_eq] at h4
    exact ⟨k, rfl, by rw [h4.1], ck_rm_ok h4.2⟩
  · cases h4
theorem ck_opN_ok {c m : Nat} {ca ma : List Value} {S : ai_S} (hc : ck_opN c m ca ma S = true) : ai_opN L xs 12 c m ca ma p1_rm S := by
  refine (ck_rn_ok hc).mono fun v S1 h1 => ?_
  simp only [Bool.and_eq_true] at h1
  refine ⟨ck_prs_ok h1.1, (ck_rn_ok h1.2).mono fun w S2 h2 => ?_⟩
  simp only [Bool.and_eq_true] at h2
  refine ⟨ck_prs_ok h2.1, ?_⟩
  have h4 := h2.2
  unfold ck_eN at h4
  split at h4
  · exact ⟨rfl, rfl, ck_rm_ok h4⟩
  · cases h4
/-- the calls on a fresh object whose arguments are closed -/
def ck_all (S : ai_S) : Bool := ck_opN 2 102 [.ref 0] [.ref 432] S && ck_opT 92 104 [.ref 0, .ref 452] [.ref 432] S && ((List.range 21).all fun n => ck_opT 93 112 [.ref 0, .int (Int32.ofNat n), .ref 452] [.ref 432, .int (Int32.ofNat n)] S) && ck_opV 3 148 [.ref 0] [.ref 432] S && ck_opV 4 149 [.ref 0] [.ref 432] S && ck_opV 5 150 [.ref 0] [.ref 432] S && ck_opT 94 155 [.ref 0, .ref 452] [.ref 432] S && ck_opT 95 156 [.ref 0, .ref 452] [.ref 432] S && ck_opN 9 157 [.ref 0] [.ref 432] S && ((List.range 8).all fun i => (List.range 3).all fun j => ck_opD [.ref 0, .int (Int32.ofNat (97 + i)), .int (Int32.ofNat j)] [.ref 432, .int (Int32.ofNat (97 + i)), .int (Int32.ofNat j)] S)
set_option maxRecDepth 1000000 in
set_option maxHeartbeats 0 in
theorem ck_fresh : (match ai_pre with
  | some q => ck_all (ai_last q.2)
  | none => false) = true := by decide +kernel
end CK
end
section
/-! Calls on a fresh object whose arguments are free. -/
section OP
variable {L : Nat} {xs : Nat → Int32} {d : Nat} {M : ai_M} {Q : ai_O → Prop} {pc len : Nat} {lv lv' : ai_L} {st st' : List Value} {S S' : ai_S} {i : Instr}
/-- a call that throws, caught here -/
theorem aw_cx {x mi na ci a hh : Nat} {k9 : Fin 4} {E : String} (args rest : List Value) (ha : ai_at M pc = some (.invokevirtual x, len)) (hm : ai_mth (ai_oi M) x = some (0, mi, na, ci)) (hst : st = args.reverse ++ .ref a :: rest) (hl : args.length = na) (hs : ai_sum rest ≤ 8) (ho : ∃ fs, ai_obj S a ci = some fs) (hr : ai_run L xs d mi (.ref a :: args) S (.inr E, S')) (hh1 : ai_hand M pc E = some hh) (hh2 : ai_at M hh = some (.astore_n k9, 1)) (h3 : (k9 : Nat) < lv.length) (h4 : ai_isl (lv.getD ((k9 : Nat) - 1) none) = false)
    (k : ai_aw L xs d M Q (hh + 1, lv.set k9 none, [], S')) : ai_aw L xs d M Q (pc, lv, st, S) := by
  obtain ⟨fs, ho⟩ := ho
  subst hst
  refine aw_callV (rest := rest) ha hm (Or.inl rfl) ?_ ?_ hs ho rfl ⟨(.inr E, S'), ?_, ?_⟩
  · rw [List.drop_left' (by rw [List.length_reverse, hl])]
  · rw [List.length_append, List.length_reverse, hl]; exact Nat.le_add_right _ _
  · rw [List.take_left' (by rw [List.length_reverse, hl]), List.reverse_reverse]; exact hr
  · simp only [ai_back, hh1, hh2]
    exact ⟨trivial, h3, Or.inr h4, k⟩
/-- after a throw: one cell more, six slots more -/
def ai_th (S : ai_S) : ai_S := (S.1, S.2.1 + 1, S.2.2.1 + 6, S.2.2.2)
theorem ai_obj_th {a c : Nat} : ai_obj (ai_th S) a c = ai_obj S a c := rfl
theorem ai_arr_th {a c : Nat} : ai_arr (ai_th S) a c = ai_arr S a c := rfl
theorem ai_arrJ_th {a c : Nat} : ai_arrJ (ai_th S) a c = ai_arrJ S a c := rfl
theorem at_6_0 : ai_at ai_m6 0 = some (.aload_n 0, 1) := rfl
theorem at_6_1 : ai_at ai_m6 1 = some (.getfield 40, 3) := rfl
theorem at_6_4 : ai_at ai_m6 4 = some (.getfield 109, 3) := rfl
theorem at_6_7 : ai_at ai_m6 7 = some (.iload_n 1, 1) := rfl
theorem at_6_8 : ai_at ai_m6 8 = some (.iload_n 2, 1) := rfl
theorem at_6_9 : ai_at ai_m6 9 = some (.bipush 62, 2) := rfl
theorem at_6_11 : ai_at ai_m6 11 = some (.invokevirtual 112, 3) := rfl
theorem at_6_14 : ai_at ai_m6 14 = some (.ireturn, 1) := rfl
theorem at_7_0 : ai_at ai_m7 0 = some (.aload_n 0, 1) := rfl
theorem at_7_1 : ai_at ai_m7 1 = some (.getfield 40, 3) := rfl
theorem at_7_4 : ai_at ai_m7 4 = some (.getfield 81, 3) := rfl
theorem at_7_7 : ai_at ai_m7 7 = some (.iload_n 1, 1) := rfl
theorem at_7_8 : ai_at ai_m7 8 = some (.iload_n 2, 1) := rfl
theorem at_7_9 : ai_at ai_m7 9 = some (.bipush 61, 2) := rfl
theorem at_7_11 : ai_at ai_m7 11 = some (.invokevirtual 112, 3) := rfl
theorem at_7_14 : ai_at ai_m7 14 = some (.ireturn, 1) := rfl
theorem at_8_0 : ai_at ai_m8 0 = some (.iload_n 1, 1) := rfl
theorem at_8_1 : ai_at ai_m8 1 = some (.ifCond .lt 26, 3) := rfl
theorem at_8_4 : ai_at ai_m8 4 = some (.iload_n 1, 1) := rfl
theorem at_8_5 : ai_at ai_m8 5 = some (.aload_n 0, 1) := rfl
theorem at_8_6 : ai_at ai_m8 6 = some (.getfield 19, 3) := rfl
theorem at_8_9 : ai_at ai_m8 9 = some (.getfield 68, 3) := rfl
theorem at_8_12 : ai_at ai_m8 12 = some (.if_icmp .ge 15, 3) := rfl
theorem at_8_27 : ai_at ai_m8 27 = some (.iconst 0, 1) := rfl
theorem at_8_28 : ai_at ai_m8 28 = some (.ireturn, 1) := rfl
theorem at_10_0 : ai_at ai_m10 0 = some (.iload_n 1, 1) := rfl
theorem at_10_1 : ai_at ai_m10 1 = some (.bipush 97, 2) := rfl
theorem at_10_3 : ai_at ai_m10 3 = some (.if_icmp .lt 18, 3) := rfl
theorem at_10_6 : ai_at ai_m10 6 = some (.iload_n 1, 1) := rfl
theorem at_10_7 : ai_at ai_m10 7 = some (.bipush 104, 2) := rfl
theorem at_10_9 : ai_at ai_m10 9 = some (.if_icmp .gt 12, 3) := rfl
theorem at_10_12 : ai_at ai_m10 12 = some (.iload_n 2, 1) := rfl
theorem at_10_13 : ai_at ai_m10 13 = some (.ifCond .lt 8, 3) := rfl
theorem at_10_16 : ai_at ai_m10 16 = some (.iload_n 2, 1) := rfl
theorem at_10_17 : ai_at ai_m10 17 = some (.iconst 2, 1) := rfl
theorem at_10_18 : ai_at ai_m10 18 = some (.if_icmp .le 13, 3) := rfl
theorem at_10_21 : ai_at ai_m10 21 = some (.new 44, 3) := rfl
theorem at_13_0 : ai_at ai_m13 0 = some (.iload_n 1, 1) := rfl
theorem at_13_1 : ai_at ai_m13 1 = some (.ifCond .lt 9, 3) := rfl
theorem at_13_4 : ai_at ai_m13 4 = some (.iload_n 1, 1) := rfl
theorem at_13_5 : ai_at ai_m13 5 = some (.bipush 20, 2) := rfl
theorem at_13_7 : ai_at ai_m13 7 = some (.if_icmp .le 13, 3) := rfl
theorem at_13_10 : ai_at ai_m13 10 = some (.new 44, 3) := rfl
theorem at_54_0 : ai_at ai_m54 0 = some (.iload_n 1, 1) := rfl
theorem at_54_1 : ai_at ai_m54 1 = some (.ifCond .lt 25, 3) := rfl
theorem at_54_4 : ai_at ai_m54 4 = some (.iload_n 1, 1) := rfl
theorem at_54_5 : ai_at ai_m54 5 = some (.aload_n 0, 1) := rfl
theorem at_54_6 : ai_at ai_m54 6 = some (.getfield 9, 3) := rfl
theorem at_54_9 : ai_at ai_m54 9 = some (.if_icmp .ge 17, 3) := rfl
theorem at_54_26 : ai_at ai_m54 26 = some (.iconst 0, 1) := rfl
theorem at_54_27 : ai_at ai_m54 27 = some (.ireturn, 1) := rfl
theorem at_91_0 : ai_at ai_m91 0 = some (.aload_n 0, 1) := rfl
theorem at_91_1 : ai_at ai_m91 1 = some (.iload_n 1, 1) := rfl
theorem at_91_2 : ai_at ai_m91 2 = some (.iload_n 2, 1) := rfl
theorem at_91_3 : ai_at ai_m91 3 = some (.invokevirtual 7, 3) := rfl
theorem at_91_9 : ai_at ai_m91 9 = some (.astore_n 3, 1) := rfl
theorem at_91_10 : ai_at ai_m91 10 = some (.iconst 1, 1) := rfl
theorem at_91_11 : ai_at ai_m91 11 = some (.ireturn, 1) := rfl
theorem at_93_0 : ai_at ai_m93 0 = some (.aload_n 2, 1) := rfl
theorem at_93_1 : ai_at ai_m93 1 = some (.iconst 0, 1) := rfl
theorem at_93_2 : ai_at ai_m93 2 = some (.aload_n 0, 1) := rfl
theorem at_93_3 : ai_at ai_m93 3 = some (.iload_n 1, 1) := rfl
theorem at_93_4 : ai_at ai_m93 4 = some (.invokevirtual 21, 3) := rfl
theorem at_93_12 : ai_at ai_m93 12 = some (.astore_n 3, 1) := rfl
theorem at_93_13 : ai_at ai_m93 13 = some (.iconst 1, 1) := rfl
theorem at_93_14 : ai_at ai_m93 14 = some (.ireturn, 1) := rfl
theorem at_97_0 : ai_at ai_m97 0 = some (.aload_n 0, 1) := rfl
theorem at_97_1 : ai_at ai_m97 1 = some (.getfield 68, 3) := rfl
theorem at_97_4 : ai_at ai_m97 4 = some (.ireturn, 1) := rfl
theorem at_98_0 : ai_at ai_m98 0 = some (.iload_n 1, 1) := rfl
theorem at_98_1 : ai_at ai_m98 1 = some (.bipush 97, 2) := rfl
theorem at_98_3 : ai_at ai_m98 3 = some (.isub, 1) := rfl
theorem at_98_4 : ai_at ai_m98 4 = some (.istore_n 3, 1) := rfl
theorem at_98_5 : ai_at ai_m98 5 = some (.iload_n 3, 1) := rfl
theorem at_98_6 : ai_at ai_m98 6 = some (.ifCond .lt 18, 3) := rfl
theorem at_98_9 : ai_at ai_m98 9 = some (.iload_n 3, 1) := rfl
theorem at_98_10 : ai_at ai_m98 10 = some (.bipush 7, 2) := rfl
theorem at_98_12 : ai_at ai_m98 12 = some (.if_icmp .gt 12, 3) := rfl
theorem at_98_15 : ai_at ai_m98 15 = some (.iload_n 2, 1) := rfl
theorem at_98_16 : ai_at ai_m98 16 = some (.ifCond .lt 8, 3) := rfl
theorem at_98_19 : ai_at ai_m98 19 = some (.iload_n 2, 1) := rfl
theorem at_98_20 : ai_at ai_m98 20 = some (.iconst 2, 1) := rfl
theorem at_98_21 : ai_at ai_m98 21 = some (.if_icmp .le 7, 3) := rfl
theorem at_98_24 : ai_at ai_m98 24 = some (.iconst 1, 1) := rfl
theorem at_98_25 : ai_at ai_m98 25 = some (.goto 4, 3) := rfl
theorem at_98_29 : ai_at ai_m98 29 = some (.istore 4, 2) := rfl
theorem at_98_31 : ai_at ai_m98 31 = some (.aload_n 0, 1) := rfl
theorem at_98_32 : ai_at ai_m98 32 = some (.iload 4, 2) := rfl
theorem at_98_34 : ai_at ai_m98 34 = some (.iload 4, 2) := rfl
theorem at_98_36 : ai_at ai_m98 36 = some (.ifCond .ne 16, 3) := rfl
theorem at_98_52 : ai_at ai_m98 52 = some (.iconst 0, 1) := rfl
theorem at_98_53 : ai_at ai_m98 53 = some (.invokevirtual 72, 3) := rfl
theorem at_98_56 : ai_at ai_m98 56 = some (.ifCond .eq 4, 3) := rfl
theorem at_98_59 : ai_at ai_m98 59 = some (.return_, 1) := rfl
theorem at_99_0 : ai_at ai_m99 0 = some (.aload_n 0, 1) := rfl
theorem at_99_1 : ai_at ai_m99 1 = some (.iload_n 1, 1) := rfl
theorem at_99_2 : ai_at ai_m99 2 = some (.ifCond .eq 7, 3) := rfl
theorem at_99_5 : ai_at ai_m99 5 = some (.iconst 1, 1) := rfl
theorem at_99_6 : ai_at ai_m99 6 = some (.goto 12, 3) := rfl
theorem at_99_18 : ai_at ai_m99 18 = some (.putfield 68, 3) := rfl
theorem at_99_21 : ai_at ai_m99 21 = some (.aload_n 0, 1) := rfl
theorem at_99_22 : ai_at ai_m99 22 = some (.getfield 68, 3) := rfl
theorem at_99_25 : ai_at ai_m99 25 = some (.ifCond .le 7, 3) := rfl
theorem at_99_28 : ai_at ai_m99 28 = some (.iconst 1, 1) := rfl
theorem at_99_29 : ai_at ai_m99 29 = some (.goto 4, 3) := rfl
theorem at_99_33 : ai_at ai_m99 33 = some (.ireturn, 1) := rfl
theorem at_103_0 : ai_at ai_m103 0 = some (.aload_n 0, 1) := rfl
theorem at_103_1 : ai_at ai_m103 1 = some (.iconst 0, 1) := rfl
theorem at_103_2 : ai_at ai_m103 2 = some (.putfield 68, 3) := rfl
theorem at_103_5 : ai_at ai_m103 5 = some (.iload_n 1, 1) := rfl
theorem at_103_6 : ai_at ai_m103 6 = some (.ifCond .lt 21, 3) := rfl
theorem at_103_9 : ai_at ai_m103 9 = some (.iload_n 1, 1) := rfl
theorem at_103_10 : ai_at ai_m103 10 = some (.aload_n 0, 1) := rfl
theorem at_103_11 : ai_at ai_m103 11 = some (.getfield 85, 3) := rfl
theorem at_103_14 : ai_at ai_m103 14 = some (.if_icmp .ge 13, 3) := rfl
theorem at_103_27 : ai_at ai_m103 27 = some (.iconst 0, 1) := rfl
theorem at_103_28 : ai_at ai_m103 28 = some (.ireturn, 1) := rfl
theorem at_112_0 : ai_at ai_m112 0 = some (.aload_n 0, 1) := rfl
theorem at_112_1 : ai_at ai_m112 1 = some (.iload_n 1, 1) := rfl
theorem at_112_2 : ai_at ai_m112 2 = some (.ifCond .lt 9, 3) := rfl
theorem at_112_5 : ai_at ai_m112 5 = some (.iload_n 1, 1) := rfl
theorem at_112_6 : ai_at ai_m112 6 = some (.bipush 20, 2) := rfl
theorem at_112_8 : ai_at ai_m112 8 = some (.if_icmp .le 7, 3) := rfl
theorem at_112_11 : ai_at ai_m112 11 = some (.iconst 1, 1) := rfl
theorem at_112_12 : ai_at ai_m112 12 = some (.goto 4, 3) := rfl
theorem at_112_16 : ai_at ai_m112 16 = some (.iconst 0, 1) := rfl
theorem at_112_17 : ai_at ai_m112 17 = some (.invokevirtual 72, 3) := rfl
theorem at_112_20 : ai_at ai_m112 20 = some (.ifCond .eq 5, 3) := rfl
theorem at_112_23 : ai_at ai_m112 23 = some (.iconst 0, 1) := rfl
theorem at_112_24 : ai_at ai_m112 24 = some (.ireturn, 1) := rfl
theorem at_151_0 : ai_at ai_m151 0 = some (.aload_n 0, 1) := rfl
theorem at_151_1 : ai_at ai_m151 1 = some (.iconst 0, 1) := rfl
theorem at_151_2 : ai_at ai_m151 2 = some (.putfield 68, 3) := rfl
theorem at_151_5 : ai_at ai_m151 5 = some (.iload_n 1, 1) := rfl
theorem at_151_6 : ai_at ai_m151 6 = some (.ifCond .lt 11, 3) := rfl
theorem at_151_9 : ai_at ai_m151 9 = some (.iload_n 1, 1) := rfl
theorem at_151_10 : ai_at ai_m151 10 = some (.aload_n 0, 1) := rfl
theorem at_151_11 : ai_at ai_m151 11 = some (.getfield 113, 3) := rfl
theorem at_151_14 : ai_at ai_m151 14 = some (.if_icmp .lt 5, 3) := rfl
theorem at_151_17 : ai_at ai_m151 17 = some (.iconst 0, 1) := rfl
theorem at_151_18 : ai_at ai_m151 18 = some (.ireturn, 1) := rfl
theorem at_154_0 : ai_at ai_m154 0 = some (.aload_n 0, 1) := rfl
theorem at_154_1 : ai_at ai_m154 1 = some (.iconst 0, 1) := rfl
theorem at_154_2 : ai_at ai_m154 2 = some (.putfield 68, 3) := rfl
theorem at_154_5 : ai_at ai_m154 5 = some (.iload_n 1, 1) := rfl
theorem at_154_6 : ai_at ai_m154 6 = some (.ifCond .lt 11, 3) := rfl
theorem at_154_9 : ai_at ai_m154 9 = some (.iload_n 1, 1) := rfl
theorem at_154_10 : ai_at ai_m154 10 = some (.aload_n 0, 1) := rfl
theorem at_154_11 : ai_at ai_m154 11 = some (.getfield 106, 3) := rfl
theorem at_154_14 : ai_at ai_m154 14 = some (.if_icmp .lt 5, 3) := rfl
theorem at_154_17 : ai_at ai_m154 17 = some (.iconst 0, 1) := rfl
theorem at_154_18 : ai_at ai_m154 18 = some (.ireturn, 1) := rfl
theorem fl_0_19 : ai_fld 0 19 = some (0, 1, false) := by decide +kernel
theorem fl_0_40 : ai_fld 0 40 = some (0, 3, false) := by decide +kernel
theorem fl_0_68 : ai_fld 0 68 = some (2, 1, true) := by decide +kernel
theorem fl_0_81 : ai_fld 0 81 = some (5, 1, true) := by decide +kernel
theorem fl_0_109 : ai_fld 0 109 = some (5, 0, true) := by decide +kernel
theorem fl_5_9 : ai_fld 5 9 = some (6, 1, false) := by decide +kernel
theorem fl_12_68 : ai_fld 12 68 = some (11, 0, false) := by decide +kernel
theorem fl_12_85 : ai_fld 12 85 = some (11, 4, false) := by decide +kernel
theorem fl_12_106 : ai_fld 12 106 = some (11, 10, false) := by decide +kernel
theorem fl_12_113 : ai_fld 12 113 = some (11, 6, false) := by decide +kernel
theorem mt_0_112 : ai_mth 0 112 = some (0, 54, 3, 6) := by decide +kernel
theorem mt_11_7 : ai_mth 11 7 = some (0, 10, 2, 0) := by decide +kernel
theorem mt_11_21 : ai_mth 11 21 = some (0, 13, 1, 0) := by decide +kernel
theorem mt_12_72 : ai_mth 12 72 = some (0, 99, 2, 11) := by decide +kernel
theorem i32_good {c p : Int32} (z1 : ¬ c < (Int8.ofInt 97).toInt32) (z2 : ¬ (Int8.ofInt 104).toInt32 < c) (z3 : ¬ p < 0) (z4 : p ≤ Int32.ofInt 2) : ¬ (c < 97 ∨ 104 < c ∨ p < 0 ∨ 2 < p) := by
  rintro (h | h | h | h)
  · exact z1 h
  · exact z2 h
  · exact z3 h
  · exact absurd (Int32.lt_of_lt_of_le h z4) (by decide)
theorem r_declare_bad {a : Nat} {c p : Int32} (hb : c < 97 ∨ 104 < c ∨ p < 0 ∨ 2 < p) : ai_run L xs (d + 1) 10 [.ref a, .int c, .int p] S (.inr "java/lang/IllegalArgumentException", ai_th S) := by
  suffices h : ai_aw L xs d ai_m10 (fun o => o = (.inr "java/lang/IllegalArgumentException", ai_th S)) (0, ai_in ai_m10 [.ref a, .int c, .int p], [], S) by
    obtain ⟨o, h1, rfl⟩ := ai_run_of (mi := 10) rfl (by decide) (Nat.le_of_ble_eq_true rfl) h
    exact h1
  have k21 : ai_aw L xs d ai_m10 (fun o => o = (.inr "java/lang/IllegalArgumentException", ai_th S)) (21, ai_in ai_m10 [.ref a, .int c, .int p], [], S) := aw_throw at_10_21 rfl (Nat.le_of_ble_eq_true rfl) rfl
  refine aw_loc at_10_0 rfl rfl ?_
  refine aw_pure at_10_1 rfl rfl ?_
  refine aw_icmp at_10_3 (fun _ => k21) (fun z1 => ?_)
  refine aw_loc at_10_6 rfl rfl ?_
  refine aw_pure at_10_7 rfl rfl ?_
  refine aw_icmp at_10_9 (fun _ => k21) (fun z2 => ?_)
  refine aw_loc at_10_12 rfl rfl ?_
  refine aw_if at_10_13 (fun _ => k21) (fun z3 => ?_)
  refine aw_loc at_10_16 rfl rfl ?_
  refine aw_pure at_10_17 rfl rfl ?_
  refine aw_icmp at_10_18 (fun z4 => ?_) (fun _ => k21)
  exact absurd hb (i32_good z1 z2 z3 z4)
theorem hd_91 : ai_hand ai_m91 3 "java/lang/IllegalArgumentException" = some 9 := by decide +kernel
theorem r_h_declare_bad {a : Nat} {c p : Int32} (hb : c < 97 ∨ 104 < c ∨ p < 0 ∨ 2 < p) (ho : ∃ fs, ai_obj S a 0 = some fs) : ai_rn L xs (d + 2) 91 [.ref a, .int c, .int p] S (fun v S' => v = some (.int 1) ∧ S' = ai_th S) := by
  refine ai_rn_of (M := ai_m91) rfl (by decide) (Nat.le_of_ble_eq_true rfl) ?_
  refine aw_loc at_91_0 rfl rfl ?_
  refine aw_loc at_91_1 rfl rfl ?_
  refine aw_loc at_91_2 rfl rfl ?_
  refine aw_cx (a := a) [.int c, .int p] [] at_91_3 mt_11_7 rfl rfl (Nat.le_of_ble_eq_true rfl) ho (r_declare_bad hb) hd_91 at_91_9 (show (3 : Nat) < 4 by decide) rfl ?_
  refine aw_pure at_91_10 rfl rfl ?_
  exact aw_ret at_91_11 rfl rfl ⟨_, _, rfl, rfl, rfl⟩
theorem r_refuses1 {T two : Int32} {r : List Value} (ho : ai_obj S 432 11 = some (.int T :: r)) (hl : 432 < S.1) : ai_rn L xs (d + 1) 99 [.ref 432, .int 1, .int two] S (fun v S' => v = some (.int 1) ∧ S' = ai_wr S 432 (.inr (11, .int 1 :: r))) := by
  refine ai_rn_of (M := ai_m99) rfl (by decide) (Nat.le_of_ble_eq_true rfl) ?_
  refine aw_loc at_99_0 rfl rfl ?_
  refine aw_loc at_99_1 rfl rfl ?_
  refine aw_if at_99_2 (fun z => absurd z (by unfold ai_cmp; decide)) (fun _ => ?_)
  refine aw_pure at_99_5 rfl rfl ?_
  refine aw_goto at_99_6 ?_
  refine aw_put at_99_18 rfl fl_12_68 ho (Nat.succ_pos _) rfl (by decide +kernel) ?_
  have ho2 : ai_obj (ai_wr S 432 (.inr (11, (Value.int T :: r).set 0 (.int (Int32.ofInt 1))))) 432 11 = some (Value.int 1 :: r) := ai_obj_wrS hl
  refine aw_loc at_99_21 rfl rfl ?_
  refine aw_get at_99_22 rfl fl_12_68 ho2 rfl ?_
  refine aw_if at_99_25 (fun z => absurd z (by unfold ai_cmp; decide)) (fun _ => ?_)
  refine aw_pure at_99_28 rfl rfl ?_
  refine aw_goto at_99_29 ?_
  exact aw_ret at_99_33 rfl rfl ⟨_, _, rfl, rfl, rfl⟩
theorem r_thrown {T : Int32} {r : List Value} (ho : ai_obj S 432 11 = some (.int T :: r)) : ai_rn L xs (d + 1) 97 [.ref 432] S (fun v S' => v = some (.int T) ∧ S' = S) := by
  refine ai_rn_of (M := ai_m97) rfl (by decide) (Nat.le_of_ble_eq_true rfl) ?_
  refine aw_loc at_97_0 rfl rfl ?_
  refine aw_get at_97_1 rfl fl_12_68 ho rfl ?_
  exact aw_ret at_97_4 rfl rfl ⟨_, _, rfl, rfl, rfl⟩
theorem i32_good2 {c p : Int32} (hc : 0 ≤ c.toInt ∧ c.toInt < 65536) (z1 : ¬ c - (Int8.ofInt 97).toInt32 < 0) (z2 : ¬ (Int8.ofInt 7).toInt32 < c - (Int8.ofInt 97).toInt32) (z3 : ¬ p < 0) (z4 : p ≤ Int32.ofInt 2) : ¬ (c < 97 ∨ 104 < c ∨ p < 0 ∨ 2 < p) := by
  have h1 : (c - (Int8.ofInt 97).toInt32).toInt = c.toInt - 97 := by
    rw [Int32.toInt_sub, show ((Int8.ofInt 97).toInt32).toInt = 97 from rfl]
    exact Int.bmod_eq_of_le (by omega) (by omega)
  rw [Int32.lt_iff_toInt_lt, h1, show (0 : Int32).toInt = 0 from rfl] at z1
  rw [Int32.lt_iff_toInt_lt, h1, show ((Int8.ofInt 7).toInt32).toInt = 7 from rfl] at z2
  rintro (h | h | h | h)
  · rw [Int32.lt_iff_toInt_lt, show (97 : Int32).toInt = 97 from rfl] at h; omega
  · rw [Int32.lt_iff_toInt_lt, show (104 : Int32).toInt = 104 from rfl] at h; omega
  · exact z3 h
  · exact absurd (Int32.lt_of_lt_of_le h z4) (by decide)
theorem r_m_declare_bad {c p T : Int32} {r : List Value} (hc : 0 ≤ c.toInt ∧ c.toInt < 65536) (hb : c < 97 ∨ 104 < c ∨ p < 0 ∨ 2 < p) (ho : ai_obj S 432 11 = some (.int T :: r)) (hl : 432 < S.1) : ai_rn L xs (d + 2) 98 [.ref 432, .int c, .int p] S (fun v S' => v = none ∧ S' = ai_wr S 432 (.inr (11, .int 1 :: r))) := by
  refine ai_rn_of (M := ai_m98) rfl (by decide) (Nat.le_of_ble_eq_true rfl) ?_
  refine aw_loc at_98_0 rfl rfl ?_
  refine aw_pure at_98_1 rfl rfl ?_
  refine aw_pure at_98_3 rfl rfl ?_
  refine aw_loc at_98_4 rfl rfl ?_
  have k24 : ai_aw L xs (d + 1) ai_m98 (fun o => ∃ v S', o = (.inl v, S') ∧ v = none ∧ S' = ai_wr S 432 (.inr (11, .int 1 :: r))) (24, [some (.ref 432), some (.int c), some (.int p), some (.int (c - (Int8.ofInt 97).toInt32)), none], [], S) := by
    refine aw_pure at_98_24 rfl rfl ?_
    refine aw_goto at_98_25 ?_
    refine aw_loc at_98_29 rfl rfl ?_
    refine aw_loc at_98_31 rfl rfl ?_
    refine aw_loc at_98_32 rfl rfl ?_
    refine aw_loc at_98_34 rfl rfl ?_
    refine aw_if at_98_36 (fun _ => ?_) (fun z => absurd (by unfold ai_cmp; decide) z)
    refine aw_pure at_98_52 rfl rfl ?_
    refine aw_cv (a := 432) [.int 1, .int 0] [] at_98_53 mt_12_72 (Or.inl rfl) rfl rfl (Nat.le_of_ble_eq_true rfl) ⟨_, ho⟩ ((r_refuses1 ho hl).mono ?_)
    rintro v S' ⟨rfl, rfl⟩
    refine aw_if at_98_56 (fun z => absurd z (by unfold ai_cmp; decide)) (fun _ => ?_)
    exact aw_vret at_98_59 rfl ⟨_, _, rfl, rfl, rfl⟩
  refine aw_loc at_98_5 rfl rfl ?_
  refine aw_if at_98_6 (fun _ => k24) (fun z1 => ?_)
  refine aw_loc at_98_9 rfl rfl ?_
  refine aw_pure at_98_10 rfl rfl ?_
  refine aw_icmp at_98_12 (fun _ => k24) (fun z2 => ?_)
  refine aw_loc at_98_15 rfl rfl ?_
  refine aw_if at_98_16 (fun _ => k24) (fun z3 => ?_)
  refine aw_loc at_98_19 rfl rfl ?_
  refine aw_pure at_98_20 rfl rfl ?_
  refine aw_icmp at_98_21 (fun z4 => ?_) (fun _ => k24)
  exact absurd hb (i32_good2 hc z1 z2 z3 z4)
theorem i32_good3 {c : Int32} (z1 : ¬ c < 0) (z2 : c ≤ (Int8.ofInt 20).toInt32) : ¬ (c < 0 ∨ 20 < c) := by
  rintro (h | h)
  · exact z1 h
  · exact absurd (Int32.lt_of_lt_of_le h z2) (by decide)
theorem r_complete_bad {a : Nat} {c : Int32} (hb : c < 0 ∨ 20 < c) : ai_run L xs (d + 1) 13 [.ref a, .int c] S (.inr "java/lang/IllegalArgumentException", ai_th S) := by
  suffices h : ai_aw L xs d ai_m13 (fun o => o = (.inr "java/lang/IllegalArgumentException", ai_th S)) (0, ai_in ai_m13 [.ref a, .int c], [], S) by
    obtain ⟨o, h1, rfl⟩ := ai_run_of (mi := 13) rfl (by decide) (Nat.le_of_ble_eq_true rfl) h
    exact h1
  have k10 : ai_aw L xs d ai_m13 (fun o => o = (.inr "java/lang/IllegalArgumentException", ai_th S)) (10, ai_in ai_m13 [.ref a, .int c], [], S) := aw_throw at_13_10 rfl (Nat.le_of_ble_eq_true rfl) rfl
  refine aw_loc at_13_0 rfl rfl ?_
  refine aw_if at_13_1 (fun _ => k10) (fun z1 => ?_)
  refine aw_loc at_13_4 rfl rfl ?_
  refine aw_pure at_13_5 rfl rfl ?_
  refine aw_icmp at_13_7 (fun z2 => ?_) (fun _ => k10)
  exact absurd hb (i32_good3 z1 z2)
theorem hd_93 : ai_hand ai_m93 4 "java/lang/IllegalArgumentException" = some 12 := by decide +kernel
theorem r_h_complete_bad {a b : Nat} {c : Int32} (hb : c < 0 ∨ 20 < c) (ho : ∃ fs, ai_obj S a 0 = some fs) : ai_rn L xs (d + 2) 93 [.ref a, .int c, .ref b] S (fun v S' => v = some (.int 1) ∧ S' = ai_th S) := by
  refine ai_rn_of (M := ai_m93) rfl (by decide) (Nat.le_of_ble_eq_true rfl) ?_
  refine aw_loc at_93_0 rfl rfl ?_
  refine aw_pure at_93_1 rfl rfl ?_
  refine aw_loc at_93_2 rfl rfl ?_
  refine aw_loc at_93_3 rfl rfl ?_
  refine aw_cx (a := a) [.int c] [.int 0, .ref b] at_93_4 mt_11_21 rfl rfl (Nat.le_of_ble_eq_true rfl) ho (r_complete_bad hb) hd_93 at_93_12 (show (3 : Nat) < 4 by decide) rfl ?_
  refine aw_pure at_93_13 rfl rfl ?_
  exact aw_ret at_93_14 rfl rfl ⟨_, _, rfl, rfl, rfl⟩
theorem r_m_complete_bad {c T : Int32} {r : List Value} (hb : c < 0 ∨ 20 < c) (ho : ai_obj S 432 11 = some (.int T :: r)) (hl : 432 < S.1) : ai_rn L xs (d + 2) 112 [.ref 432, .int c] S (fun v S' => v = some (.int 0) ∧ S' = ai_wr S 432 (.inr (11, .int 1 :: r))) := by
  refine ai_rn_of (M := ai_m112) rfl (by decide) (Nat.le_of_ble_eq_true rfl) ?_
  have k11 : ai_aw L xs (d + 1) ai_m112 (fun o => ∃ v S', o = (.inl v, S') ∧ v = some (.int 0) ∧ S' = ai_wr S 432 (.inr (11, .int 1 :: r))) (11, ai_in ai_m112 [.ref 432, .int c], [.ref 432], S) := by
    refine aw_pure at_112_11 rfl rfl ?_
    refine aw_goto at_112_12 ?_
    refine aw_pure at_112_16 rfl rfl ?_
    refine aw_cv (a := 432) [.int 1, .int 0] [] at_112_17 mt_12_72 (Or.inl rfl) rfl rfl (Nat.le_of_ble_eq_true rfl) ⟨_, ho⟩ ((r_refuses1 ho hl).mono ?_)
    rintro v S' ⟨rfl, rfl⟩
    refine aw_if at_112_20 (fun z => absurd z (by unfold ai_cmp; decide)) (fun _ => ?_)
    refine aw_pure at_112_23 rfl rfl ?_
    exact aw_ret at_112_24 rfl rfl ⟨_, _, rfl, rfl, rfl⟩
  refine aw_loc at_112_0 rfl rfl ?_
  refine aw_loc at_112_1 rfl rfl ?_
  refine aw_if at_112_2 (fun _ => k11) (fun z1 => ?_)
  refine aw_loc at_112_5 rfl rfl ?_
  refine aw_pure at_112_6 rfl rfl ?_
  refine aw_icmp at_112_8 (fun z2 => ?_) (fun _ => k11)
  exact absurd hb (i32_good3 z1 z2)
theorem r_chr0 {a p : Nat} {k i bt : Int32} (ho : ai_obj S a 6 = some [.ref p, .int 0]) : ai_rn L xs (d + 1) 54 [.ref a, .int k, .int i, .int bt] S (fun v S' => v = some (.int 0) ∧ S' = S) := by
  refine ai_rn_of (M := ai_m54) rfl (by decide) (Nat.le_of_ble_eq_true rfl) ?_
  have k26 : ai_aw L xs d ai_m54 (fun o => ∃ v S', o = (.inl v, S') ∧ v = some (.int 0) ∧ S' = S) (26, ai_in ai_m54 [.ref a, .int k, .int i, .int bt], [], S) := by
    refine aw_pure at_54_26 rfl rfl ?_
    exact aw_ret at_54_27 rfl rfl ⟨_, _, rfl, rfl, rfl⟩
  refine aw_loc at_54_0 rfl rfl ?_
  refine aw_if at_54_1 (fun _ => k26) (fun z1 => ?_)
  refine aw_loc at_54_4 rfl rfl ?_
  refine aw_loc at_54_5 rfl rfl ?_
  refine aw_get at_54_6 rfl fl_5_9 ho rfl ?_
  refine aw_icmp at_54_9 (fun _ => k26) (fun z2 => absurd (Int32.not_lt.mp z1) z2)
theorem r_rule0 {a b c x1 : Nat} {r : List Value} {k i : Int32} (ho : ai_obj S 0 0 = some [.ref a, .ref b, .ref c, .ref 11]) (he : ai_obj S 11 5 = some (.ref 12 :: .ref 84 :: r)) (hp : ai_obj S 12 6 = some [.ref x1, .int 0]) : ai_rn L xs (d + 2) 6 [.ref 0, .int k, .int i] S (fun v S' => v = some (.int 0) ∧ S' = S) := by
  refine ai_rn_of (M := ai_m6) rfl (by decide) (Nat.le_of_ble_eq_true rfl) ?_
  refine aw_loc at_6_0 rfl rfl ?_
  refine aw_get at_6_1 rfl fl_0_40 ho rfl ?_
  refine aw_get at_6_4 rfl fl_0_109 he rfl ?_
  refine aw_loc at_6_7 rfl rfl ?_
  refine aw_loc at_6_8 rfl rfl ?_
  refine aw_pure at_6_9 rfl rfl ?_
  refine aw_cv (a := 12) [.int k, .int i, .int 62] [] at_6_11 mt_0_112 (Or.inl rfl) rfl rfl (Nat.le_of_ble_eq_true rfl) ⟨_, hp⟩ ((r_chr0 hp).mono ?_)
  rintro v S' ⟨rfl, rfl⟩
  exact aw_ret at_6_14 rfl rfl ⟨_, _, rfl, rfl, rfl⟩
theorem r_eqAt0 {a b c x1 : Nat} {r : List Value} {k i : Int32} (ho : ai_obj S 0 0 = some [.ref a, .ref b, .ref c, .ref 11]) (he : ai_obj S 11 5 = some (.ref 12 :: .ref 84 :: r)) (hp : ai_obj S 84 6 = some [.ref x1, .int 0]) : ai_rn L xs (d + 2) 7 [.ref 0, .int k, .int i] S (fun v S' => v = some (.int 0) ∧ S' = S) := by
  refine ai_rn_of (M := ai_m7) rfl (by decide) (Nat.le_of_ble_eq_true rfl) ?_
  refine aw_loc at_7_0 rfl rfl ?_
  refine aw_get at_7_1 rfl fl_0_40 ho rfl ?_
  refine aw_get at_7_4 rfl fl_0_81 he rfl ?_
  refine aw_loc at_7_7 rfl rfl ?_
  refine aw_loc at_7_8 rfl rfl ?_
  refine aw_pure at_7_9 rfl rfl ?_
  refine aw_cv (a := 84) [.int k, .int i, .int 61] [] at_7_11 mt_0_112 (Or.inl rfl) rfl rfl (Nat.le_of_ble_eq_true rfl) ⟨_, hp⟩ ((r_chr0 hp).mono ?_)
  rintro v S' ⟨rfl, rfl⟩
  exact aw_ret at_7_14 rfl rfl ⟨_, _, rfl, rfl, rfl⟩
theorem r_m_rule0 {T k i : Int32} {r : List Value} (ho : ai_obj S 432 11 = some (.int T :: r)) (hl : 432 < S.1) (hz : (Value.int 0 :: r)[6]? = some (.int 0)) : ai_rn L xs (d + 1) 151 [.ref 432, .int k, .int i] S (fun v S' => v = some (.int 0) ∧ S' = ai_wr S 432 (.inr (11, .int 0 :: r))) := by
  refine ai_rn_of (M := ai_m151) rfl (by decide) (Nat.le_of_ble_eq_true rfl) ?_
  refine aw_loc at_151_0 rfl rfl ?_
  refine aw_pure at_151_1 rfl rfl ?_
  refine aw_put at_151_2 rfl fl_12_68 ho (Nat.succ_pos _) rfl (by decide +kernel) ?_
  have ho2 : ai_obj (ai_wr S 432 (.inr (11, (Value.int T :: r).set 0 (.int (Int32.ofInt 0))))) 432 11 = some (Value.int 0 :: r) := ai_obj_wrS hl
  have k17 : ai_aw L xs d ai_m151 (fun o => ∃ v S', o = (.inl v, S') ∧ v = some (.int 0) ∧ S' = ai_wr S 432 (.inr (11, .int 0 :: r))) (17, ai_in ai_m151 [.ref 432, .int k, .int i], [], ai_wr S 432 (.inr (11, .int 0 :: r))) := by
    refine aw_pure at_151_17 rfl rfl ?_
    exact aw_ret at_151_18 rfl rfl ⟨_, _, rfl, rfl, rfl⟩
  refine aw_loc at_151_5 rfl rfl ?_
  refine aw_if at_151_6 (fun _ => k17) (fun z1 => ?_)
  refine aw_loc at_151_9 rfl rfl ?_
  refine aw_loc at_151_10 rfl rfl ?_
  refine aw_get at_151_11 rfl fl_12_113 ho2 hz ?_
  refine aw_icmp at_151_14 (fun z2 => absurd z2 z1) (fun _ => k17)
theorem r_m_eqAt0 {T k i : Int32} {r : List Value} (ho : ai_obj S 432 11 = some (.int T :: r)) (hl : 432 < S.1) (hz : (Value.int 0 :: r)[10]? = some (.int 0)) : ai_rn L xs (d + 1) 154 [.ref 432, .int k, .int i] S (fun v S' => v = some (.int 0) ∧ S' = ai_wr S 432 (.inr (11, .int 0 :: r))) := by
  refine ai_rn_of (M := ai_m154) rfl (by decide) (Nat.le_of_ble_eq_true rfl) ?_
  refine aw_loc at_154_0 rfl rfl ?_
  refine aw_pure at_154_1 rfl rfl ?_
  refine aw_put at_154_2 rfl fl_12_68 ho (Nat.succ_pos _) rfl (by decide +kernel) ?_
  have ho2 : ai_obj (ai_wr S 432 (.inr (11, (Value.int T :: r).set 0 (.int (Int32.ofInt 0))))) 432 11 = some (Value.int 0 :: r) := ai_obj_wrS hl
  have k17 : ai_aw L xs d ai_m154 (fun o => ∃ v S', o = (.inl v, S') ∧ v = some (.int 0) ∧ S' = ai_wr S 432 (.inr (11, .int 0 :: r))) (17, ai_in ai_m154 [.ref 432, .int k, .int i], [], ai_wr S 432 (.inr (11, .int 0 :: r))) := by
    refine aw_pure at_154_17 rfl rfl ?_
    exact aw_ret at_154_18 rfl rfl ⟨_, _, rfl, rfl, rfl⟩
  refine aw_loc at_154_5 rfl rfl ?_
  refine aw_if at_154_6 (fun _ => k17) (fun z1 => ?_)
  refine aw_loc at_154_9 rfl rfl ?_
  refine aw_loc at_154_10 rfl rfl ?_
  refine aw_get at_154_11 rfl fl_12_106 ho2 hz ?_
  refine aw_icmp at_154_14 (fun z2 => absurd z2 z1) (fun _ => k17)
theorem r_m_draft0 {T k : Int32} {r : List Value} (ho : ai_obj S 432 11 = some (.int T :: r)) (hl : 432 < S.1) (hz : (Value.int 0 :: r)[4]? = some (.int 0)) : ai_rn L xs (d + 1) 103 [.ref 432, .int k] S (fun v S' => v = some (.int 0) ∧ S' = ai_wr S 432 (.inr (11, .int 0 :: r))) := by
  refine ai_rn_of (M := ai_m103) rfl (by decide) (Nat.le_of_ble_eq_true rfl) ?_
  refine aw_loc at_103_0 rfl rfl ?_
  refine aw_pure at_103_1 rfl rfl ?_
  refine aw_put at_103_2 rfl fl_12_68 ho (Nat.succ_pos _) rfl (by decide +kernel) ?_
  have ho2 : ai_obj (ai_wr S 432 (.inr (11, (Value.int T :: r).set 0 (.int (Int32.ofInt 0))))) 432 11 = some (Value.int 0 :: r) := ai_obj_wrS hl
  have k27 : ai_aw L xs d ai_m103 (fun o => ∃ v S', o = (.inl v, S') ∧ v = some (.int 0) ∧ S' = ai_wr S 432 (.inr (11, .int 0 :: r))) (27, ai_in ai_m103 [.ref 432, .int k], [], ai_wr S 432 (.inr (11, .int 0 :: r))) := by
    refine aw_pure at_103_27 rfl rfl ?_
    exact aw_ret at_103_28 rfl rfl ⟨_, _, rfl, rfl, rfl⟩
  refine aw_loc at_103_5 rfl rfl ?_
  refine aw_if at_103_6 (fun _ => k27) (fun z1 => ?_)
  refine aw_loc at_103_9 rfl rfl ?_
  refine aw_loc at_103_10 rfl rfl ?_
  refine aw_get at_103_11 rfl fl_12_85 ho2 hz ?_
  refine aw_icmp at_103_14 (fun _ => k27) (fun z2 => absurd (Int32.not_lt.mp z1) z2)
theorem r_draft0 {a b c p : Nat} {k : Int32} (ho : ai_obj S 0 0 = some [.ref a, .ref b, .ref c, .ref 11]) (hd2 : ai_obj S b 2 = some [.ref p, .int 0]) : ai_rn L xs (d + 1) 8 [.ref 0, .int k] S (fun v S' => v = some (.int 0) ∧ S' = S) := by
  refine ai_rn_of (M := ai_m8) rfl (by decide) (Nat.le_of_ble_eq_true rfl) ?_
  have k27 : ai_aw L xs d ai_m8 (fun o => ∃ v S', o = (.inl v, S') ∧ v = some (.int 0) ∧ S' = S) (27, ai_in ai_m8 [.ref 0, .int k], [], S) := by
    refine aw_pure at_8_27 rfl rfl ?_
    exact aw_ret at_8_28 rfl rfl ⟨_, _, rfl, rfl, rfl⟩
  refine aw_loc at_8_0 rfl rfl ?_
  refine aw_if at_8_1 (fun _ => k27) (fun z1 => ?_)
  refine aw_loc at_8_4 rfl rfl ?_
  refine aw_loc at_8_5 rfl rfl ?_
  refine aw_get at_8_6 rfl fl_0_19 ho rfl ?_
  refine aw_get at_8_9 rfl fl_0_68 hd2 rfl ?_
  refine aw_icmp at_8_12 (fun _ => k27) (fun z2 => absurd (Int32.not_lt.mp z1) z2)
end OP
end
section
/-! write: the draft grows by the bytes of a long that aren't 0. -/
section WR
variable {L : Nat} {xs : Nat → Int32} {d : Nat} {S : ai_S}
theorem ai_wr_wr (S : ai_S) (a : Nat) (x y : ai_C) : ai_wr (ai_wr S a x) a y = ai_wr S a y := by
  unfold ai_wr
  have : va_up (va_up S.2.2.2 a x) a y = va_up S.2.2.2 a y := by
    funext j; unfold va_up; by_cases h : j = a <;> simp [h]
  simp only [this]
theorem ai_wr_comm (S : ai_S) {a b : Nat} (h : a ≠ b) (x y : ai_C) : ai_wr (ai_wr S a x) b y = ai_wr (ai_wr S b y) a x := by
  unfold ai_wr
  have : va_up (va_up S.2.2.2 a x) b y = va_up (va_up S.2.2.2 b y) a x := by
    funext j; unfold va_up
    by_cases h1 : j = a
    · subst h1; simp [h]
    · simp [h1]
  simp only [this]
theorem ai_wr_id {S : ai_S} {a : Nat} {x : ai_C} (h : S.2.2.2 a = x) : ai_wr S a x = S := by
  unfold ai_wr
  have : va_up S.2.2.2 a x = S.2.2.2 := by
    funext j; unfold va_up
    by_cases h1 : j = a
    · subst h1; simp [h]
    · simp [h1]
  simp only [this]
/-- how many of the first j bytes aren't 0; what they make of a row -/
def wr_c (b : Nat → Int32) : Nat → Nat
  | 0 => 0
  | j + 1 => wr_c b j + (if b j = 0 then 0 else 1)
def wr_f (b : Nat → Int32) (n : Nat) (f : Nat → Int32) : Nat → Nat → Int32
  | 0 => f
  | j + 1 => if b j = 0 then wr_f b n f j else upd (wr_f b n f j) (n + wr_c b j) (b j)
theorem wr_c_le (b : Nat → Int32) : ∀ j, wr_c b j ≤ j
  | 0 => Nat.le_refl _
  | j + 1 => by
    have := wr_c_le b j
    unfold wr_c
    split <;> omega
theorem wr_c_mono (b : Nat → Int32) (j : Nat) : ∀ k, wr_c b j ≤ wr_c b (j + k)
  | 0 => Nat.le_refl _
  | k + 1 => Nat.le_trans (wr_c_mono b j k) (Nat.le_add_right _ _)
theorem i32_succ (m : Nat) : Int32.ofNat m + Int32.ofInt 1 = Int32.ofNat (m + 1) := by rw [Int32.ofNat_add]; rfl
theorem i32_zero (m : Nat) : Int32.ofNat m + Int32.ofInt 0 = Int32.ofNat m := by rw [show Int32.ofInt 0 = Int32.ofNat 0 from rfl, ← Int32.ofNat_add]; rfl
theorem i32_8 (j : Nat) : Int32.ofNat (8 * j) + Int32.ofInt 8 = Int32.ofNat (8 * (j + 1)) := by
  rw [show 8 * (j + 1) = 8 * j + 8 from rfl, Int32.ofNat_add]; rfl
theorem i32_le {a b : Nat} (ha : a < 2 ^ 31) (hb : b < 2 ^ 31) : Int32.ofNat a ≤ Int32.ofNat b ↔ a ≤ b := by
  rw [Int32.le_iff_toInt_le, Int32.toInt_ofNat_of_lt ha, Int32.toInt_ofNat_of_lt hb]; omega
theorem i32_lt {a b : Nat} (ha : a < 2 ^ 31) (hb : b < 2 ^ 31) : Int32.ofNat a < Int32.ofNat b ↔ a < b := by
  rw [Int32.lt_iff_toInt_lt, Int32.toInt_ofNat_of_lt ha, Int32.toInt_ofNat_of_lt hb]; omega
def by_C (J : Int64) (j : Nat) : Int32 := ((((J.toUInt64 >>> ((Int32.ofNat (8 * j)).toInt64.toUInt64 &&& Int64.toUInt64 63)).toInt64 &&& 255).toInt32).toUInt32 % 65536).toInt32
def by_M (J : Int64) (j : Nat) : Int32 := ((J >>> (((Int8.ofInt 8).toInt32 * Int32.ofNat j).toInt64 &&& 63)) &&& 255).toInt32
/-- the kind's draft -/
def dr_put (S : ai_S) (n : Nat) (f : Nat → Int32) : ai_S := ai_wr (ai_wr S 5 (.inl (1, ai_I 60 f))) 4 (.inr (2, [.ref 5, .int (Int32.ofNat n)]))
theorem dr_obj {n : Nat} {f : Nat → Int32} (h : 5 < S.1) : ai_obj (dr_put S n f) 4 2 = some [.ref 5, .int (Int32.ofNat n)] := ai_obj_wrS (Nat.lt_of_succ_lt h)
theorem dr_arr {n : Nat} {f : Nat → Int32} (h : 5 < S.1) : ai_arr (dr_put S n f) 5 1 = some (60, f) := (ai_arr_wr (by decide)).trans (ai_arr_wrS h)
theorem dr_self {n : Nat} {f : Nat → Int32} (ho : ai_obj S 4 2 = some [.ref 5, .int (Int32.ofNat n)]) (hc : ai_arr S 5 1 = some (60, f)) : dr_put S n f = S := by
  unfold dr_put
  rw [ai_wr_id (ai_arr_inv hc).2, ai_wr_id (ai_obj_inv ho).2]
theorem dr_step {n : Nat} {f g : Nat → Int32} {x : Value} (h : x = .int (Int32.ofNat (n + 1))) : ai_wr (ai_wr (dr_put S n f) 5 (.inl (1, ai_I 60 g))) 4 (.inr (2, [.ref 5, x])) = dr_put S (n + 1) g := by
  subst h
  unfold dr_put
  rw [ai_wr_comm _ (show 4 ≠ 5 by decide), ai_wr_wr, ai_wr_wr]
/-- the reference's -/
def md_put (S : ai_S) (x1 x2 : Nat) (D : Int32) (r : List Value) (n : Nat) (f : Nat → Int32) : ai_S := ai_wr (ai_wr S 435 (.inl (0, ai_I 60 f))) 432 (.inr (11, .int 0 :: .ref x1 :: .ref x2 :: .int D :: .int (Int32.ofNat n) :: .ref 435 :: r))
theorem md_obj {x1 x2 n : Nat} {D : Int32} {r : List Value} {f : Nat → Int32} (h : 435 < S.1) : ai_obj (md_put S x1 x2 D r n f) 432 11 = some (.int 0 :: .ref x1 :: .ref x2 :: .int D :: .int (Int32.ofNat n) :: .ref 435 :: r) := ai_obj_wrS (show 432 < S.1 by omega)
theorem md_arr {x1 x2 n : Nat} {D : Int32} {r : List Value} {f : Nat → Int32} (h : 435 < S.1) : ai_arr (md_put S x1 x2 D r n f) 435 0 = some (60, f) := (ai_arr_wr (by decide)).trans (ai_arr_wrS h)
theorem md_self {x1 x2 n : Nat} {D T : Int32} {r : List Value} {f : Nat → Int32} (hc : ai_arr S 435 0 = some (60, f)) : ai_wr S 432 (.inr (11, .int 0 :: .ref x1 :: .ref x2 :: .int D :: .int (Int32.ofNat n) :: .ref 435 :: r)) = md_put S x1 x2 D r n f := by
  unfold md_put
  rw [ai_wr_id (ai_arr_inv hc).2]
theorem md_step {x1 x2 n : Nat} {D : Int32} {r : List Value} {f g : Nat → Int32} {x : Value} (h : x = .int (Int32.ofNat (n + 1))) : ai_wr (ai_wr (md_put S x1 x2 D r n f) 435 (.inl (0, ai_I 60 g))) 432 (.inr (11, .int 0 :: .ref x1 :: .ref x2 :: .int D :: x :: .ref 435 :: r)) = md_put S x1 x2 D r (n + 1) g := by
  subst h
  unfold md_put
  rw [ai_wr_comm _ (show 432 ≠ 435 by decide), ai_wr_wr, ai_wr_wr]
theorem at_1_0 : ai_at ai_m1 0 = some (.aload_n 0, 1) := rfl
theorem at_1_1 : ai_at ai_m1 1 = some (.getfield 19, 3) := rfl
theorem at_1_4 : ai_at ai_m1 4 = some (.lload_n 1, 1) := rfl
theorem at_1_5 : ai_at ai_m1 5 = some (.invokevirtual 64, 3) := rfl
theorem at_1_8 : ai_at ai_m1 8 = some (.ireturn, 1) := rfl
theorem at_17_0 : ai_at ai_m17 0 = some (.iconst 0, 1) := rfl
theorem at_17_1 : ai_at ai_m17 1 = some (.istore_n 3, 1) := rfl
theorem at_17_2 : ai_at ai_m17 2 = some (.iconst 0, 1) := rfl
theorem at_17_3 : ai_at ai_m17 3 = some (.istore 4, 2) := rfl
theorem at_17_5 : ai_at ai_m17 5 = some (.iload 4, 2) := rfl
theorem at_17_7 : ai_at ai_m17 7 = some (.bipush 64, 2) := rfl
theorem at_17_9 : ai_at ai_m17 9 = some (.if_icmp .ge 26, 3) := rfl
theorem at_17_12 : ai_at ai_m17 12 = some (.iload_n 3, 1) := rfl
theorem at_17_13 : ai_at ai_m17 13 = some (.lload_n 1, 1) := rfl
theorem at_17_14 : ai_at ai_m17 14 = some (.iload 4, 2) := rfl
theorem at_17_16 : ai_at ai_m17 16 = some (.invokestatic 19, 3) := rfl
theorem at_17_19 : ai_at ai_m17 19 = some (.ifCond .eq 7, 3) := rfl
theorem at_17_22 : ai_at ai_m17 22 = some (.iconst 1, 1) := rfl
theorem at_17_23 : ai_at ai_m17 23 = some (.goto 4, 3) := rfl
theorem at_17_26 : ai_at ai_m17 26 = some (.iconst 0, 1) := rfl
theorem at_17_27 : ai_at ai_m17 27 = some (.iadd, 1) := rfl
theorem at_17_28 : ai_at ai_m17 28 = some (.istore_n 3, 1) := rfl
theorem at_17_29 : ai_at ai_m17 29 = some (.iinc 4 8, 3) := rfl
theorem at_17_32 : ai_at ai_m17 32 = some (.goto (-27), 3) := rfl
theorem at_17_35 : ai_at ai_m17 35 = some (.aload_n 0, 1) := rfl
theorem at_17_36 : ai_at ai_m17 36 = some (.getfield 15, 3) := rfl
theorem at_17_39 : ai_at ai_m17 39 = some (.iload_n 3, 1) := rfl
theorem at_17_40 : ai_at ai_m17 40 = some (.iadd, 1) := rfl
theorem at_17_41 : ai_at ai_m17 41 = some (.bipush 60, 2) := rfl
theorem at_17_43 : ai_at ai_m17 43 = some (.if_icmp .le 5, 3) := rfl
theorem at_17_46 : ai_at ai_m17 46 = some (.iconst 0, 1) := rfl
theorem at_17_47 : ai_at ai_m17 47 = some (.ireturn, 1) := rfl
theorem at_17_48 : ai_at ai_m17 48 = some (.iconst 0, 1) := rfl
theorem at_17_49 : ai_at ai_m17 49 = some (.istore 4, 2) := rfl
theorem at_17_51 : ai_at ai_m17 51 = some (.iload 4, 2) := rfl
theorem at_17_53 : ai_at ai_m17 53 = some (.bipush 64, 2) := rfl
theorem at_17_55 : ai_at ai_m17 55 = some (.if_icmp .ge 43, 3) := rfl
theorem at_17_58 : ai_at ai_m17 58 = some (.lload_n 1, 1) := rfl
theorem at_17_59 : ai_at ai_m17 59 = some (.iload 4, 2) := rfl
theorem at_17_61 : ai_at ai_m17 61 = some (.invokestatic 19, 3) := rfl
theorem at_17_64 : ai_at ai_m17 64 = some (.ifCond .eq 28, 3) := rfl
theorem at_17_67 : ai_at ai_m17 67 = some (.aload_n 0, 1) := rfl
theorem at_17_68 : ai_at ai_m17 68 = some (.getfield 9, 3) := rfl
theorem at_17_71 : ai_at ai_m17 71 = some (.aload_n 0, 1) := rfl
theorem at_17_72 : ai_at ai_m17 72 = some (.getfield 15, 3) := rfl
theorem at_17_75 : ai_at ai_m17 75 = some (.lload_n 1, 1) := rfl
theorem at_17_76 : ai_at ai_m17 76 = some (.iload 4, 2) := rfl
theorem at_17_78 : ai_at ai_m17 78 = some (.invokestatic 19, 3) := rfl
theorem at_17_81 : ai_at ai_m17 81 = some (.castore, 1) := rfl
theorem at_17_82 : ai_at ai_m17 82 = some (.aload_n 0, 1) := rfl
theorem at_17_83 : ai_at ai_m17 83 = some (.dup, 1) := rfl
theorem at_17_84 : ai_at ai_m17 84 = some (.getfield 15, 3) := rfl
theorem at_17_87 : ai_at ai_m17 87 = some (.iconst 1, 1) := rfl
theorem at_17_88 : ai_at ai_m17 88 = some (.iadd, 1) := rfl
theorem at_17_89 : ai_at ai_m17 89 = some (.putfield 15, 3) := rfl
theorem at_17_92 : ai_at ai_m17 92 = some (.iinc 4 8, 3) := rfl
theorem at_17_95 : ai_at ai_m17 95 = some (.goto (-44), 3) := rfl
theorem at_17_98 : ai_at ai_m17 98 = some (.iconst 1, 1) := rfl
theorem at_17_99 : ai_at ai_m17 99 = some (.ireturn, 1) := rfl
theorem at_18_0 : ai_at ai_m18 0 = some (.lload_n 0, 1) := rfl
theorem at_18_1 : ai_at ai_m18 1 = some (.iload_n 2, 1) := rfl
theorem at_18_2 : ai_at ai_m18 2 = some (.lushr, 1) := rfl
theorem at_18_3 : ai_at ai_m18 3 = some (.ldc2_w 23, 3) := rfl
theorem at_18_6 : ai_at ai_m18 6 = some (.land, 1) := rfl
theorem at_18_7 : ai_at ai_m18 7 = some (.l2i, 1) := rfl
theorem at_18_8 : ai_at ai_m18 8 = some (.i2c, 1) := rfl
theorem at_18_9 : ai_at ai_m18 9 = some (.ireturn, 1) := rfl
theorem at_100_0 : ai_at ai_m100 0 = some (.aload_n 0, 1) := rfl
theorem at_100_1 : ai_at ai_m100 1 = some (.iconst 0, 1) := rfl
theorem at_100_2 : ai_at ai_m100 2 = some (.putfield 68, 3) := rfl
theorem at_100_5 : ai_at ai_m100 5 = some (.iconst 0, 1) := rfl
theorem at_100_6 : ai_at ai_m100 6 = some (.istore_n 3, 1) := rfl
theorem at_100_7 : ai_at ai_m100 7 = some (.iconst 0, 1) := rfl
theorem at_100_8 : ai_at ai_m100 8 = some (.istore 4, 2) := rfl
theorem at_100_10 : ai_at ai_m100 10 = some (.iload 4, 2) := rfl
theorem at_100_12 : ai_at ai_m100 12 = some (.bipush 8, 2) := rfl
theorem at_100_14 : ai_at ai_m100 14 = some (.if_icmp .ge 26, 3) := rfl
theorem at_100_17 : ai_at ai_m100 17 = some (.iload_n 3, 1) := rfl
theorem at_100_18 : ai_at ai_m100 18 = some (.lload_n 1, 1) := rfl
theorem at_100_19 : ai_at ai_m100 19 = some (.iload 4, 2) := rfl
theorem at_100_21 : ai_at ai_m100 21 = some (.invokestatic 81, 3) := rfl
theorem at_100_24 : ai_at ai_m100 24 = some (.ifCond .ne 7, 3) := rfl
theorem at_100_27 : ai_at ai_m100 27 = some (.iconst 0, 1) := rfl
theorem at_100_28 : ai_at ai_m100 28 = some (.goto 4, 3) := rfl
theorem at_100_31 : ai_at ai_m100 31 = some (.iconst 1, 1) := rfl
theorem at_100_32 : ai_at ai_m100 32 = some (.iadd, 1) := rfl
theorem at_100_33 : ai_at ai_m100 33 = some (.istore_n 3, 1) := rfl
theorem at_100_34 : ai_at ai_m100 34 = some (.iinc 4 1, 3) := rfl
theorem at_100_37 : ai_at ai_m100 37 = some (.goto (-27), 3) := rfl
theorem at_100_40 : ai_at ai_m100 40 = some (.aload_n 0, 1) := rfl
theorem at_100_41 : ai_at ai_m100 41 = some (.getfield 85, 3) := rfl
theorem at_100_44 : ai_at ai_m100 44 = some (.iload_n 3, 1) := rfl
theorem at_100_45 : ai_at ai_m100 45 = some (.iadd, 1) := rfl
theorem at_100_46 : ai_at ai_m100 46 = some (.bipush 60, 2) := rfl
theorem at_100_48 : ai_at ai_m100 48 = some (.if_icmp .le 5, 3) := rfl
theorem at_100_51 : ai_at ai_m100 51 = some (.iconst 0, 1) := rfl
theorem at_100_52 : ai_at ai_m100 52 = some (.ireturn, 1) := rfl
theorem at_100_53 : ai_at ai_m100 53 = some (.iconst 0, 1) := rfl
theorem at_100_54 : ai_at ai_m100 54 = some (.istore 4, 2) := rfl
theorem at_100_56 : ai_at ai_m100 56 = some (.iload 4, 2) := rfl
theorem at_100_58 : ai_at ai_m100 58 = some (.bipush 8, 2) := rfl
theorem at_100_60 : ai_at ai_m100 60 = some (.if_icmp .ge 43, 3) := rfl
theorem at_100_63 : ai_at ai_m100 63 = some (.lload_n 1, 1) := rfl
theorem at_100_64 : ai_at ai_m100 64 = some (.iload 4, 2) := rfl
theorem at_100_66 : ai_at ai_m100 66 = some (.invokestatic 81, 3) := rfl
theorem at_100_69 : ai_at ai_m100 69 = some (.ifCond .eq 28, 3) := rfl
theorem at_100_72 : ai_at ai_m100 72 = some (.aload_n 0, 1) := rfl
theorem at_100_73 : ai_at ai_m100 73 = some (.getfield 16, 3) := rfl
theorem at_100_76 : ai_at ai_m100 76 = some (.aload_n 0, 1) := rfl
theorem at_100_77 : ai_at ai_m100 77 = some (.getfield 85, 3) := rfl
theorem at_100_80 : ai_at ai_m100 80 = some (.lload_n 1, 1) := rfl
theorem at_100_81 : ai_at ai_m100 81 = some (.iload 4, 2) := rfl
theorem at_100_83 : ai_at ai_m100 83 = some (.invokestatic 81, 3) := rfl
theorem at_100_86 : ai_at ai_m100 86 = some (.iastore, 1) := rfl
theorem at_100_87 : ai_at ai_m100 87 = some (.aload_n 0, 1) := rfl
theorem at_100_88 : ai_at ai_m100 88 = some (.dup, 1) := rfl
theorem at_100_89 : ai_at ai_m100 89 = some (.getfield 85, 3) := rfl
theorem at_100_92 : ai_at ai_m100 92 = some (.iconst 1, 1) := rfl
theorem at_100_93 : ai_at ai_m100 93 = some (.iadd, 1) := rfl
theorem at_100_94 : ai_at ai_m100 94 = some (.putfield 85, 3) := rfl
theorem at_100_97 : ai_at ai_m100 97 = some (.iinc 4 1, 3) := rfl
theorem at_100_100 : ai_at ai_m100 100 = some (.goto (-44), 3) := rfl
theorem at_100_103 : ai_at ai_m100 103 = some (.iconst 1, 1) := rfl
theorem at_100_104 : ai_at ai_m100 104 = some (.ireturn, 1) := rfl
theorem at_101_0 : ai_at ai_m101 0 = some (.lload_n 0, 1) := rfl
theorem at_101_1 : ai_at ai_m101 1 = some (.bipush 8, 2) := rfl
theorem at_101_3 : ai_at ai_m101 3 = some (.iload_n 2, 1) := rfl
theorem at_101_4 : ai_at ai_m101 4 = some (.imul, 1) := rfl
theorem at_101_5 : ai_at ai_m101 5 = some (.lshr, 1) := rfl
theorem at_101_6 : ai_at ai_m101 6 = some (.ldc2_w 79, 3) := rfl
theorem at_101_9 : ai_at ai_m101 9 = some (.land, 1) := rfl
theorem at_101_10 : ai_at ai_m101 10 = some (.l2i, 1) := rfl
theorem at_101_11 : ai_at ai_m101 11 = some (.ireturn, 1) := rfl
theorem fl_1_9 : ai_fld 1 9 = some (2, 0, false) := by decide +kernel
theorem fl_1_15 : ai_fld 1 15 = some (2, 1, false) := by decide +kernel
theorem fl_12_16 : ai_fld 12 16 = some (11, 5, false) := by decide +kernel
theorem mt_0_64 : ai_mth 0 64 = some (0, 17, 1, 2) := by decide +kernel
theorem mt_1_19 : ai_mth 1 19 = some (2, 18, 2, 2) := by decide +kernel
theorem mt_12_81 : ai_mth 12 81 = some (2, 101, 2, 11) := by decide +kernel
theorem r_byteAt {J : Int64} {j : Nat} : ai_rn L xs (d + 1) 18 [.long J, .int (Int32.ofNat (8 * j))] S (fun v S' => v = some (.int (by_C J j)) ∧ S' = S) := by
  refine ai_rn_of (M := ai_m18) rfl (by decide) (Nat.le_of_ble_eq_true rfl) ?_
  refine aw_loc at_18_0 rfl rfl ?_
  refine aw_loc at_18_1 rfl rfl ?_
  refine aw_pure at_18_2 rfl rfl ?_
  refine aw_fop at_18_3 rfl (by rfl) ?_
  refine aw_pure at_18_6 rfl rfl ?_
  refine aw_pure at_18_7 rfl rfl ?_
  refine aw_pure at_18_8 rfl rfl ?_
  exact aw_ret at_18_9 rfl (pk_nc _) ⟨_, _, rfl, rfl, rfl⟩
theorem r_byteOf {J : Int64} {j : Nat} : ai_rn L xs (d + 1) 101 [.long J, .int (Int32.ofNat j)] S (fun v S' => v = some (.int (by_M J j)) ∧ S' = S) := by
  refine ai_rn_of (M := ai_m101) rfl (by decide) (Nat.le_of_ble_eq_true rfl) ?_
  refine aw_loc at_101_0 rfl rfl ?_
  refine aw_pure at_101_1 rfl rfl ?_
  refine aw_loc at_101_3 rfl rfl ?_
  refine aw_pure at_101_4 rfl rfl ?_
  refine aw_pure at_101_5 rfl rfl ?_
  refine aw_fop at_101_6 rfl (by rfl) ?_
  refine aw_pure at_101_9 rfl rfl ?_
  refine aw_pure at_101_10 rfl rfl ?_
  exact aw_ret at_101_11 rfl rfl ⟨_, _, rfl, rfl, rfl⟩
set_option maxHeartbeats 1000000 in
theorem r_app1 {J : Int64} {Q : ai_O → Prop} : ∀ (k j : Nat), j + k = 8 → ai_aw L xs (d + 1) ai_m17 Q (35, [some (.ref 4), some (.long J), none, some (.int (Int32.ofNat (wr_c (by_C J) 8))), some (.int (Int32.ofNat (8 * 8)))], [], S) → ai_aw L xs (d + 1) ai_m17 Q (5, [some (.ref 4), some (.long J), none, some (.int (Int32.ofNat (wr_c (by_C J) j))), some (.int (Int32.ofNat (8 * j)))], [], S) := by
  intro k
  induction k with
  | zero =>
    intro j hj hK
    have hj8 : j = 8 := by omega
    subst hj8
    refine aw_loc at_17_5 rfl rfl ?_
    refine aw_pure at_17_7 rfl rfl ?_
    exact aw_icmp at_17_9 (fun _ => hK) (fun z => absurd (by unfold ai_cmp; decide) z)
  | succ k ih =>
    intro j hj hK
    refine aw_loc at_17_5 rfl rfl ?_
    refine aw_pure at_17_7 rfl rfl ?_
    refine aw_icmp at_17_9 (fun z => absurd ((i32_le (a := 64) (b := 8 * j) (by decide) (by omega)).mp z) (by omega)) (fun _ => ?_)
    refine aw_loc at_17_12 rfl rfl ?_
    refine aw_loc at_17_13 rfl rfl ?_
    refine aw_loc at_17_14 rfl rfl ?_
    refine aw_cs [.long J, .int (Int32.ofNat (8 * j))] [.int (Int32.ofNat (wr_c (by_C J) j))] at_17_16 rfl mt_1_19 (Or.inl rfl) rfl rfl (Nat.le_of_ble_eq_true rfl) (r_byteAt.mono ?_)
    rintro v S' ⟨rfl, rfl⟩
    refine aw_if at_17_19 (fun z => ?_) (fun z => ?_)
    · show ai_aw L xs _ ai_m17 Q (26, _, _, _)
      have hb : by_C J j = 0 := z
      have hc : wr_c (by_C J) (j + 1) = wr_c (by_C J) j := by show wr_c (by_C J) j + _ = _; rw [if_pos hb]; rfl
      refine aw_pure at_17_26 rfl rfl ?_
      refine aw_pure at_17_27 rfl rfl ?_
      refine aw_loc at_17_28 rfl rfl ?_
      refine aw_loc at_17_29 rfl rfl ?_
      refine aw_goto at_17_32 ?_
      have := ih (j + 1) (by omega) hK
      rw [hc] at this
      rw [← i32_zero (wr_c (by_C J) j)] at this
      rw [← i32_8] at this
      exact this
    · show ai_aw L xs _ ai_m17 Q (22, _, _, _)
      have hb : ¬ by_C J j = 0 := z
      have hc : wr_c (by_C J) (j + 1) = wr_c (by_C J) j + 1 := by show wr_c (by_C J) j + _ = _; rw [if_neg hb]
      refine aw_pure at_17_22 rfl rfl ?_
      refine aw_goto at_17_23 ?_
      refine aw_pure at_17_27 rfl rfl ?_
      refine aw_loc at_17_28 rfl rfl ?_
      refine aw_loc at_17_29 rfl rfl ?_
      refine aw_goto at_17_32 ?_
      have := ih (j + 1) (by omega) hK
      rw [hc] at this
      rw [← i32_succ (wr_c (by_C J) j)] at this
      rw [← i32_8] at this
      exact this
set_option maxHeartbeats 1000000 in
theorem r_wri1 {J : Int64} {Q : ai_O → Prop} : ∀ (k j : Nat), j + k = 8 → ai_aw L xs (d + 1) ai_m100 Q (40, [some (.ref 432), some (.long J), none, some (.int (Int32.ofNat (wr_c (by_M J) 8))), some (.int (Int32.ofNat (8)))], [], S) → ai_aw L xs (d + 1) ai_m100 Q (10, [some (.ref 432), some (.long J), none, some (.int (Int32.ofNat (wr_c (by_M J) j))), some (.int (Int32.ofNat (j)))], [], S) := by
  intro k
  induction k with
  | zero =>
    intro j hj hK
    have hj8 : j = 8 := by omega
    subst hj8
    refine aw_loc at_100_10 rfl rfl ?_
    refine aw_pure at_100_12 rfl rfl ?_
    exact aw_icmp at_100_14 (fun _ => hK) (fun z => absurd (by unfold ai_cmp; decide) z)
  | succ k ih =>
    intro j hj hK
    refine aw_loc at_100_10 rfl rfl ?_
    refine aw_pure at_100_12 rfl rfl ?_
    refine aw_icmp at_100_14 (fun z => absurd ((i32_le (a := 8) (b := j) (by decide) (by omega)).mp z) (by omega)) (fun _ => ?_)
    refine aw_loc at_100_17 rfl rfl ?_
    refine aw_loc at_100_18 rfl rfl ?_
    refine aw_loc at_100_19 rfl rfl ?_
    refine aw_cs [.long J, .int (Int32.ofNat (j))] [.int (Int32.ofNat (wr_c (by_M J) j))] at_100_21 rfl mt_12_81 (Or.inl rfl) rfl rfl (Nat.le_of_ble_eq_true rfl) (r_byteOf.mono ?_)
    rintro v S' ⟨rfl, rfl⟩
    refine aw_if at_100_24 (fun z => ?_) (fun z => ?_)
    · show ai_aw L xs _ ai_m100 Q (31, _, _, _)
      have hb : ¬ by_M J j = 0 := z
      have hc : wr_c (by_M J) (j + 1) = wr_c (by_M J) j + 1 := by show wr_c (by_M J) j + _ = _; rw [if_neg hb]
      refine aw_pure at_100_31 rfl rfl ?_
      refine aw_pure at_100_32 rfl rfl ?_
      refine aw_loc at_100_33 rfl rfl ?_
      refine aw_loc at_100_34 rfl rfl ?_
      refine aw_goto at_100_37 ?_
      have := ih (j + 1) (by omega) hK
      rw [hc] at this
      rw [← i32_succ (wr_c (by_M J) j)] at this
      rw [← i32_succ j] at this
      exact this
    · show ai_aw L xs _ ai_m100 Q (27, _, _, _)
      have hb : by_M J j = 0 := Classical.byContradiction z
      have hc : wr_c (by_M J) (j + 1) = wr_c (by_M J) j := by show wr_c (by_M J) j + _ = _; rw [if_pos hb]; rfl
      refine aw_pure at_100_27 rfl rfl ?_
      refine aw_goto at_100_28 ?_
      refine aw_pure at_100_32 rfl rfl ?_
      refine aw_loc at_100_33 rfl rfl ?_
      refine aw_loc at_100_34 rfl rfl ?_
      refine aw_goto at_100_37 ?_
      have := ih (j + 1) (by omega) hK
      rw [hc] at this
      rw [← i32_zero (wr_c (by_M J) j)] at this
      rw [← i32_succ j] at this
      exact this
set_option maxHeartbeats 2000000 in
theorem r_app2 {J : Int64} {Q : ai_O → Prop} {n : Nat} {f : Nat → Int32} {m : Int32} (hn : n + wr_c (by_C J) 8 ≤ 60) (hl : 5 < S.1) : ∀ (k j : Nat), j + k = 8 → ai_aw L xs (d + 1) ai_m17 Q (98, [some (.ref 4), some (.long J), none, some (.int (m)), some (.int (Int32.ofNat (8 * 8)))], [], (dr_put S (n + wr_c (by_C J) (8)) (wr_f (by_C J) n f (8)))) → ai_aw L xs (d + 1) ai_m17 Q (51, [some (.ref 4), some (.long J), none, some (.int (m)), some (.int (Int32.ofNat (8 * j)))], [], (dr_put S (n + wr_c (by_C J) (j)) (wr_f (by_C J) n f (j)))) := by
  intro k
  induction k with
  | zero =>
    intro j hj hK
    have hj8 : j = 8 := by omega
    subst hj8
    refine aw_loc at_17_51 rfl rfl ?_
    refine aw_pure at_17_53 rfl rfl ?_
    exact aw_icmp at_17_55 (fun _ => hK) (fun z => absurd (by unfold ai_cmp; decide) z)
  | succ k ih =>
    intro j hj hK
    refine aw_loc at_17_51 rfl rfl ?_
    refine aw_pure at_17_53 rfl rfl ?_
    refine aw_icmp at_17_55 (fun z => absurd ((i32_le (a := 64) (b := 8 * j) (by decide) (by omega)).mp z) (by omega)) (fun _ => ?_)
    refine aw_loc at_17_58 rfl rfl ?_
    refine aw_loc at_17_59 rfl rfl ?_
    refine aw_cs [.long J, .int (Int32.ofNat (8 * j))] [] at_17_61 rfl mt_1_19 (Or.inl rfl) rfl rfl (Nat.le_of_ble_eq_true rfl) (r_byteAt.mono ?_)
    rintro v S' ⟨rfl, rfl⟩
    refine aw_if at_17_64 (fun z => ?_) (fun z => ?_)
    · show ai_aw L xs _ ai_m17 Q (92, _, _, _)
      have hb : by_C J j = 0 := z
      have hc : wr_c (by_C J) (j + 1) = wr_c (by_C J) j := by show wr_c (by_C J) j + _ = _; rw [if_pos hb]; rfl
      have hf : wr_f (by_C J) n f (j + 1) = wr_f (by_C J) n f j := if_pos hb
      refine aw_loc at_17_92 rfl rfl ?_
      refine aw_goto at_17_95 ?_
      have := ih (j + 1) (by omega) hK
      rw [hc, hf, ← i32_8] at this
      exact this
    · show ai_aw L xs _ ai_m17 Q (67, _, _, _)
      have hb : ¬ by_C J j = 0 := z
      have hc : wr_c (by_C J) (j + 1) = wr_c (by_C J) j + 1 := by show wr_c (by_C J) j + _ = _; rw [if_neg hb]
      have hf : wr_f (by_C J) n f (j + 1) = upd (wr_f (by_C J) n f j) (n + wr_c (by_C J) j) (by_C J j) := if_neg hb
      have hlt : n + wr_c (by_C J) j < 60 := by
        have h9 := wr_c_mono (by_C J) (j + 1) k
        rw [show j + 1 + k = 8 by omega] at h9
        omega
      have ho1 := dr_obj (n := n + wr_c (by_C J) j) (f := wr_f (by_C J) n f j) hl
      have hc1 := dr_arr (n := n + wr_c (by_C J) j) (f := wr_f (by_C J) n f j) hl
      refine aw_loc at_17_67 rfl rfl ?_
      refine aw_get at_17_68 rfl fl_1_9 ho1 rfl ?_
      refine aw_loc at_17_71 rfl rfl ?_
      refine aw_get at_17_72 rfl fl_1_15 ho1 rfl ?_
      refine aw_loc at_17_75 rfl rfl ?_
      refine aw_loc at_17_76 rfl rfl ?_
      refine aw_cs [.long J, .int (Int32.ofNat (8 * j))] [.int (Int32.ofNat (n + wr_c (by_C J) j)), .ref 5] at_17_78 rfl mt_1_19 (Or.inl rfl) rfl rfl (Nat.le_of_ble_eq_true rfl) (r_byteAt.mono ?_)
      rintro v S' ⟨rfl, rfl⟩
      refine aw_cast at_17_81 rfl hc1 (i32_inb hlt (by decide)) ?_
      rw [Int32.toNatClampNeg_ofNat_of_lt (by omega)]
      rw [show vp_nar .char (by_C J j) = by_C J j from pk_vc _]
      have ho2 := (ai_obj_wr (a := 5) (x := .inl (1, ai_I 60 (upd (wr_f (by_C J) n f j) (n + wr_c (by_C J) j) (by_C J j)))) (show 4 ≠ 5 by decide)).trans ho1
      refine aw_loc at_17_82 rfl rfl ?_
      refine aw_pure at_17_83 rfl rfl ?_
      refine aw_get at_17_84 rfl fl_1_15 ho2 rfl ?_
      refine aw_pure at_17_87 rfl rfl ?_
      refine aw_pure at_17_88 rfl rfl ?_
      refine aw_put at_17_89 rfl fl_1_15 ho2 (Nat.le_of_ble_eq_true rfl) rfl (by decide +kernel) ?_
      refine aw_loc at_17_92 rfl rfl ?_
      refine aw_goto at_17_95 ?_
      have := ih (j + 1) (by omega) hK
      rw [hc, hf, ← i32_8, ← Nat.add_assoc] at this
      rw [← dr_step (f := wr_f (by_C J) n f j) (congrArg Value.int (i32_succ (n + wr_c (by_C J) j)))] at this
      exact this
set_option maxHeartbeats 2000000 in
theorem r_wri2 {J : Int64} {Q : ai_O → Prop} {n : Nat} {f : Nat → Int32} {m D : Int32} {x1 x2 : Nat} {r : List Value} (hn : n + wr_c (by_M J) 8 ≤ 60) (hl : 435 < S.1) : ∀ (k j : Nat), j + k = 8 → ai_aw L xs (d + 1) ai_m100 Q (103, [some (.ref 432), some (.long J), none, some (.int (m)), some (.int (Int32.ofNat (8)))], [], (md_put S x1 x2 D r (n + wr_c (by_M J) (8)) (wr_f (by_M J) n f (8)))) → ai_aw L xs (d + 1) ai_m100 Q (56, [some (.ref 432), some (.long J), none, some (.int (m)), some (.int (Int32.ofNat (j)))], [], (md_put S x1 x2 D r (n + wr_c (by_M J) (j)) (wr_f (by_M J) n f (j)))) := by
  intro k
  induction k with
  | zero =>
    intro j hj hK
    have hj8 : j = 8 := by omega
    subst hj8
    refine aw_loc at_100_56 rfl rfl ?_
    refine aw_pure at_100_58 rfl rfl ?_
    exact aw_icmp at_100_60 (fun _ => hK) (fun z => absurd (by unfold ai_cmp; decide) z)
  | succ k ih =>
    intro j hj hK
    refine aw_loc at_100_56 rfl rfl ?_
    refine aw_pure at_100_58 rfl rfl ?_
    refine aw_icmp at_100_60 (fun z => absurd ((i32_le (a := 8) (b := j) (by decide) (by omega)).mp z) (by omega)) (fun _ => ?_)
    refine aw_loc at_100_63 rfl rfl ?_
    refine aw_loc at_100_64 rfl rfl ?_
    refine aw_cs [.long J, .int (Int32.ofNat (j))] [] at_100_66 rfl mt_12_81 (Or.inl rfl) rfl rfl (Nat.le_of_ble_eq_true rfl) (r_byteOf.mono ?_)
    rintro v S' ⟨rfl, rfl⟩
    refine aw_if at_100_69 (fun z => ?_) (fun z => ?_)
    · show ai_aw L xs _ ai_m100 Q (97, _, _, _)
      have hb : by_M J j = 0 := z
      have hc : wr_c (by_M J) (j + 1) = wr_c (by_M J) j := by show wr_c (by_M J) j + _ = _; rw [if_pos hb]; rfl
      have hf : wr_f (by_M J) n f (j + 1) = wr_f (by_M J) n f j := if_pos hb
      refine aw_loc at_100_97 rfl rfl ?_
      refine aw_goto at_100_100 ?_
      have := ih (j + 1) (by omega) hK
      rw [hc, hf, ← i32_succ j] at this
      exact this
    · show ai_aw L xs _ ai_m100 Q (72, _, _, _)
      have hb : ¬ by_M J j = 0 := z
      have hc : wr_c (by_M J) (j + 1) = wr_c (by_M J) j + 1 := by show wr_c (by_M J) j + _ = _; rw [if_neg hb]
      have hf : wr_f (by_M J) n f (j + 1) = upd (wr_f (by_M J) n f j) (n + wr_c (by_M J) j) (by_M J j) := if_neg hb
      have hlt : n + wr_c (by_M J) j < 60 := by
        have h9 := wr_c_mono (by_M J) (j + 1) k
        rw [show j + 1 + k = 8 by omega] at h9
        omega
      have ho1 := md_obj (x1 := x1) (x2 := x2) (D := D) (r := r) (n := n + wr_c (by_M J) j) (f := wr_f (by_M J) n f j) hl
      have hc1 := md_arr (x1 := x1) (x2 := x2) (D := D) (r := r) (n := n + wr_c (by_M J) j) (f := wr_f (by_M J) n f j) hl
      refine aw_loc at_100_72 rfl rfl ?_
      refine aw_get at_100_73 rfl fl_12_16 ho1 rfl ?_
      refine aw_loc at_100_76 rfl rfl ?_
      refine aw_get at_100_77 rfl fl_12_85 ho1 rfl ?_
      refine aw_loc at_100_80 rfl rfl ?_
      refine aw_loc at_100_81 rfl rfl ?_
      refine aw_cs [.long J, .int (Int32.ofNat (j))] [.int (Int32.ofNat (n + wr_c (by_M J) j)), .ref 435] at_100_83 rfl mt_12_81 (Or.inl rfl) rfl rfl (Nat.le_of_ble_eq_true rfl) (r_byteOf.mono ?_)
      rintro v S' ⟨rfl, rfl⟩
      refine aw_iast at_100_86 rfl hc1 (i32_inb hlt (by decide)) ?_
      rw [Int32.toNatClampNeg_ofNat_of_lt (by omega)]
      have ho2 := (ai_obj_wr (a := 435) (x := .inl (0, ai_I 60 (upd (wr_f (by_M J) n f j) (n + wr_c (by_M J) j) (by_M J j)))) (show 432 ≠ 435 by decide)).trans ho1
      refine aw_loc at_100_87 rfl rfl ?_
      refine aw_pure at_100_88 rfl rfl ?_
      refine aw_get at_100_89 rfl fl_12_85 ho2 rfl ?_
      refine aw_pure at_100_92 rfl rfl ?_
      refine aw_pure at_100_93 rfl rfl ?_
      refine aw_put at_100_94 rfl fl_12_85 ho2 (Nat.le_of_ble_eq_true rfl) rfl (by decide +kernel) ?_
      refine aw_loc at_100_97 rfl rfl ?_
      refine aw_goto at_100_100 ?_
      have := ih (j + 1) (by omega) hK
      rw [hc, hf, ← i32_succ j, ← Nat.add_assoc] at this
      rw [← md_step (f := wr_f (by_M J) n f j) (congrArg Value.int (i32_succ (n + wr_c (by_M J) j)))] at this
      exact this
set_option maxHeartbeats 2000000 in
theorem r_append {J : Int64} {n : Nat} {f : Nat → Int32} (hn : n ≤ 60) (ho : ai_obj S 4 2 = some [.ref 5, .int (Int32.ofNat n)]) (hc : ai_arr S 5 1 = some (60, f)) : ai_rn L xs (d + 2) 17 [.ref 4, .long J] S (fun v S' => (60 < n + wr_c (by_C J) 8 → v = some (.int 0) ∧ S' = S) ∧ (n + wr_c (by_C J) 8 ≤ 60 → v = some (.int 1) ∧ S' = dr_put S (n + wr_c (by_C J) 8) (wr_f (by_C J) n f 8))) := by
  have hl : 5 < S.1 := (ai_arr_inv hc).1
  refine ai_rn_of (M := ai_m17) rfl (by decide) (Nat.le_of_ble_eq_true rfl) ?_
  refine aw_pure at_17_0 rfl rfl ?_
  refine aw_loc at_17_1 rfl rfl ?_
  refine aw_pure at_17_2 rfl rfl ?_
  refine aw_loc at_17_3 rfl rfl ?_
  refine r_app1 8 0 rfl ?_
  refine aw_loc at_17_35 rfl rfl ?_
  refine aw_get at_17_36 rfl fl_1_15 ho rfl ?_
  refine aw_loc at_17_39 rfl rfl ?_
  refine aw_pure at_17_40 rfl rfl ?_
  refine aw_pure at_17_41 rfl rfl ?_
  have h8 := wr_c_le (by_C J) 8
  rw [← Int32.ofNat_add]
  refine aw_icmp at_17_43 (fun z => ?_) (fun z => ?_)
  · have hle : n + wr_c (by_C J) 8 ≤ 60 := (i32_le (by omega) (by decide)).mp z
    show ai_aw L xs _ ai_m17 _ (48, _, _, _)
    refine aw_pure at_17_48 rfl rfl ?_
    refine aw_loc at_17_49 rfl rfl ?_
    have := r_app2 (L := L) (xs := xs) (d := d) (S := S) (J := J) (Q := fun o => ∃ v S', o = (.inl v, S') ∧ (60 < n + wr_c (by_C J) 8 → v = some (.int 0) ∧ S' = S) ∧ (n + wr_c (by_C J) 8 ≤ 60 → v = some (.int 1) ∧ S' = dr_put S (n + wr_c (by_C J) 8) (wr_f (by_C J) n f 8))) (m := Int32.ofNat (wr_c (by_C J) 8)) (n := n) (f := f) hle hl 8 0 rfl ?_
    · rw [show dr_put S (n + wr_c (by_C J) 0) (wr_f (by_C J) n f 0) = S from dr_self ho hc] at this
      exact this
    · skip
      refine aw_pure at_17_98 rfl rfl ?_
      exact aw_ret at_17_99 rfl rfl ⟨_, _, rfl, fun z9 => absurd z9 (by omega), fun _ => ⟨rfl, rfl⟩⟩
  · have hgt : 60 < n + wr_c (by_C J) 8 := by
      have := mt (i32_le (a := n + wr_c (by_C J) 8) (b := 60) (by omega) (by decide)).mpr z
      omega
    refine aw_pure at_17_46 rfl rfl ?_
    exact aw_ret at_17_47 rfl rfl ⟨_, _, rfl, fun _ => ⟨rfl, rfl⟩, fun z9 => absurd z9 (by omega)⟩
theorem r_write {J : Int64} {n a b c : Nat} {f : Nat → Int32} (hn : n ≤ 60) (h0 : ai_obj S 0 0 = some [.ref a, .ref 4, .ref b, .ref c]) (ho : ai_obj S 4 2 = some [.ref 5, .int (Int32.ofNat n)]) (hc : ai_arr S 5 1 = some (60, f)) : ai_rn L xs (d + 3) 1 [.ref 0, .long J] S (fun v S' => (60 < n + wr_c (by_C J) 8 → v = some (.int 0) ∧ S' = S) ∧ (n + wr_c (by_C J) 8 ≤ 60 → v = some (.int 1) ∧ S' = dr_put S (n + wr_c (by_C J) 8) (wr_f (by_C J) n f 8))) := by
  refine ai_rn_of (M := ai_m1) rfl (by decide) (Nat.le_of_ble_eq_true rfl) ?_
  refine aw_loc at_1_0 rfl rfl ?_
  refine aw_get at_1_1 rfl fl_0_19 h0 rfl ?_
  refine aw_loc at_1_4 rfl rfl ?_
  refine aw_cv (a := 4) [.long J] [] at_1_5 mt_0_64 (Or.inl rfl) rfl rfl (Nat.le_of_ble_eq_true rfl) ⟨_, ho⟩ ((r_append hn ho hc).mono ?_)
  rintro v S' ⟨h1, h2⟩
  by_cases hle : n + wr_c (by_C J) 8 ≤ 60
  · obtain ⟨rfl, rfl⟩ := h2 hle
    exact aw_ret at_1_8 rfl rfl ⟨_, _, rfl, fun z9 => absurd z9 (by omega), fun _ => ⟨rfl, rfl⟩⟩
  · obtain ⟨rfl, rfl⟩ := h1 (by omega)
    exact aw_ret at_1_8 rfl rfl ⟨_, _, rfl, fun _ => ⟨rfl, rfl⟩, fun z9 => absurd z9 (by omega)⟩
set_option maxHeartbeats 2000000 in
theorem r_m_write {J : Int64} {n x1 x2 : Nat} {T D : Int32} {r : List Value} {f : Nat → Int32} (hn : n ≤ 60) (ho : ai_obj S 432 11 = some (.int T :: .ref x1 :: .ref x2 :: .int D :: .int (Int32.ofNat n) :: .ref 435 :: r)) (hc : ai_arr S 435 0 = some (60, f)) : ai_rn L xs (d + 2) 100 [.ref 432, .long J] S (fun v S' => (60 < n + wr_c (by_M J) 8 → v = some (.int 0) ∧ S' = md_put S x1 x2 D r n f) ∧ (n + wr_c (by_M J) 8 ≤ 60 → v = some (.int 1) ∧ S' = md_put S x1 x2 D r (n + wr_c (by_M J) 8) (wr_f (by_M J) n f 8))) := by
  have hl : 435 < S.1 := (ai_arr_inv hc).1
  refine ai_rn_of (M := ai_m100) rfl (by decide) (Nat.le_of_ble_eq_true rfl) ?_
  refine aw_loc at_100_0 rfl rfl ?_
  refine aw_pure at_100_1 rfl rfl ?_
  refine aw_put at_100_2 rfl fl_12_68 ho (Nat.succ_pos _) rfl (by decide +kernel) ?_
  change ai_aw L xs (d + 1) ai_m100 _ (5, _, _, ai_wr S 432 (.inr (11, .int 0 :: .ref x1 :: .ref x2 :: .int D :: .int (Int32.ofNat n) :: .ref 435 :: r)))
  rw [md_self (T := T) hc]
  have ho1 := md_obj (S := S) (x1 := x1) (x2 := x2) (D := D) (r := r) (n := n) (f := f) hl
  refine aw_pure at_100_5 rfl rfl ?_
  refine aw_loc at_100_6 rfl rfl ?_
  refine aw_pure at_100_7 rfl rfl ?_
  refine aw_loc at_100_8 rfl rfl ?_
  refine r_wri1 8 0 rfl ?_
  refine aw_loc at_100_40 rfl rfl ?_
  refine aw_get at_100_41 rfl fl_12_85 ho1 rfl ?_
  refine aw_loc at_100_44 rfl rfl ?_
  refine aw_pure at_100_45 rfl rfl ?_
  refine aw_pure at_100_46 rfl rfl ?_
  have h8 := wr_c_le (by_M J) 8
  rw [← Int32.ofNat_add]
  refine aw_icmp at_100_48 (fun z => ?_) (fun z => ?_)
  · have hle : n + wr_c (by_M J) 8 ≤ 60 := (i32_le (by omega) (by decide)).mp z
    show ai_aw L xs _ ai_m100 _ (53, _, _, _)
    refine aw_pure at_100_53 rfl rfl ?_
    refine aw_loc at_100_54 rfl rfl ?_
    refine r_wri2 (n := n) (f := f) hle hl 8 0 rfl ?_
    refine aw_pure at_100_103 rfl rfl ?_
    exact aw_ret at_100_104 rfl rfl ⟨_, _, rfl, fun z9 => absurd z9 (by omega), fun _ => ⟨rfl, rfl⟩⟩
  · have hgt : 60 < n + wr_c (by_M J) 8 := by
      have := mt (i32_le (a := n + wr_c (by_M J) 8) (b := 60) (by omega) (by decide)).mpr z
      omega
    refine aw_pure at_100_51 rfl rfl ?_
    exact aw_ret at_100_52 rfl rfl ⟨_, _, rfl, fun _ => ⟨rfl, rfl⟩, fun z9 => absurd z9 (by omega)⟩
end WR
end
section
/-! The first call on a fresh object. -/
section FI
variable {L : Nat} {xs : Nat → Int32} {S : ai_S}
theorem prs_wr {fs : List Value} (h : ai_prs S) : ai_prs (ai_wr S 432 (.inr (11, fs))) := by
  obtain ⟨⟨f1, h1⟩, ⟨f2, h2⟩, f3, h3⟩ := h
  exact ⟨⟨f1, (ai_obj_wr (by decide)).trans h1⟩, ⟨fs, ai_obj_wrS (ai_obj_inv h2).1⟩, f3, (ai_arrJ_wr (by decide)).trans h3⟩
theorem prs_off {a : Nat} {x : ai_C} (h : ai_prs S) (h0 : 0 ≠ a) (h1 : 432 ≠ a) (h2 : 452 ≠ a) : ai_prs (ai_wr S a x) := by
  obtain ⟨⟨f1, g1⟩, ⟨f2, g2⟩, f3, g3⟩ := h
  exact ⟨⟨f1, (ai_obj_wr h0).trans g1⟩, ⟨f2, (ai_obj_wr h1).trans g2⟩, f3, (ai_arrJ_wr h2).trans g3⟩
theorem prs_th (h : ai_prs S) : ai_prs (ai_th S) := h
theorem rm_wr {a : Nat} {x : ai_C} (h : p1_rm S) : p1_rm (ai_wr S a x) := h
theorem fr_0 : ai_fo.find? (fun q => decide (q.1 = 0)) = some (0, 0, [.ref 1, .ref 4, .ref 6, .ref 11]) := by decide +kernel
theorem fr_4 : ai_fo.find? (fun q => decide (q.1 = 4)) = some (4, 2, [.ref 5, .int 0]) := by decide +kernel
theorem fr_11 : ai_fo.find? (fun q => decide (q.1 = 11)) = some (11, 5, [.ref 12, .ref 84, .ref 326, .ref 412, .ref 417, .ref 425, .ref 398, .ref 400, .ref 405, .ref 410, .int 0, .int 0]) := by decide +kernel
theorem fr_12 : ai_fo.find? (fun q => decide (q.1 = 12)) = some (12, 6, [.ref 13, .int 0]) := by decide +kernel
theorem fr_84 : ai_fo.find? (fun q => decide (q.1 = 84)) = some (84, 6, [.ref 85, .int 0]) := by decide +kernel
theorem fr_432 : ai_fo.find? (fun q => decide (q.1 = 432)) = some (432, 11, [.int 0, .ref 433, .ref 434, .int 0, .int 0, .ref 435, .int 0, .ref 436, .ref 437, .ref 438, .int 0, .int 0, .ref 439, .ref 440, .ref 441, .int 0, .int 0, .ref 442, .ref 443, .ref 444, .ref 445, .ref 446, .ref 447, .ref 448, .ref 449, .ref 450, .ref 451]) := by decide +kernel
theorem fr_5 : ai_fa.find? (fun q => decide (q.1 = 5)) = some (5, 1, 60, 0) := by decide +kernel
theorem fr_435 : ai_fa.find? (fun q => decide (q.1 = 435)) = some (435, 0, 60, 0) := by decide +kernel
theorem fr_obj {a c : Nat} {fs : List Value} (h : ai_frc S = true) (hf : ai_fo.find? (fun q => decide (q.1 = a)) = some (a, c, fs)) (hl : a < 453) : ai_obj S a c = some fs := by
  obtain ⟨h1, -, -, h4, -⟩ := ai_frc_all h
  exact ai_obj_of (h4 _ (List.mem_of_find?_eq_some hf)) (by rw [h1]; exact hl)
theorem fr_arr {a t n : Nat} {v : Int32} (h : ai_frc S = true) (hf : ai_fa.find? (fun q => decide (q.1 = a)) = some (a, t, n, v)) (hl : a < 453) : ∃ f, ai_arr S a t = some (n, f) ∧ ∀ j, j < n → f j = v := by
  obtain ⟨h1, -, -, -, h5, -⟩ := ai_frc_all h
  obtain ⟨f, hf1, hf2⟩ := h5 _ (List.mem_of_find?_eq_some hf)
  exact ⟨f, ai_arr_of hf1 (by rw [h1]; exact hl), hf2⟩
theorem chr_range (x : Int32) : 0 ≤ (ai_chr x).toInt ∧ (ai_chr x).toInt < 65536 := by
  have h : (x.toUInt32 % 65536).toNat < 65536 := by
    rw [UInt32.toNat_mod]
    exact Nat.mod_lt _ (by decide)
  have h2 : (ai_chr x).toInt = (x.toUInt32 % 65536).toNat := by
    unfold ai_chr
    rw [← Int32.toInt_toBitVec, UInt32.toBitVec_toInt32, BitVec.toInt_eq_toNat_of_lt (by rw [UInt32.toNat_toBitVec]; omega), UInt32.toNat_toBitVec]
  rw [h2]
  omega
theorem i32_is {y : Int32} {lo hi : Nat} (h1 : (lo : Int) ≤ y.toInt) (h2 : y.toInt < hi) : ∃ n : Nat, n < hi - lo ∧ y = Int32.ofNat (lo + n) := by
  have h3 := y.toInt_lt
  refine ⟨y.toInt.toNat - lo, by omega, ?_⟩
  apply Int32.toInt_inj.mp
  rw [Int32.toInt_ofNat_of_lt (by omega)]
  omega
theorem i32_not {a b : Int32} (h : ¬ a < b) : b.toInt ≤ a.toInt := by
  rw [Int32.lt_iff_toInt_lt] at h
  omega
theorem p1_declare (hck : ck_all S = true) (hp : ai_prs S) (hrm : p1_rm S) (hr : p1_rm (ai_th S)) {r : List Value} (hm : ai_obj S 432 11 = some (.int 0 :: r)) (c p : Int32) (hc : 0 ≤ c.toInt ∧ c.toInt < 65536) : ai_opD L xs 12 [.ref 0, .int c, .int p] [.ref 432, .int c, .int p] p1_rm S := by
  by_cases hb : c < 97 ∨ 104 < c ∨ p < 0 ∨ 2 < p
  · refine (r_h_declare_bad (d := 10) hb hp.1).mono ?_
    rintro v S1 ⟨rfl, rfl⟩
    have hl := (ai_obj_inv hm).1
    refine ⟨prs_th hp, (r_m_declare_bad (d := 10) (S := ai_th S) hc hb hm hl).mono ?_⟩
    rintro w S2 ⟨rfl, rfl⟩
    have hm2 : ai_obj (ai_wr (ai_th S) 432 (.inr (11, .int 1 :: r))) 432 11 = some (.int 1 :: r) := ai_obj_wrS hl
    refine ⟨prs_wr (prs_th hp), (r_thrown (d := 11) hm2).mono ?_⟩
    rintro u S3 ⟨rfl, rfl⟩
    exact ⟨prs_wr (prs_th hp), 1, rfl, rfl, rfl, hr⟩
  · have h1 := i32_not (fun z => hb (Or.inl z))
    have h2 := i32_not (fun z => hb (Or.inr (Or.inl z)))
    have h3 := i32_not (fun z => hb (Or.inr (Or.inr (Or.inl z))))
    have h4 := i32_not (fun z => hb (Or.inr (Or.inr (Or.inr z))))
    rw [show (97 : Int32).toInt = 97 from rfl] at h1
    rw [show (104 : Int32).toInt = 104 from rfl] at h2
    rw [show (0 : Int32).toInt = 0 from rfl] at h3
    rw [show (2 : Int32).toInt = 2 from rfl] at h4
    obtain ⟨i, hi, rfl⟩ := i32_is (lo := 97) (hi := 105) h1 (by omega)
    obtain ⟨j, hj, rfl⟩ := i32_is (lo := 0) (hi := 3) h3 (by omega)
    rw [Nat.zero_add]
    unfold ck_all at hck
    simp only [Bool.and_eq_true, List.all_eq_true, List.mem_range] at hck
    exact ck_opD_ok (hck.2 i (by omega) j (by omega))
theorem p1_complete (hck : ck_all S = true) (hp : ai_prs S) (hr : p1_rm (ai_th S)) {r : List Value} (hm : ai_obj S 432 11 = some (.int 0 :: r)) (c : Int32) : ai_opT L xs 12 93 112 [.ref 0, .int c, .ref 452] [.ref 432, .int c] p1_rm S := by
  by_cases hb : c < 0 ∨ 20 < c
  · refine (r_h_complete_bad (d := 10) hb hp.1).mono ?_
    rintro v S1 ⟨rfl, rfl⟩
    have hl := (ai_obj_inv hm).1
    refine ⟨prs_th hp, (r_m_complete_bad (d := 10) (S := ai_th S) hb hm hl).mono ?_⟩
    rintro w S2 ⟨rfl, rfl⟩
    have hm2 : ai_obj (ai_wr (ai_th S) 432 (.inr (11, .int 1 :: r))) 432 11 = some (.int 1 :: r) := ai_obj_wrS hl
    refine ⟨prs_wr (prs_th hp), (r_thrown (d := 11) hm2).mono ?_⟩
    rintro u S3 ⟨rfl, rfl⟩
    exact ⟨prs_wr (prs_th hp), 1, 0, rfl, rfl, rfl, fun z => absurd z (by decide), hr⟩
  · have h1 := i32_not (fun z => hb (Or.inl z))
    have h2 := i32_not (fun z => hb (Or.inr z))
    rw [show (0 : Int32).toInt = 0 from rfl] at h1
    rw [show (20 : Int32).toInt = 20 from rfl] at h2
    obtain ⟨i, hi, rfl⟩ := i32_is (lo := 0) (hi := 21) h1 (by omega)
    rw [Nat.zero_add]
    unfold ck_all at hck
    simp only [Bool.and_eq_true, List.all_eq_true, List.mem_range] at hck
    obtain ⟨⟨⟨⟨⟨⟨⟨⟨⟨-, -⟩, h⟩, -⟩, -⟩, -⟩, -⟩, -⟩, -⟩, -⟩ := hck
    exact ck_opT_ok (h i (by omega))
theorem p1_op (hf : ai_frc S = true) (hck : ck_all S = true) (n A B : Int32) : ai_op L xs 12 n A B p1_rm S := by
  have hp := ai_prs_of hf
  obtain ⟨n1, n2, n3, -⟩ := ai_frc_all hf
  have hrm : p1_rm S := by unfold p1_rm; rw [n2, n3]; decide
  have hr : p1_rm (ai_th S) := by
    show S.2.1 + 1 ≤ _ ∧ S.2.2.1 + 6 ≤ _
    rw [n2, n3]; decide
  have h0 := fr_obj hf fr_0 (by decide)
  have hd := fr_obj hf fr_4 (by decide)
  have he := fr_obj hf fr_11 (by decide)
  have h12 := fr_obj hf fr_12 (by decide)
  have h84 := fr_obj hf fr_84 (by decide)
  have hm := fr_obj hf fr_432 (by decide)
  obtain ⟨f5, h5, -⟩ := fr_arr hf fr_5 (by decide)
  obtain ⟨f435, h435, -⟩ := fr_arr hf fr_435 (by decide)
  have hl : 432 < S.1 := by rw [n1]; decide
  have hck' := hck
  unfold ck_all at hck'
  simp only [Bool.and_eq_true] at hck'
  obtain ⟨⟨⟨⟨⟨⟨⟨⟨⟨c2, c3⟩, -⟩, c5⟩, c6⟩, c7⟩, c10⟩, c11⟩, c13⟩, -⟩ := hck'
  refine ⟨fun _ => p1_declare hck hp hrm hr hm _ _ (chr_range A), fun _ => ?_, fun _ => ck_opN_ok c2, fun _ => ck_opT_ok c3, fun _ => p1_complete hck hp hr hm A, fun _ => ck_opV_ok c5, fun _ => ck_opV_ok c6, fun _ => ck_opV_ok c7, fun _ => ?_, fun _ => ?_, fun _ => ck_opT_ok c10, fun _ => ck_opT_ok c11, fun _ => ?_, fun _ => ck_opN_ok c13, fun _ => hrm⟩
  · refine (r_write (d := 9) (n := 0) (by decide) h0 hd h5).mono ?_
    rintro v S1 ⟨-, h1⟩
    have h8 := wr_c_le (by_C (ai_lng A B)) 8
    obtain ⟨rfl, rfl⟩ := h1 (by omega)
    have hp1 : ai_prs (dr_put S (0 + wr_c (by_C (ai_lng A B)) 8) (wr_f (by_C (ai_lng A B)) 0 f5 8)) := prs_off (prs_off hp (by decide) (by decide) (by decide)) (by decide) (by decide) (by decide)
    refine ⟨hp1, (r_m_write (d := 10) (n := 0) (by decide) ((ai_obj_wr (by decide)).trans ((ai_obj_wr (by decide)).trans hm)) ((ai_arr_wr (by decide)).trans ((ai_arr_wr (by decide)).trans h435))).mono ?_⟩
    rintro w S2 ⟨-, h2⟩
    have h8 := wr_c_le (by_M (ai_lng A B)) 8
    obtain ⟨rfl, rfl⟩ := h2 (by omega)
    exact ⟨prs_wr (prs_off hp1 (by decide) (by decide) (by decide)), 1, rfl, rfl, hrm⟩
  · refine (r_rule0 (d := 10) h0 he h12).mono ?_
    rintro v S1 ⟨rfl, rfl⟩
    refine ⟨hp, (r_m_rule0 (d := 11) hm hl rfl).mono ?_⟩
    rintro w S2 ⟨rfl, rfl⟩
    exact ⟨prs_wr hp, 0, rfl, rfl, hrm⟩
  · refine (r_eqAt0 (d := 10) h0 he h84).mono ?_
    rintro v S1 ⟨rfl, rfl⟩
    refine ⟨hp, (r_m_eqAt0 (d := 11) hm hl rfl).mono ?_⟩
    rintro w S2 ⟨rfl, rfl⟩
    exact ⟨prs_wr hp, 0, rfl, rfl, hrm⟩
  · refine (r_draft0 (d := 11) h0 hd).mono ?_
    rintro v S1 ⟨rfl, rfl⟩
    refine ⟨hp, (r_m_draft0 (d := 11) hm hl rfl).mono ?_⟩
    rintro w S2 ⟨rfl, rfl⟩
    exact ⟨prs_wr hp, 0, rfl, rfl, hrm⟩
def p1_I : Nat → ai_S → Prop
  | 0, S => ∃ q, ai_pre = some q ∧ S = ai_last q.2 ∧ ai_frc S = true
  | _ + 1, S => p1_rm S
theorem p1_law (hL : L ≤ 3) : ai_Law L xs := by
  refine lw_law (I := p1_I) (by omega) (fun q hq hf => ⟨q, hq, rfl, hf⟩) ?_ ?_
  · intro t S ht hp hI
    have h0 : t = 0 := by omega
    subst h0
    obtain ⟨q, hq, rfl, hf⟩ := hI
    have hc := ck_fresh
    rw [hq] at hc
    exact p1_op hf hc _ _ _
  · intro t S ht hI
    cases t with
    | zero =>
      obtain ⟨q, hq, rfl, hf⟩ := hI
      obtain ⟨-, n2, n3, -⟩ := ai_frc_all hf
      rw [n2, n3]
      decide
    | succ t => exact ⟨Nat.le_trans hI.1 (by decide), Nat.le_trans hI.2 (by decide)⟩
end FI
theorem i_vc : Claimed_1_1 ∧ Claimed_1_2 := i_vc_open (fun _ _ hL => p1_law hL)
end

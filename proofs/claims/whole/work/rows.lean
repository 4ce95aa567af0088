section
-- ===== PART A: goes FIRST, ahead of the names: the tables' words, and 'selects' of the private methods out of them =====
/-- a private method of a class that the tables say can be made, by its rows of tables_1 -/
def lw_okq (q : MethodName × Nat) : Prop := (q.1.cls ≠ "java/lang/invoke/MethodHandle" ∧ q.1.cls ≠ "java/lang/invoke/VarHandle") ∧ Cond.instantiable q.1.cls q.2 ∈ tables_1 ∧ Cond.privateMethod q.1 ∈ tables_1 ∧ Cond.instanceMethod q.1 ∈ tables_1
theorem lw_p0 : lw_okq (⟨"GraftRules", "readText", "()I"⟩, 12) := ⟨⟨by decide +kernel, by decide +kernel⟩, List.mem_of_getElem? (i := 15) (by decide +kernel), List.mem_of_getElem? (i := 243) (by decide +kernel), List.mem_of_getElem? (i := 244) (by decide +kernel)⟩
theorem lw_p1 : lw_okq (⟨"GraftRules$History", "slotAt", "(I)LGraftRules$State;"⟩, 3) := ⟨⟨by decide +kernel, by decide +kernel⟩, List.mem_of_getElem? (i := 61) (by decide +kernel), List.mem_of_getElem? (i := 262) (by decide +kernel), List.mem_of_getElem? (i := 263) (by decide +kernel)⟩
theorem lw_p2 : lw_okq (⟨"GraftRules$Judge", "judgeOne", "(ILGraftRules$Rules;)V"⟩, 5) := ⟨⟨by decide +kernel, by decide +kernel⟩, List.mem_of_getElem? (i := 100) (by decide +kernel), List.mem_of_getElem? (i := 315) (by decide +kernel), List.mem_of_getElem? (i := 316) (by decide +kernel)⟩
theorem lw_p3 : lw_okq (⟨"GraftRules$Tree", "rebuild", "(II)V"⟩, 4) := ⟨⟨by decide +kernel, by decide +kernel⟩, List.mem_of_getElem? (i := 106) (by decide +kernel), List.mem_of_getElem? (i := 364) (by decide +kernel), List.mem_of_getElem? (i := 365) (by decide +kernel)⟩
theorem lw_p4 : lw_okq (⟨"GraftRules", "madePlain", "(I)I"⟩, 12) := ⟨⟨by decide +kernel, by decide +kernel⟩, List.mem_of_getElem? (i := 15) (by decide +kernel), List.mem_of_getElem? (i := 433) (by decide +kernel), List.mem_of_getElem? (i := 434) (by decide +kernel)⟩
theorem lw_p5 : lw_okq (⟨"GraftRules$Tree", "handDown", "(II)V"⟩, 4) := ⟨⟨by decide +kernel, by decide +kernel⟩, List.mem_of_getElem? (i := 106) (by decide +kernel), List.mem_of_getElem? (i := 443) (by decide +kernel), List.mem_of_getElem? (i := 444) (by decide +kernel)⟩
theorem lw_p6 : lw_okq (⟨"GraftRules$Series", "countRooted", "(IILGraftRules$Rules;)J"⟩, 4) := ⟨⟨by decide +kernel, by decide +kernel⟩, List.mem_of_getElem? (i := 146) (by decide +kernel), List.mem_of_getElem? (i := 483) (by decide +kernel), List.mem_of_getElem? (i := 484) (by decide +kernel)⟩
theorem lw_p7 : lw_okq (⟨"GraftRules$Series", "countBranches", "(IIILGraftRules$Rules;)J"⟩, 4) := ⟨⟨by decide +kernel, by decide +kernel⟩, List.mem_of_getElem? (i := 146) (by decide +kernel), List.mem_of_getElem? (i := 487) (by decide +kernel), List.mem_of_getElem? (i := 488) (by decide +kernel)⟩
theorem lw_p8 : lw_okq (⟨"GraftRules$Series", "raisePower", "()V"⟩, 4) := ⟨⟨by decide +kernel, by decide +kernel⟩, List.mem_of_getElem? (i := 146) (by decide +kernel), List.mem_of_getElem? (i := 506) (by decide +kernel), List.mem_of_getElem? (i := 507) (by decide +kernel)⟩
theorem lw_p9 : lw_okq (⟨"GraftRules", "drawTree", "()V"⟩, 12) := ⟨⟨by decide +kernel, by decide +kernel⟩, List.mem_of_getElem? (i := 15) (by decide +kernel), List.mem_of_getElem? (i := 589) (by decide +kernel), List.mem_of_getElem? (i := 590) (by decide +kernel)⟩
theorem lw_p10 : lw_okq (⟨"GraftRules", "draw", "(I)I"⟩, 12) := ⟨⟨by decide +kernel, by decide +kernel⟩, List.mem_of_getElem? (i := 15) (by decide +kernel), List.mem_of_getElem? (i := 593) (by decide +kernel), List.mem_of_getElem? (i := 594) (by decide +kernel)⟩
theorem lw_p11 : lw_okq (⟨"GraftRules", "imageAt", "(I)LGraftRules$Image;"⟩, 12) := ⟨⟨by decide +kernel, by decide +kernel⟩, List.mem_of_getElem? (i := 15) (by decide +kernel), List.mem_of_getElem? (i := 644) (by decide +kernel), List.mem_of_getElem? (i := 645) (by decide +kernel)⟩
theorem lw_p12 : lw_okq (⟨"GraftRulesModel", "countPlains", "()V"⟩, 22) := ⟨⟨by decide +kernel, by decide +kernel⟩, List.mem_of_getElem? (i := 657) (by decide +kernel), List.mem_of_getElem? (i := 738) (by decide +kernel), List.mem_of_getElem? (i := 739) (by decide +kernel)⟩
theorem lw_p13 : lw_okq (⟨"GraftRulesModel", "mayStand", "(III)J"⟩, 22) := ⟨⟨by decide +kernel, by decide +kernel⟩, List.mem_of_getElem? (i := 657) (by decide +kernel), List.mem_of_getElem? (i := 742) (by decide +kernel), List.mem_of_getElem? (i := 743) (by decide +kernel)⟩
theorem lw_p14 : lw_okq (⟨"GraftRulesModel", "plainOf", "(I)J"⟩, 22) := ⟨⟨by decide +kernel, by decide +kernel⟩, List.mem_of_getElem? (i := 657) (by decide +kernel), List.mem_of_getElem? (i := 746) (by decide +kernel), List.mem_of_getElem? (i := 747) (by decide +kernel)⟩
theorem lw_p15 : lw_okq (⟨"GraftRulesModel", "undoSeries", "()V"⟩, 22) := ⟨⟨by decide +kernel, by decide +kernel⟩, List.mem_of_getElem? (i := 657) (by decide +kernel), List.mem_of_getElem? (i := 754) (by decide +kernel), List.mem_of_getElem? (i := 755) (by decide +kernel)⟩
def lw_privs_1 : List (MethodName × Nat) := [(⟨"GraftRules", "readText", "()I"⟩, 12), (⟨"GraftRules$History", "slotAt", "(I)LGraftRules$State;"⟩, 3), (⟨"GraftRules$Judge", "judgeOne", "(ILGraftRules$Rules;)V"⟩, 5), (⟨"GraftRules$Tree", "rebuild", "(II)V"⟩, 4), (⟨"GraftRules", "madePlain", "(I)I"⟩, 12), (⟨"GraftRules$Tree", "handDown", "(II)V"⟩, 4), (⟨"GraftRules$Series", "countRooted", "(IILGraftRules$Rules;)J"⟩, 4), (⟨"GraftRules$Series", "countBranches", "(IIILGraftRules$Rules;)J"⟩, 4), (⟨"GraftRules$Series", "raisePower", "()V"⟩, 4), (⟨"GraftRules", "drawTree", "()V"⟩, 12), (⟨"GraftRules", "draw", "(I)I"⟩, 12), (⟨"GraftRules", "imageAt", "(I)LGraftRules$Image;"⟩, 12), (⟨"GraftRulesModel", "countPlains", "()V"⟩, 22), (⟨"GraftRulesModel", "mayStand", "(III)J"⟩, 22), (⟨"GraftRulesModel", "plainOf", "(I)J"⟩, 22), (⟨"GraftRulesModel", "undoSeries", "()V"⟩, 22)]
theorem lw_r1 : ∀ q ∈ lw_privs_1, lw_okq q := List.forall_mem_cons.mpr ⟨lw_p0, List.forall_mem_cons.mpr ⟨lw_p1, List.forall_mem_cons.mpr ⟨lw_p2, List.forall_mem_cons.mpr ⟨lw_p3, List.forall_mem_cons.mpr ⟨lw_p4, List.forall_mem_cons.mpr ⟨lw_p5, List.forall_mem_cons.mpr ⟨lw_p6, List.forall_mem_cons.mpr ⟨lw_p7, List.forall_mem_cons.mpr ⟨lw_p8, List.forall_mem_cons.mpr ⟨lw_p9, List.forall_mem_cons.mpr ⟨lw_p10, List.forall_mem_cons.mpr ⟨lw_p11, List.forall_mem_cons.mpr ⟨lw_p12, List.forall_mem_cons.mpr ⟨lw_p13, List.forall_mem_cons.mpr ⟨lw_p14, List.forall_mem_cons.mpr ⟨lw_p15, fun _ h => absurd h List.not_mem_nil⟩⟩⟩⟩⟩⟩⟩⟩⟩⟩⟩⟩⟩⟩⟩⟩
theorem lw_p16 : lw_okq (⟨"GraftRulesModel", "powerUp", "()V"⟩, 22) := ⟨⟨by decide +kernel, by decide +kernel⟩, List.mem_of_getElem? (i := 657) (by decide +kernel), List.mem_of_getElem? (i := 758) (by decide +kernel), List.mem_of_getElem? (i := 759) (by decide +kernel)⟩
theorem lw_p17 : lw_okq (⟨"GraftRulesModel", "read", "()I"⟩, 22) := ⟨⟨by decide +kernel, by decide +kernel⟩, List.mem_of_getElem? (i := 657) (by decide +kernel), List.mem_of_getElem? (i := 772) (by decide +kernel), List.mem_of_getElem? (i := 773) (by decide +kernel)⟩
theorem lw_p18 : lw_okq (⟨"GraftRulesModel", "remember", "()V"⟩, 22) := ⟨⟨by decide +kernel, by decide +kernel⟩, List.mem_of_getElem? (i := 657) (by decide +kernel), List.mem_of_getElem? (i := 776) (by decide +kernel), List.mem_of_getElem? (i := 777) (by decide +kernel)⟩
theorem lw_p19 : lw_okq (⟨"GraftRulesModel", "copyRow", "(II)V"⟩, 22) := ⟨⟨by decide +kernel, by decide +kernel⟩, List.mem_of_getElem? (i := 657) (by decide +kernel), List.mem_of_getElem? (i := 780) (by decide +kernel), List.mem_of_getElem? (i := 781) (by decide +kernel)⟩
theorem lw_p20 : lw_okq (⟨"GraftRulesModel", "shelve", "()I"⟩, 22) := ⟨⟨by decide +kernel, by decide +kernel⟩, List.mem_of_getElem? (i := 657) (by decide +kernel), List.mem_of_getElem? (i := 784) (by decide +kernel), List.mem_of_getElem? (i := 785) (by decide +kernel)⟩
theorem lw_p21 : lw_okq (⟨"GraftRulesModel", "lay", "(I)V"⟩, 22) := ⟨⟨by decide +kernel, by decide +kernel⟩, List.mem_of_getElem? (i := 657) (by decide +kernel), List.mem_of_getElem? (i := 788) (by decide +kernel), List.mem_of_getElem? (i := 789) (by decide +kernel)⟩
theorem lw_p22 : lw_okq (⟨"GraftRulesModel", "code", "()I"⟩, 22) := ⟨⟨by decide +kernel, by decide +kernel⟩, List.mem_of_getElem? (i := 657) (by decide +kernel), List.mem_of_getElem? (i := 792) (by decide +kernel), List.mem_of_getElem? (i := 793) (by decide +kernel)⟩
theorem lw_p23 : lw_okq (⟨"GraftRulesModel", "criticals", "()I"⟩, 22) := ⟨⟨by decide +kernel, by decide +kernel⟩, List.mem_of_getElem? (i := 657) (by decide +kernel), List.mem_of_getElem? (i := 804) (by decide +kernel), List.mem_of_getElem? (i := 805) (by decide +kernel)⟩
theorem lw_p24 : lw_okq (⟨"GraftRulesModel", "isCritical", "(I)Z"⟩, 22) := ⟨⟨by decide +kernel, by decide +kernel⟩, List.mem_of_getElem? (i := 657) (by decide +kernel), List.mem_of_getElem? (i := 808) (by decide +kernel), List.mem_of_getElem? (i := 809) (by decide +kernel)⟩
theorem lw_p25 : lw_okq (⟨"GraftRulesModel", "open", "(II)V"⟩, 22) := ⟨⟨by decide +kernel, by decide +kernel⟩, List.mem_of_getElem? (i := 657) (by decide +kernel), List.mem_of_getElem? (i := 812) (by decide +kernel), List.mem_of_getElem? (i := 813) (by decide +kernel)⟩
theorem lw_p26 : lw_okq (⟨"GraftRulesModel", "isTreeWord", "()Z"⟩, 22) := ⟨⟨by decide +kernel, by decide +kernel⟩, List.mem_of_getElem? (i := 657) (by decide +kernel), List.mem_of_getElem? (i := 816) (by decide +kernel), List.mem_of_getElem? (i := 817) (by decide +kernel)⟩
theorem lw_p27 : lw_okq (⟨"GraftRulesModel", "places", "()I"⟩, 22) := ⟨⟨by decide +kernel, by decide +kernel⟩, List.mem_of_getElem? (i := 657) (by decide +kernel), List.mem_of_getElem? (i := 820) (by decide +kernel), List.mem_of_getElem? (i := 821) (by decide +kernel)⟩
theorem lw_p28 : lw_okq (⟨"GraftRulesModel", "isPlace", "(II)Z"⟩, 22) := ⟨⟨by decide +kernel, by decide +kernel⟩, List.mem_of_getElem? (i := 657) (by decide +kernel), List.mem_of_getElem? (i := 824) (by decide +kernel), List.mem_of_getElem? (i := 825) (by decide +kernel)⟩
theorem lw_p29 : lw_okq (⟨"GraftRulesModel", "patternAt", "(II)I"⟩, 22) := ⟨⟨by decide +kernel, by decide +kernel⟩, List.mem_of_getElem? (i := 657) (by decide +kernel), List.mem_of_getElem? (i := 828) (by decide +kernel), List.mem_of_getElem? (i := 829) (by decide +kernel)⟩
theorem lw_p30 : lw_okq (⟨"GraftRulesModel", "branchOf", "(II)I"⟩, 22) := ⟨⟨by decide +kernel, by decide +kernel⟩, List.mem_of_getElem? (i := 657) (by decide +kernel), List.mem_of_getElem? (i := 832) (by decide +kernel), List.mem_of_getElem? (i := 833) (by decide +kernel)⟩
theorem lw_p31 : lw_okq (⟨"GraftRulesModel", "behind", "(I)I"⟩, 22) := ⟨⟨by decide +kernel, by decide +kernel⟩, List.mem_of_getElem? (i := 657) (by decide +kernel), List.mem_of_getElem? (i := 836) (by decide +kernel), List.mem_of_getElem? (i := 837) (by decide +kernel)⟩
def lw_privs_2 : List (MethodName × Nat) := [(⟨"GraftRulesModel", "powerUp", "()V"⟩, 22), (⟨"GraftRulesModel", "read", "()I"⟩, 22), (⟨"GraftRulesModel", "remember", "()V"⟩, 22), (⟨"GraftRulesModel", "copyRow", "(II)V"⟩, 22), (⟨"GraftRulesModel", "shelve", "()I"⟩, 22), (⟨"GraftRulesModel", "lay", "(I)V"⟩, 22), (⟨"GraftRulesModel", "code", "()I"⟩, 22), (⟨"GraftRulesModel", "criticals", "()I"⟩, 22), (⟨"GraftRulesModel", "isCritical", "(I)Z"⟩, 22), (⟨"GraftRulesModel", "open", "(II)V"⟩, 22), (⟨"GraftRulesModel", "isTreeWord", "()Z"⟩, 22), (⟨"GraftRulesModel", "places", "()I"⟩, 22), (⟨"GraftRulesModel", "isPlace", "(II)Z"⟩, 22), (⟨"GraftRulesModel", "patternAt", "(II)I"⟩, 22), (⟨"GraftRulesModel", "branchOf", "(II)I"⟩, 22), (⟨"GraftRulesModel", "behind", "(I)I"⟩, 22)]
theorem lw_r2 : ∀ q ∈ lw_privs_2, lw_okq q := List.forall_mem_cons.mpr ⟨lw_p16, List.forall_mem_cons.mpr ⟨lw_p17, List.forall_mem_cons.mpr ⟨lw_p18, List.forall_mem_cons.mpr ⟨lw_p19, List.forall_mem_cons.mpr ⟨lw_p20, List.forall_mem_cons.mpr ⟨lw_p21, List.forall_mem_cons.mpr ⟨lw_p22, List.forall_mem_cons.mpr ⟨lw_p23, List.forall_mem_cons.mpr ⟨lw_p24, List.forall_mem_cons.mpr ⟨lw_p25, List.forall_mem_cons.mpr ⟨lw_p26, List.forall_mem_cons.mpr ⟨lw_p27, List.forall_mem_cons.mpr ⟨lw_p28, List.forall_mem_cons.mpr ⟨lw_p29, List.forall_mem_cons.mpr ⟨lw_p30, List.forall_mem_cons.mpr ⟨lw_p31, fun _ h => absurd h List.not_mem_nil⟩⟩⟩⟩⟩⟩⟩⟩⟩⟩⟩⟩⟩⟩⟩⟩
theorem lw_p32 : lw_okq (⟨"GraftRulesModel", "bads", "()I"⟩, 22) := ⟨⟨by decide +kernel, by decide +kernel⟩, List.mem_of_getElem? (i := 657) (by decide +kernel), List.mem_of_getElem? (i := 840) (by decide +kernel), List.mem_of_getElem? (i := 841) (by decide +kernel)⟩
theorem lw_p33 : lw_okq (⟨"GraftRulesModel", "isBad", "(I)Z"⟩, 22) := ⟨⟨by decide +kernel, by decide +kernel⟩, List.mem_of_getElem? (i := 657) (by decide +kernel), List.mem_of_getElem? (i := 844) (by decide +kernel), List.mem_of_getElem? (i := 845) (by decide +kernel)⟩
theorem lw_p34 : lw_okq (⟨"GraftRulesModel", "placeAt", "(I)I"⟩, 22) := ⟨⟨by decide +kernel, by decide +kernel⟩, List.mem_of_getElem? (i := 657) (by decide +kernel), List.mem_of_getElem? (i := 848) (by decide +kernel), List.mem_of_getElem? (i := 849) (by decide +kernel)⟩
theorem lw_p35 : lw_okq (⟨"GraftRulesModel", "stepAt", "(I)V"⟩, 22) := ⟨⟨by decide +kernel, by decide +kernel⟩, List.mem_of_getElem? (i := 657) (by decide +kernel), List.mem_of_getElem? (i := 852) (by decide +kernel), List.mem_of_getElem? (i := 853) (by decide +kernel)⟩
theorem lw_p36 : lw_okq (⟨"GraftRulesModel", "copyOther", "(II)V"⟩, 22) := ⟨⟨by decide +kernel, by decide +kernel⟩, List.mem_of_getElem? (i := 657) (by decide +kernel), List.mem_of_getElem? (i := 856) (by decide +kernel), List.mem_of_getElem? (i := 857) (by decide +kernel)⟩
theorem lw_p37 : lw_okq (⟨"GraftRulesModel", "addOther", "(I)V"⟩, 22) := ⟨⟨by decide +kernel, by decide +kernel⟩, List.mem_of_getElem? (i := 657) (by decide +kernel), List.mem_of_getElem? (i := 860) (by decide +kernel), List.mem_of_getElem? (i := 861) (by decide +kernel)⟩
theorem lw_p38 : lw_okq (⟨"GraftRulesModel", "takeOther", "()V"⟩, 22) := ⟨⟨by decide +kernel, by decide +kernel⟩, List.mem_of_getElem? (i := 657) (by decide +kernel), List.mem_of_getElem? (i := 864) (by decide +kernel), List.mem_of_getElem? (i := 865) (by decide +kernel)⟩
theorem lw_p39 : lw_okq (⟨"GraftRulesModel", "makePlain", "()I"⟩, 22) := ⟨⟨by decide +kernel, by decide +kernel⟩, List.mem_of_getElem? (i := 657) (by decide +kernel), List.mem_of_getElem? (i := 868) (by decide +kernel), List.mem_of_getElem? (i := 869) (by decide +kernel)⟩
theorem lw_p40 : lw_okq (⟨"GraftRulesModel", "firstBad", "()I"⟩, 22) := ⟨⟨by decide +kernel, by decide +kernel⟩, List.mem_of_getElem? (i := 657) (by decide +kernel), List.mem_of_getElem? (i := 872) (by decide +kernel), List.mem_of_getElem? (i := 873) (by decide +kernel)⟩
theorem lw_p41 : lw_okq (⟨"GraftRulesModel", "isOwnDual", "()Z"⟩, 22) := ⟨⟨by decide +kernel, by decide +kernel⟩, List.mem_of_getElem? (i := 657) (by decide +kernel), List.mem_of_getElem? (i := 876) (by decide +kernel), List.mem_of_getElem? (i := 877) (by decide +kernel)⟩
theorem lw_p42 : lw_okq (⟨"GraftRulesModel", "dualOf", "(I)I"⟩, 22) := ⟨⟨by decide +kernel, by decide +kernel⟩, List.mem_of_getElem? (i := 657) (by decide +kernel), List.mem_of_getElem? (i := 880) (by decide +kernel), List.mem_of_getElem? (i := 881) (by decide +kernel)⟩
theorem lw_p43 : lw_okq (⟨"GraftRulesModel", "comesFrom", "(I)I"⟩, 22) := ⟨⟨by decide +kernel, by decide +kernel⟩, List.mem_of_getElem? (i := 657) (by decide +kernel), List.mem_of_getElem? (i := 884) (by decide +kernel), List.mem_of_getElem? (i := 885) (by decide +kernel)⟩
theorem lw_p44 : lw_okq (⟨"GraftRulesModel", "wrongEntry", "()I"⟩, 22) := ⟨⟨by decide +kernel, by decide +kernel⟩, List.mem_of_getElem? (i := 657) (by decide +kernel), List.mem_of_getElem? (i := 888) (by decide +kernel), List.mem_of_getElem? (i := 889) (by decide +kernel)⟩
theorem lw_p45 : lw_okq (⟨"GraftRulesModel", "isTree", "(I)Z"⟩, 22) := ⟨⟨by decide +kernel, by decide +kernel⟩, List.mem_of_getElem? (i := 657) (by decide +kernel), List.mem_of_getElem? (i := 892) (by decide +kernel), List.mem_of_getElem? (i := 893) (by decide +kernel)⟩
theorem lw_p46 : lw_okq (⟨"GraftRulesModel", "openTree", "(I)V"⟩, 22) := ⟨⟨by decide +kernel, by decide +kernel⟩, List.mem_of_getElem? (i := 657) (by decide +kernel), List.mem_of_getElem? (i := 901) (by decide +kernel), List.mem_of_getElem? (i := 902) (by decide +kernel)⟩
theorem lw_p47 : lw_okq (⟨"GraftRulesModel", "nodes", "()I"⟩, 22) := ⟨⟨by decide +kernel, by decide +kernel⟩, List.mem_of_getElem? (i := 657) (by decide +kernel), List.mem_of_getElem? (i := 905) (by decide +kernel), List.mem_of_getElem? (i := 906) (by decide +kernel)⟩
def lw_privs_3 : List (MethodName × Nat) := [(⟨"GraftRulesModel", "bads", "()I"⟩, 22), (⟨"GraftRulesModel", "isBad", "(I)Z"⟩, 22), (⟨"GraftRulesModel", "placeAt", "(I)I"⟩, 22), (⟨"GraftRulesModel", "stepAt", "(I)V"⟩, 22), (⟨"GraftRulesModel", "copyOther", "(II)V"⟩, 22), (⟨"GraftRulesModel", "addOther", "(I)V"⟩, 22), (⟨"GraftRulesModel", "takeOther", "()V"⟩, 22), (⟨"GraftRulesModel", "makePlain", "()I"⟩, 22), (⟨"GraftRulesModel", "firstBad", "()I"⟩, 22), (⟨"GraftRulesModel", "isOwnDual", "()Z"⟩, 22), (⟨"GraftRulesModel", "dualOf", "(I)I"⟩, 22), (⟨"GraftRulesModel", "comesFrom", "(I)I"⟩, 22), (⟨"GraftRulesModel", "wrongEntry", "()I"⟩, 22), (⟨"GraftRulesModel", "isTree", "(I)Z"⟩, 22), (⟨"GraftRulesModel", "openTree", "(I)V"⟩, 22), (⟨"GraftRulesModel", "nodes", "()I"⟩, 22)]
theorem lw_r3 : ∀ q ∈ lw_privs_3, lw_okq q := List.forall_mem_cons.mpr ⟨lw_p32, List.forall_mem_cons.mpr ⟨lw_p33, List.forall_mem_cons.mpr ⟨lw_p34, List.forall_mem_cons.mpr ⟨lw_p35, List.forall_mem_cons.mpr ⟨lw_p36, List.forall_mem_cons.mpr ⟨lw_p37, List.forall_mem_cons.mpr ⟨lw_p38, List.forall_mem_cons.mpr ⟨lw_p39, List.forall_mem_cons.mpr ⟨lw_p40, List.forall_mem_cons.mpr ⟨lw_p41, List.forall_mem_cons.mpr ⟨lw_p42, List.forall_mem_cons.mpr ⟨lw_p43, List.forall_mem_cons.mpr ⟨lw_p44, List.forall_mem_cons.mpr ⟨lw_p45, List.forall_mem_cons.mpr ⟨lw_p46, List.forall_mem_cons.mpr ⟨lw_p47, fun _ h => absurd h List.not_mem_nil⟩⟩⟩⟩⟩⟩⟩⟩⟩⟩⟩⟩⟩⟩⟩⟩
theorem lw_p48 : lw_okq (⟨"GraftRulesModel", "ofPlain", "(I)I"⟩, 22) := ⟨⟨by decide +kernel, by decide +kernel⟩, List.mem_of_getElem? (i := 657) (by decide +kernel), List.mem_of_getElem? (i := 909) (by decide +kernel), List.mem_of_getElem? (i := 910) (by decide +kernel)⟩
theorem lw_p49 : lw_okq (⟨"GraftRulesModel", "turnedCode", "()I"⟩, 22) := ⟨⟨by decide +kernel, by decide +kernel⟩, List.mem_of_getElem? (i := 657) (by decide +kernel), List.mem_of_getElem? (i := 913) (by decide +kernel), List.mem_of_getElem? (i := 914) (by decide +kernel)⟩
theorem lw_p50 : lw_okq (⟨"GraftRulesModel", "turn", "()V"⟩, 22) := ⟨⟨by decide +kernel, by decide +kernel⟩, List.mem_of_getElem? (i := 657) (by decide +kernel), List.mem_of_getElem? (i := 917) (by decide +kernel), List.mem_of_getElem? (i := 918) (by decide +kernel)⟩
theorem lw_p51 : lw_okq (⟨"GraftRulesModel", "height", "()I"⟩, 22) := ⟨⟨by decide +kernel, by decide +kernel⟩, List.mem_of_getElem? (i := 657) (by decide +kernel), List.mem_of_getElem? (i := 921) (by decide +kernel), List.mem_of_getElem? (i := 922) (by decide +kernel)⟩
theorem lw_p52 : lw_okq (⟨"GraftRulesModel", "isPattern", "(I)Z"⟩, 22) := ⟨⟨by decide +kernel, by decide +kernel⟩, List.mem_of_getElem? (i := 657) (by decide +kernel), List.mem_of_getElem? (i := 929) (by decide +kernel), List.mem_of_getElem? (i := 930) (by decide +kernel)⟩
theorem lw_p53 : lw_okq (⟨"GraftRulesModel", "leafAt", "(I)I"⟩, 22) := ⟨⟨by decide +kernel, by decide +kernel⟩, List.mem_of_getElem? (i := 657) (by decide +kernel), List.mem_of_getElem? (i := 941) (by decide +kernel), List.mem_of_getElem? (i := 942) (by decide +kernel)⟩
theorem lw_p54 : lw_okq (⟨"GraftRulesModel", "mayBecome", "(II)Z"⟩, 22) := ⟨⟨by decide +kernel, by decide +kernel⟩, List.mem_of_getElem? (i := 657) (by decide +kernel), List.mem_of_getElem? (i := 966) (by decide +kernel), List.mem_of_getElem? (i := 967) (by decide +kernel)⟩
theorem lw_p55 : lw_okq (⟨"GraftRulesModel", "chance", "()V"⟩, 22) := ⟨⟨by decide +kernel, by decide +kernel⟩, List.mem_of_getElem? (i := 657) (by decide +kernel), List.mem_of_getElem? (i := 982) (by decide +kernel), List.mem_of_getElem? (i := 983) (by decide +kernel)⟩
theorem lw_p56 : lw_okq (⟨"GraftRulesModel", "draw", "(I)I"⟩, 22) := ⟨⟨by decide +kernel, by decide +kernel⟩, List.mem_of_getElem? (i := 657) (by decide +kernel), List.mem_of_getElem? (i := 986) (by decide +kernel), List.mem_of_getElem? (i := 987) (by decide +kernel)⟩
theorem lw_p57 : lw_okq (⟨"GraftRulesModel", "put", "(II)V"⟩, 22) := ⟨⟨by decide +kernel, by decide +kernel⟩, List.mem_of_getElem? (i := 657) (by decide +kernel), List.mem_of_getElem? (i := 994) (by decide +kernel), List.mem_of_getElem? (i := 995) (by decide +kernel)⟩
def lw_privs_4 : List (MethodName × Nat) := [(⟨"GraftRulesModel", "ofPlain", "(I)I"⟩, 22), (⟨"GraftRulesModel", "turnedCode", "()I"⟩, 22), (⟨"GraftRulesModel", "turn", "()V"⟩, 22), (⟨"GraftRulesModel", "height", "()I"⟩, 22), (⟨"GraftRulesModel", "isPattern", "(I)Z"⟩, 22), (⟨"GraftRulesModel", "leafAt", "(I)I"⟩, 22), (⟨"GraftRulesModel", "mayBecome", "(II)Z"⟩, 22), (⟨"GraftRulesModel", "chance", "()V"⟩, 22), (⟨"GraftRulesModel", "draw", "(I)I"⟩, 22), (⟨"GraftRulesModel", "put", "(II)V"⟩, 22)]
theorem lw_r4 : ∀ q ∈ lw_privs_4, lw_okq q := List.forall_mem_cons.mpr ⟨lw_p48, List.forall_mem_cons.mpr ⟨lw_p49, List.forall_mem_cons.mpr ⟨lw_p50, List.forall_mem_cons.mpr ⟨lw_p51, List.forall_mem_cons.mpr ⟨lw_p52, List.forall_mem_cons.mpr ⟨lw_p53, List.forall_mem_cons.mpr ⟨lw_p54, List.forall_mem_cons.mpr ⟨lw_p55, List.forall_mem_cons.mpr ⟨lw_p56, List.forall_mem_cons.mpr ⟨lw_p57, fun _ h => absurd h List.not_mem_nil⟩⟩⟩⟩⟩⟩⟩⟩⟩⟩
def lw_privs : List (MethodName × Nat) := lw_privs_1 ++ (lw_privs_2 ++ (lw_privs_3 ++ (lw_privs_4)))
def lw_tbl : List Cond := k2_sels lw_privs ++ tables_1
theorem lw_privs_ok : ∀ q ∈ lw_privs, lw_okq q := by
  show ∀ q ∈ lw_privs_1 ++ (lw_privs_2 ++ (lw_privs_3 ++ (lw_privs_4))), lw_okq q
  exact List.forall_mem_append.mpr ⟨lw_r1, List.forall_mem_append.mpr ⟨lw_r2, List.forall_mem_append.mpr ⟨lw_r3, lw_r4⟩⟩⟩
def RX0 : String := "GraftRules$Book"
def TX0 : u_T := fun k => match k with
  | 0 => ("GraftRules$Book", "trees", "[I", true)
  | 1 => ("GraftRules$Book", "codes", "[I", true)
  | _ => ("GraftRules$Book", "size", "I", false)
def tyX0 : Nat → FieldType := fun k => match k with
  | 0 => .array .int
  | 1 => .array .int
  | _ => .int
abbrev wsX00 : List Cond := u_ws RX0 TX0 3
theorem nmX0 : ∀ a, a < 3 → ∀ b, b < 3 → a ≠ b → (TX0 a).2.1 ≠ (TX0 b).2.1 := by decide +kernel
theorem tyX0_ok : ∀ k, k < 3 → parseFieldDescriptor (TX0 k).2.2.1 = some (tyX0 k) := by decide +kernel
abbrev cX0_init : ByteArray := prog_2_method_1_code
def yX0_init : MethodName := ⟨RX0, "<init>", "()V"⟩
abbrev cX0_isFull : ByteArray := prog_2_method_2_code
def yX0_isFull : MethodName := ⟨RX0, "isFull", "()Z"⟩
abbrev cX0_add : ByteArray := prog_2_method_3_code
def yX0_add : MethodName := ⟨RX0, "add", "(II)V"⟩
abbrev cX0_firstWrong : ByteArray := prog_2_method_4_code
def yX0_firstWrong : MethodName := ⟨RX0, "firstWrong", "(LGraftRules$State;)I"⟩
def RX1 : String := "GraftRules$History"
def TX1 : u_T := fun k => match k with
  | 0 => ("GraftRules$History", "ahead", "[LGraftRules$State;", true)
  | 1 => ("GraftRules$History", "next", "I", false)
  | _ => ("GraftRules$History", "size", "I", false)
def tyX1 : Nat → FieldType := fun k => match k with
  | 0 => .array (.object "GraftRules$State")
  | 1 => .int
  | _ => .int
abbrev wsX10 : List Cond := u_ws RX1 TX1 3
theorem nmX1 : ∀ a, a < 3 → ∀ b, b < 3 → a ≠ b → (TX1 a).2.1 ≠ (TX1 b).2.1 := by decide +kernel
theorem tyX1_ok : ∀ k, k < 3 → parseFieldDescriptor (TX1 k).2.2.1 = some (tyX1 k) := by decide +kernel
abbrev cX1_init : ByteArray := prog_3_method_1_code
def yX1_init : MethodName := ⟨RX1, "<init>", "()V"⟩
abbrev cX1_forget : ByteArray := prog_3_method_2_code
def yX1_forget : MethodName := ⟨RX1, "forget", "()V"⟩
abbrev cX1_record : ByteArray := prog_3_method_3_code
def yX1_record : MethodName := ⟨RX1, "record", "(LGraftRules$State;)V"⟩
abbrev cX1_rewind : ByteArray := prog_3_method_4_code
def yX1_rewind : MethodName := ⟨RX1, "rewind", "(ILGraftRules$State;)V"⟩
abbrev cX1_slotAt : ByteArray := prog_3_method_5_code
def yX1_slotAt : MethodName := ⟨RX1, "slotAt", "(I)LGraftRules$State;"⟩
def RX2 : String := "GraftRules$Image"
def TX2 : u_T := fun k => match k with
  | 0 => ("GraftRules$Image", "state", "LGraftRules$State;", true)
  | 1 => ("GraftRules$Image", "seedThen", "I", false)
  | _ => ("GraftRules$Image", "kept", "Z", false)
def tyX2 : Nat → FieldType := fun k => match k with
  | 0 => .object "GraftRules$State"
  | 1 => .int
  | _ => .boolean
abbrev wsX20 : List Cond := u_ws RX2 TX2 3
theorem nmX2 : ∀ a, a < 3 → ∀ b, b < 3 → a ≠ b → (TX2 a).2.1 ≠ (TX2 b).2.1 := by decide +kernel
theorem tyX2_ok : ∀ k, k < 3 → parseFieldDescriptor (TX2 k).2.2.1 = some (tyX2 k) := by decide +kernel
abbrev cX2_init : ByteArray := prog_4_method_1_code
def yX2_init : MethodName := ⟨RX2, "<init>", "()V"⟩
def RX3 : String := "GraftRules$Judge"
def TX3 : u_T := fun k => match k with
  | 0 => ("GraftRules$Judge", "one", "LGraftRules$Tree;", true)
  | 1 => ("GraftRules$Judge", "two", "LGraftRules$Tree;", true)
  | 2 => ("GraftRules$Judge", "critical", "I", false)
  | 3 => ("GraftRules$Judge", "bad", "I", false)
  | _ => ("GraftRules$Judge", "firstBad", "I", false)
def tyX3 : Nat → FieldType := fun k => match k with
  | 0 => .object "GraftRules$Tree"
  | 1 => .object "GraftRules$Tree"
  | 2 => .int
  | 3 => .int
  | _ => .int
abbrev wsX30 : List Cond := u_ws RX3 TX3 5
theorem nmX3 : ∀ a, a < 5 → ∀ b, b < 5 → a ≠ b → (TX3 a).2.1 ≠ (TX3 b).2.1 := by decide +kernel
theorem tyX3_ok : ∀ k, k < 5 → parseFieldDescriptor (TX3 k).2.2.1 = some (tyX3 k) := by decide +kernel
abbrev cX3_init : ByteArray := prog_5_method_1_code
def yX3_init : MethodName := ⟨RX3, "<init>", "()V"⟩
abbrev cX3_judgeAll : ByteArray := prog_5_method_2_code
def yX3_judgeAll : MethodName := ⟨RX3, "judgeAll", "(LGraftRules$Rules;)V"⟩
abbrev cX3_judgeOne : ByteArray := prog_5_method_3_code
def yX3_judgeOne : MethodName := ⟨RX3, "judgeOne", "(ILGraftRules$Rules;)V"⟩
def RX4 : String := "GraftRules$Rules"
def TX4 : u_T := fun k => match k with
  | 0 => ("GraftRules$Rules", "fates", "[I", true)
  | _ => ("GraftRules$Rules", "goals", "[I", true)
def tyX4 : Nat → FieldType := fun k => match k with
  | 0 => .array .int
  | _ => .array .int
abbrev wsX40 : List Cond := u_ws RX4 TX4 2
theorem nmX4 : ∀ a, a < 2 → ∀ b, b < 2 → a ≠ b → (TX4 a).2.1 ≠ (TX4 b).2.1 := by decide +kernel
theorem tyX4_ok : ∀ k, k < 2 → parseFieldDescriptor (TX4 k).2.2.1 = some (tyX4 k) := by decide +kernel
abbrev cX4_init : ByteArray := prog_6_method_1_code
def yX4_init : MethodName := ⟨RX4, "<init>", "()V"⟩
abbrev cX4_isPattern : ByteArray := prog_6_method_2_code
def yX4_isPattern : MethodName := ⟨RX4, "isPattern", "(I)Z"⟩
abbrev cX4_sideOf : ByteArray := prog_6_method_3_code
def yX4_sideOf : MethodName := ⟨RX4, "sideOf", "(I)I"⟩
abbrev cX4_fateOf : ByteArray := prog_6_method_4_code
def yX4_fateOf : MethodName := ⟨RX4, "fateOf", "(I)I"⟩
abbrev cX4_goalOf : ByteArray := prog_6_method_5_code
def yX4_goalOf : MethodName := ⟨RX4, "goalOf", "(I)I"⟩
abbrev cX4_makerOf : ByteArray := prog_6_method_6_code
def yX4_makerOf : MethodName := ⟨RX4, "makerOf", "(I)I"⟩
abbrev cX4_put : ByteArray := prog_6_method_7_code
def yX4_put : MethodName := ⟨RX4, "put", "(III)V"⟩
abbrev cX4_allows : ByteArray := prog_6_method_8_code
def yX4_allows : MethodName := ⟨RX4, "allows", "(III)Z"⟩
abbrev cX4_bound : ByteArray := prog_6_method_9_code
def yX4_bound : MethodName := ⟨RX4, "bound", "()I"⟩
abbrev cX4_release : ByteArray := prog_6_method_10_code
def yX4_release : MethodName := ⟨RX4, "release", "()V"⟩
abbrev cX4_dualFate : ByteArray := prog_6_method_11_code
def yX4_dualFate : MethodName := ⟨RX4, "dualFate", "(I)I"⟩
abbrev cX4_isOwnDual : ByteArray := prog_6_method_12_code
def yX4_isOwnDual : MethodName := ⟨RX4, "isOwnDual", "()Z"⟩
abbrev cX4_turnDual : ByteArray := prog_6_method_13_code
def yX4_turnDual : MethodName := ⟨RX4, "turnDual", "()V"⟩
abbrev cX4_copyFrom : ByteArray := prog_6_method_14_code
def yX4_copyFrom : MethodName := ⟨RX4, "copyFrom", "(LGraftRules$Rules;)V"⟩
def RX5 : String := "GraftRules$Series"
def TX5 : u_T := fun k => match k with
  | 0 => ("GraftRules$Series", "plainTrees", "[J", true)
  | 1 => ("GraftRules$Series", "rooted", "[[J", true)
  | 2 => ("GraftRules$Series", "undoing", "[J", true)
  | _ => ("GraftRules$Series", "power", "[J", true)
def tyX5 : Nat → FieldType := fun k => match k with
  | 0 => .array .long
  | 1 => .array (.array .long)
  | 2 => .array .long
  | _ => .array .long
abbrev wsX50 : List Cond := u_ws RX5 TX5 4
theorem nmX5 : ∀ a, a < 4 → ∀ b, b < 4 → a ≠ b → (TX5 a).2.1 ≠ (TX5 b).2.1 := by decide +kernel
theorem tyX5_ok : ∀ k, k < 4 → parseFieldDescriptor (TX5 k).2.2.1 = some (tyX5 k) := by decide +kernel
abbrev cX5_init : ByteArray := prog_7_method_1_code
def yX5_init : MethodName := ⟨RX5, "<init>", "()V"⟩
abbrev cX5_covers : ByteArray := prog_7_method_2_code
def yX5_covers : MethodName := ⟨RX5, "covers", "(I)Z"⟩
abbrev cX5_countTrees : ByteArray := prog_7_method_3_code
def yX5_countTrees : MethodName := ⟨RX5, "countTrees", "(LGraftRules$Rules;)V"⟩
abbrev cX5_countRooted : ByteArray := prog_7_method_4_code
def yX5_countRooted : MethodName := ⟨RX5, "countRooted", "(IILGraftRules$Rules;)J"⟩
abbrev cX5_countBranches : ByteArray := prog_7_method_5_code
def yX5_countBranches : MethodName := ⟨RX5, "countBranches", "(IIILGraftRules$Rules;)J"⟩
abbrev cX5_undoTrees : ByteArray := prog_7_method_6_code
def yX5_undoTrees : MethodName := ⟨RX5, "undoTrees", "()V"⟩
abbrev cX5_raisePower : ByteArray := prog_7_method_7_code
def yX5_raisePower : MethodName := ⟨RX5, "raisePower", "()V"⟩
def RX6 : String := "GraftRules$State"
def TX6 : u_T := fun k => match k with
  | 0 => ("GraftRules$State", "rules", "LGraftRules$Rules;", true)
  | 1 => ("GraftRules$State", "codes", "[I", true)
  | 2 => ("GraftRules$State", "signs", "[I", true)
  | _ => ("GraftRules$State", "size", "I", false)
def tyX6 : Nat → FieldType := fun k => match k with
  | 0 => .object "GraftRules$Rules"
  | 1 => .array .int
  | 2 => .array .int
  | _ => .int
abbrev wsX60 : List Cond := u_ws RX6 TX6 4
theorem nmX6 : ∀ a, a < 4 → ∀ b, b < 4 → a ≠ b → (TX6 a).2.1 ≠ (TX6 b).2.1 := by decide +kernel
theorem tyX6_ok : ∀ k, k < 4 → parseFieldDescriptor (TX6 k).2.2.1 = some (tyX6 k) := by decide +kernel
abbrev cX6_init : ByteArray := prog_8_method_1_code
def yX6_init : MethodName := ⟨RX6, "<init>", "()V"⟩
abbrev cX6_has : ByteArray := prog_8_method_2_code
def yX6_has : MethodName := ⟨RX6, "has", "(I)Z"⟩
abbrev cX6_isFull : ByteArray := prog_8_method_3_code
def yX6_isFull : MethodName := ⟨RX6, "isFull", "()Z"⟩
abbrev cX6_codeOf : ByteArray := prog_8_method_4_code
def yX6_codeOf : MethodName := ⟨RX6, "codeOf", "(I)I"⟩
abbrev cX6_signOf : ByteArray := prog_8_method_5_code
def yX6_signOf : MethodName := ⟨RX6, "signOf", "(I)I"⟩
abbrev cX6_lend : ByteArray := prog_8_method_6_code
def yX6_lend : MethodName := ⟨RX6, "lend", "(ILGraftRules$Tree;)V"⟩
abbrev cX6_put : ByteArray := prog_8_method_7_code
def yX6_put : MethodName := ⟨RX6, "put", "(ILGraftRules$Tree;)V"⟩
abbrev cX6_add : ByteArray := prog_8_method_8_code
def yX6_add : MethodName := ⟨RX6, "add", "(LGraftRules$Tree;)I"⟩
abbrev cX6_remove : ByteArray := prog_8_method_9_code
def yX6_remove : MethodName := ⟨RX6, "remove", "(I)V"⟩
abbrev cX6_copyFrom : ByteArray := prog_8_method_10_code
def yX6_copyFrom : MethodName := ⟨RX6, "copyFrom", "(LGraftRules$State;)V"⟩
def RX7 : String := "GraftRules$Tree"
def TX7 : u_T := fun k => match k with
  | 0 => ("GraftRules$Tree", "figures", "[I", true)
  | 1 => ("GraftRules$Tree", "handed", "[I", true)
  | 2 => ("GraftRules$Tree", "length", "I", false)
  | _ => ("GraftRules$Tree", "sign", "I", false)
def tyX7 : Nat → FieldType := fun k => match k with
  | 0 => .array .int
  | 1 => .array .int
  | 2 => .int
  | _ => .int
abbrev wsX70 : List Cond := u_ws RX7 TX7 4
theorem nmX7 : ∀ a, a < 4 → ∀ b, b < 4 → a ≠ b → (TX7 a).2.1 ≠ (TX7 b).2.1 := by decide +kernel
theorem tyX7_ok : ∀ k, k < 4 → parseFieldDescriptor (TX7 k).2.2.1 = some (tyX7 k) := by decide +kernel
abbrev cX7_init : ByteArray := prog_9_method_1_code
def yX7_init : MethodName := ⟨RX7, "<init>", "()V"⟩
abbrev cX7_open : ByteArray := prog_9_method_2_code
def yX7_open : MethodName := ⟨RX7, "open", "()V"⟩
abbrev cX7_append : ByteArray := prog_9_method_3_code
def yX7_append : MethodName := ⟨RX7, "append", "(I)V"⟩
abbrev cX7_becomeLeaf : ByteArray := prog_9_method_4_code
def yX7_becomeLeaf : MethodName := ⟨RX7, "becomeLeaf", "(I)V"⟩
abbrev cX7_becomeNode : ByteArray := prog_9_method_5_code
def yX7_becomeNode : MethodName := ⟨RX7, "becomeNode", "(I)V"⟩
abbrev cX7_copyFrom : ByteArray := prog_9_method_6_code
def yX7_copyFrom : MethodName := ⟨RX7, "copyFrom", "(LGraftRules$Tree;)V"⟩
abbrev cX7_readCode : ByteArray := prog_9_method_7_code
def yX7_readCode : MethodName := ⟨RX7, "readCode", "(II)V"⟩
abbrev cX7_codeNow : ByteArray := prog_9_method_8_code
def yX7_codeNow : MethodName := ⟨RX7, "codeNow", "()I"⟩
abbrev cX7_figureAt : ByteArray := prog_9_method_9_code
def yX7_figureAt : MethodName := ⟨RX7, "figureAt", "(I)I"⟩
abbrev cX7_putFigure : ByteArray := prog_9_method_10_code
def yX7_putFigure : MethodName := ⟨RX7, "putFigure", "(II)V"⟩
abbrev cX7_isNode : ByteArray := prog_9_method_11_code
def yX7_isNode : MethodName := ⟨RX7, "isNode", "(I)Z"⟩
abbrev cX7_nodes : ByteArray := prog_9_method_12_code
def yX7_nodes : MethodName := ⟨RX7, "nodes", "()I"⟩
abbrev cX7_leaves : ByteArray := prog_9_method_13_code
def yX7_leaves : MethodName := ⟨RX7, "leaves", "()I"⟩
abbrev cX7_equalTo : ByteArray := prog_9_method_14_code
def yX7_equalTo : MethodName := ⟨RX7, "equalTo", "(LGraftRules$Tree;)Z"⟩
abbrev cX7_endOf : ByteArray := prog_9_method_15_code
def yX7_endOf : MethodName := ⟨RX7, "endOf", "(I)I"⟩
abbrev cX7_leafAt : ByteArray := prog_9_method_16_code
def yX7_leafAt : MethodName := ⟨RX7, "leafAt", "(I)I"⟩
abbrev cX7_hasRoomFor : ByteArray := prog_9_method_17_code
def yX7_hasRoomFor : MethodName := ⟨RX7, "hasRoomFor", "(LGraftRules$Tree;)Z"⟩
abbrev cX7_graftAt : ByteArray := prog_9_method_18_code
def yX7_graftAt : MethodName := ⟨RX7, "graftAt", "(ILGraftRules$Tree;)V"⟩
abbrev cX7_patternAt : ByteArray := prog_9_method_19_code
def yX7_patternAt : MethodName := ⟨RX7, "patternAt", "(I)I"⟩
abbrev cX7_spotOf : ByteArray := prog_9_method_20_code
def yX7_spotOf : MethodName := ⟨RX7, "spotOf", "(ILGraftRules$Rules;)I"⟩
abbrev cX7_places : ByteArray := prog_9_method_21_code
def yX7_places : MethodName := ⟨RX7, "places", "(LGraftRules$Rules;)I"⟩
abbrev cX7_stepAt : ByteArray := prog_9_method_22_code
def yX7_stepAt : MethodName := ⟨RX7, "stepAt", "(ILGraftRules$Rules;)V"⟩
abbrev cX7_rebuild : ByteArray := prog_9_method_23_code
def yX7_rebuild : MethodName := ⟨RX7, "rebuild", "(II)V"⟩
abbrev cX7_makePlain : ByteArray := prog_9_method_24_code
def yX7_makePlain : MethodName := ⟨RX7, "makePlain", "(LGraftRules$Rules;)I"⟩
abbrev cX7_handDown : ByteArray := prog_9_method_25_code
def yX7_handDown : MethodName := ⟨RX7, "handDown", "(II)V"⟩
abbrev cX7_height : ByteArray := prog_9_method_26_code
def yX7_height : MethodName := ⟨RX7, "height", "()I"⟩
abbrev cX7_mirrorOf : ByteArray := prog_9_method_27_code
def yX7_mirrorOf : MethodName := ⟨RX7, "mirrorOf", "(LGraftRules$Tree;)V"⟩
def RX8 : String := "GraftRules"
def TX8 : u_T := fun k => match k with
  | 0 => ("GraftRules", "now", "LGraftRules$State;", true)
  | 1 => ("GraftRules", "history", "LGraftRules$History;", true)
  | 2 => ("GraftRules", "images", "[LGraftRules$Image;", true)
  | 3 => ("GraftRules", "book", "LGraftRules$Book;", true)
  | 4 => ("GraftRules", "judge", "LGraftRules$Judge;", true)
  | 5 => ("GraftRules", "series", "LGraftRules$Series;", true)
  | 6 => ("GraftRules", "work", "LGraftRules$Tree;", true)
  | 7 => ("GraftRules", "spare", "LGraftRules$Tree;", true)
  | 8 => ("GraftRules", "text", "[I", true)
  | 9 => ("GraftRules", "textLength", "I", false)
  | 10 => ("GraftRules", "faultPlace", "I", false)
  | _ => ("GraftRules", "seedNow", "I", false)
def tyX8 : Nat → FieldType := fun k => match k with
  | 0 => .object "GraftRules$State"
  | 1 => .object "GraftRules$History"
  | 2 => .array (.object "GraftRules$Image")
  | 3 => .object "GraftRules$Book"
  | 4 => .object "GraftRules$Judge"
  | 5 => .object "GraftRules$Series"
  | 6 => .object "GraftRules$Tree"
  | 7 => .object "GraftRules$Tree"
  | 8 => .array .int
  | 9 => .int
  | 10 => .int
  | _ => .int
abbrev wsX80 : List Cond := u_ws RX8 TX8 12
theorem nmX8 : ∀ a, a < 12 → ∀ b, b < 12 → a ≠ b → (TX8 a).2.1 ≠ (TX8 b).2.1 := by decide +kernel
theorem tyX8_ok : ∀ k, k < 12 → parseFieldDescriptor (TX8 k).2.2.1 = some (tyX8 k) := by decide +kernel
abbrev cX8_init : ByteArray := prog_1_method_1_code
def yX8_init : MethodName := ⟨RX8, "<init>", "()V"⟩
abbrev cX8_feed : ByteArray := prog_1_method_2_code
def yX8_feed : MethodName := ⟨RX8, "feed", "(I)I"⟩
abbrev cX8_tell : ByteArray := prog_1_method_3_code
def yX8_tell : MethodName := ⟨RX8, "tell", "()I"⟩
abbrev cX8_readText : ByteArray := prog_1_method_4_code
def yX8_readText : MethodName := ⟨RX8, "readText", "()I"⟩
abbrev cX8_figureOf : ByteArray := prog_1_method_5_code
def yX8_figureOf : MethodName := ⟨RX8, "figureOf", "(I)I"⟩
abbrev cX8_fault : ByteArray := prog_1_method_6_code
def yX8_fault : MethodName := ⟨RX8, "fault", "()I"⟩
abbrev cX8_told : ByteArray := prog_1_method_7_code
def yX8_told : MethodName := ⟨RX8, "told", "(I)I"⟩
abbrev cX8_tree : ByteArray := prog_1_method_8_code
def yX8_tree : MethodName := ⟨RX8, "tree", "(II)I"⟩
abbrev cX8_madePlain : ByteArray := prog_1_method_9_code
def yX8_madePlain : MethodName := ⟨RX8, "madePlain", "(I)I"⟩
abbrev cX8_pattern : ByteArray := prog_1_method_10_code
def yX8_pattern : MethodName := ⟨RX8, "pattern", "(II)I"⟩
abbrev cX8_same : ByteArray := prog_1_method_11_code
def yX8_same : MethodName := ⟨RX8, "same", "(II)I"⟩
abbrev cX8_count : ByteArray := prog_1_method_12_code
def yX8_count : MethodName := ⟨RX8, "count", "(I)J"⟩
abbrev cX8_undoneBy : ByteArray := prog_1_method_13_code
def yX8_undoneBy : MethodName := ⟨RX8, "undoneBy", "(I)J"⟩
abbrev cX8_graft : ByteArray := prog_1_method_14_code
def yX8_graft : MethodName := ⟨RX8, "graft", "(III)I"⟩
abbrev cX8_step : ByteArray := prog_1_method_15_code
def yX8_step : MethodName := ⟨RX8, "step", "(II)I"⟩
abbrev cX8_plain : ByteArray := prog_1_method_16_code
def yX8_plain : MethodName := ⟨RX8, "plain", "(I)I"⟩
abbrev cX8_mirror : ByteArray := prog_1_method_17_code
def yX8_mirror : MethodName := ⟨RX8, "mirror", "(I)I"⟩
abbrev cX8_take : ByteArray := prog_1_method_18_code
def yX8_take : MethodName := ⟨RX8, "take", "(I)I"⟩
abbrev cX8_fate : ByteArray := prog_1_method_19_code
def yX8_fate : MethodName := ⟨RX8, "fate", "(III)I"⟩
abbrev cX8_dual : ByteArray := prog_1_method_20_code
def yX8_dual : MethodName := ⟨RX8, "dual", "()I"⟩
abbrev cX8_clear : ByteArray := prog_1_method_21_code
def yX8_clear : MethodName := ⟨RX8, "clear", "()I"⟩
abbrev cX8_drift : ByteArray := prog_1_method_22_code
def yX8_drift : MethodName := ⟨RX8, "drift", "(I)I"⟩
abbrev cX8_drawTree : ByteArray := prog_1_method_23_code
def yX8_drawTree : MethodName := ⟨RX8, "drawTree", "()V"⟩
abbrev cX8_draw : ByteArray := prog_1_method_24_code
def yX8_draw : MethodName := ⟨RX8, "draw", "(I)I"⟩
abbrev cX8_undo : ByteArray := prog_1_method_25_code
def yX8_undo : MethodName := ⟨RX8, "undo", "(I)I"⟩
abbrev cX8_write : ByteArray := prog_1_method_26_code
def yX8_write : MethodName := ⟨RX8, "write", "(II)I"⟩
abbrev cX8_tear : ByteArray := prog_1_method_27_code
def yX8_tear : MethodName := ⟨RX8, "tear", "()I"⟩
abbrev cX8_seed : ByteArray := prog_1_method_28_code
def yX8_seed : MethodName := ⟨RX8, "seed", "(I)I"⟩
abbrev cX8_imageAt : ByteArray := prog_1_method_29_code
def yX8_imageAt : MethodName := ⟨RX8, "imageAt", "(I)LGraftRules$Image;"⟩
abbrev cX8_keep : ByteArray := prog_1_method_30_code
def yX8_keep : MethodName := ⟨RX8, "keep", "(I)I"⟩
abbrev cX8_goBack : ByteArray := prog_1_method_31_code
def yX8_goBack : MethodName := ⟨RX8, "goBack", "(I)I"⟩
def RX9 : String := "GraftRulesModel"
def TX9 : u_T := fun k => match k with
  | 0 => ("GraftRulesModel", "w", "[I", true)
  | 1 => ("GraftRulesModel", "known", "I", false)
  | 2 => ("GraftRulesModel", "kept", "I", false)
  | 3 => ("GraftRulesModel", "seed", "I", false)
  | 4 => ("GraftRulesModel", "keptSeed", "[I", true)
  | 5 => ("GraftRulesModel", "text", "[I", true)
  | 6 => ("GraftRulesModel", "size", "I", false)
  | 7 => ("GraftRulesModel", "fault", "I", false)
  | 8 => ("GraftRulesModel", "bookOf", "[I", true)
  | 9 => ("GraftRulesModel", "bookIs", "[I", true)
  | 10 => ("GraftRulesModel", "booked", "I", false)
  | 11 => ("GraftRulesModel", "word", "[I", true)
  | 12 => ("GraftRulesModel", "length", "I", false)
  | 13 => ("GraftRulesModel", "sign", "I", false)
  | 14 => ("GraftRulesModel", "other", "[I", true)
  | 15 => ("GraftRulesModel", "others", "I", false)
  | 16 => ("GraftRulesModel", "stack", "[I", true)
  | 17 => ("GraftRulesModel", "plains", "[J", true)
  | 18 => ("GraftRulesModel", "undoing", "[J", true)
  | 19 => ("GraftRulesModel", "power", "[J", true)
  | 20 => ("GraftRulesModel", "product", "[J", true)
  | _ => ("GraftRulesModel", "hand", "[I", true)
def tyX9 : Nat → FieldType := fun k => match k with
  | 0 => .array .int
  | 1 => .int
  | 2 => .int
  | 3 => .int
  | 4 => .array .int
  | 5 => .array .int
  | 6 => .int
  | 7 => .int
  | 8 => .array .int
  | 9 => .array .int
  | 10 => .int
  | 11 => .array .int
  | 12 => .int
  | 13 => .int
  | 14 => .array .int
  | 15 => .int
  | 16 => .array .int
  | 17 => .array .long
  | 18 => .array .long
  | 19 => .array .long
  | 20 => .array .long
  | _ => .array .int
abbrev wsX90 : List Cond := u_ws RX9 TX9 22
theorem nmX9 : ∀ a, a < 22 → ∀ b, b < 22 → a ≠ b → (TX9 a).2.1 ≠ (TX9 b).2.1 := by decide +kernel
theorem tyX9_ok : ∀ k, k < 22 → parseFieldDescriptor (TX9 k).2.2.1 = some (tyX9 k) := by decide +kernel
abbrev cX9_init : ByteArray := prog_11_method_1_code
def yX9_init : MethodName := ⟨RX9, "<init>", "()V"⟩
abbrev cX9_in : ByteArray := prog_11_method_2_code
def yX9_in : MethodName := ⟨RX9, "in", "(III)Z"⟩
abbrev cX9_copyRow : ByteArray := prog_11_method_3_code
def yX9_copyRow : MethodName := ⟨RX9, "copyRow", "(II)V"⟩
abbrev cX9_isTree : ByteArray := prog_11_method_4_code
def yX9_isTree : MethodName := ⟨RX9, "isTree", "(I)Z"⟩
abbrev cX9_open : ByteArray := prog_11_method_5_code
def yX9_open : MethodName := ⟨RX9, "open", "(II)V"⟩
abbrev cX9_openTree : ByteArray := prog_11_method_6_code
def yX9_openTree : MethodName := ⟨RX9, "openTree", "(I)V"⟩
abbrev cX9_code : ByteArray := prog_11_method_7_code
def yX9_code : MethodName := ⟨RX9, "code", "()I"⟩
abbrev cX9_nodes : ByteArray := prog_11_method_8_code
def yX9_nodes : MethodName := ⟨RX9, "nodes", "()I"⟩
abbrev cX9_behind : ByteArray := prog_11_method_9_code
def yX9_behind : MethodName := ⟨RX9, "behind", "(I)I"⟩
abbrev cX9_branchOf : ByteArray := prog_11_method_10_code
def yX9_branchOf : MethodName := ⟨RX9, "branchOf", "(II)I"⟩
abbrev cX9_patternAt : ByteArray := prog_11_method_11_code
def yX9_patternAt : MethodName := ⟨RX9, "patternAt", "(II)I"⟩
abbrev cX9_isPlace : ByteArray := prog_11_method_12_code
def yX9_isPlace : MethodName := ⟨RX9, "isPlace", "(II)Z"⟩
abbrev cX9_places : ByteArray := prog_11_method_13_code
def yX9_places : MethodName := ⟨RX9, "places", "()I"⟩
abbrev cX9_placeAt : ByteArray := prog_11_method_14_code
def yX9_placeAt : MethodName := ⟨RX9, "placeAt", "(I)I"⟩
abbrev cX9_copyOther : ByteArray := prog_11_method_15_code
def yX9_copyOther : MethodName := ⟨RX9, "copyOther", "(II)V"⟩
abbrev cX9_addOther : ByteArray := prog_11_method_16_code
def yX9_addOther : MethodName := ⟨RX9, "addOther", "(I)V"⟩
abbrev cX9_takeOther : ByteArray := prog_11_method_17_code
def yX9_takeOther : MethodName := ⟨RX9, "takeOther", "()V"⟩
abbrev cX9_stepAt : ByteArray := prog_11_method_18_code
def yX9_stepAt : MethodName := ⟨RX9, "stepAt", "(I)V"⟩
abbrev cX9_makePlain : ByteArray := prog_11_method_19_code
def yX9_makePlain : MethodName := ⟨RX9, "makePlain", "()I"⟩
abbrev cX9_turn : ByteArray := prog_11_method_20_code
def yX9_turn : MethodName := ⟨RX9, "turn", "()V"⟩
abbrev cX9_height : ByteArray := prog_11_method_21_code
def yX9_height : MethodName := ⟨RX9, "height", "()I"⟩
abbrev cX9_leafAt : ByteArray := prog_11_method_22_code
def yX9_leafAt : MethodName := ⟨RX9, "leafAt", "(I)I"⟩
abbrev cX9_isTreeWord : ByteArray := prog_11_method_23_code
def yX9_isTreeWord : MethodName := ⟨RX9, "isTreeWord", "()Z"⟩
abbrev cX9_isCritical : ByteArray := prog_11_method_24_code
def yX9_isCritical : MethodName := ⟨RX9, "isCritical", "(I)Z"⟩
abbrev cX9_isBad : ByteArray := prog_11_method_25_code
def yX9_isBad : MethodName := ⟨RX9, "isBad", "(I)Z"⟩
abbrev cX9_criticals : ByteArray := prog_11_method_26_code
def yX9_criticals : MethodName := ⟨RX9, "criticals", "()I"⟩
abbrev cX9_bads : ByteArray := prog_11_method_27_code
def yX9_bads : MethodName := ⟨RX9, "bads", "()I"⟩
abbrev cX9_firstBad : ByteArray := prog_11_method_28_code
def yX9_firstBad : MethodName := ⟨RX9, "firstBad", "()I"⟩
abbrev cX9_mayStand : ByteArray := prog_11_method_29_code
def yX9_mayStand : MethodName := ⟨RX9, "mayStand", "(III)J"⟩
abbrev cX9_countPlains : ByteArray := prog_11_method_30_code
def yX9_countPlains : MethodName := ⟨RX9, "countPlains", "()V"⟩
abbrev cX9_plainOf : ByteArray := prog_11_method_31_code
def yX9_plainOf : MethodName := ⟨RX9, "plainOf", "(I)J"⟩
abbrev cX9_powerUp : ByteArray := prog_11_method_32_code
def yX9_powerUp : MethodName := ⟨RX9, "powerUp", "()V"⟩
abbrev cX9_undoSeries : ByteArray := prog_11_method_33_code
def yX9_undoSeries : MethodName := ⟨RX9, "undoSeries", "()V"⟩
abbrev cX9_count : ByteArray := prog_11_method_34_code
def yX9_count : MethodName := ⟨RX9, "count", "(I)J"⟩
abbrev cX9_undoneBy : ByteArray := prog_11_method_35_code
def yX9_undoneBy : MethodName := ⟨RX9, "undoneBy", "(I)J"⟩
abbrev cX9_isPattern : ByteArray := prog_11_method_36_code
def yX9_isPattern : MethodName := ⟨RX9, "isPattern", "(I)Z"⟩
abbrev cX9_comesFrom : ByteArray := prog_11_method_37_code
def yX9_comesFrom : MethodName := ⟨RX9, "comesFrom", "(I)I"⟩
abbrev cX9_dualOf : ByteArray := prog_11_method_38_code
def yX9_dualOf : MethodName := ⟨RX9, "dualOf", "(I)I"⟩
abbrev cX9_isOwnDual : ByteArray := prog_11_method_39_code
def yX9_isOwnDual : MethodName := ⟨RX9, "isOwnDual", "()Z"⟩
abbrev cX9_feed : ByteArray := prog_11_method_40_code
def yX9_feed : MethodName := ⟨RX9, "feed", "(I)I"⟩
abbrev cX9_read : ByteArray := prog_11_method_41_code
def yX9_read : MethodName := ⟨RX9, "read", "()I"⟩
abbrev cX9_tell : ByteArray := prog_11_method_42_code
def yX9_tell : MethodName := ⟨RX9, "tell", "()I"⟩
abbrev cX9_fault : ByteArray := prog_11_method_43_code
def yX9_fault : MethodName := ⟨RX9, "fault", "()I"⟩
abbrev cX9_wrongEntry : ByteArray := prog_11_method_44_code
def yX9_wrongEntry : MethodName := ⟨RX9, "wrongEntry", "()I"⟩
abbrev cX9_told : ByteArray := prog_11_method_45_code
def yX9_told : MethodName := ⟨RX9, "told", "(I)I"⟩
abbrev cX9_turnedCode : ByteArray := prog_11_method_46_code
def yX9_turnedCode : MethodName := ⟨RX9, "turnedCode", "()I"⟩
abbrev cX9_ofPlain : ByteArray := prog_11_method_47_code
def yX9_ofPlain : MethodName := ⟨RX9, "ofPlain", "(I)I"⟩
abbrev cX9_tree : ByteArray := prog_11_method_48_code
def yX9_tree : MethodName := ⟨RX9, "tree", "(II)I"⟩
abbrev cX9_pattern : ByteArray := prog_11_method_49_code
def yX9_pattern : MethodName := ⟨RX9, "pattern", "(II)I"⟩
abbrev cX9_same : ByteArray := prog_11_method_50_code
def yX9_same : MethodName := ⟨RX9, "same", "(II)I"⟩
abbrev cX9_remember : ByteArray := prog_11_method_51_code
def yX9_remember : MethodName := ⟨RX9, "remember", "()V"⟩
abbrev cX9_shelve : ByteArray := prog_11_method_52_code
def yX9_shelve : MethodName := ⟨RX9, "shelve", "()I"⟩
abbrev cX9_lay : ByteArray := prog_11_method_53_code
def yX9_lay : MethodName := ⟨RX9, "lay", "(I)V"⟩
abbrev cX9_graft : ByteArray := prog_11_method_54_code
def yX9_graft : MethodName := ⟨RX9, "graft", "(III)I"⟩
abbrev cX9_step : ByteArray := prog_11_method_55_code
def yX9_step : MethodName := ⟨RX9, "step", "(II)I"⟩
abbrev cX9_plain : ByteArray := prog_11_method_56_code
def yX9_plain : MethodName := ⟨RX9, "plain", "(I)I"⟩
abbrev cX9_mirror : ByteArray := prog_11_method_57_code
def yX9_mirror : MethodName := ⟨RX9, "mirror", "(I)I"⟩
abbrev cX9_take : ByteArray := prog_11_method_58_code
def yX9_take : MethodName := ⟨RX9, "take", "(I)I"⟩
abbrev cX9_mayBecome : ByteArray := prog_11_method_59_code
def yX9_mayBecome : MethodName := ⟨RX9, "mayBecome", "(II)Z"⟩
abbrev cX9_fate : ByteArray := prog_11_method_60_code
def yX9_fate : MethodName := ⟨RX9, "fate", "(III)I"⟩
abbrev cX9_dual : ByteArray := prog_11_method_61_code
def yX9_dual : MethodName := ⟨RX9, "dual", "()I"⟩
abbrev cX9_clear : ByteArray := prog_11_method_62_code
def yX9_clear : MethodName := ⟨RX9, "clear", "()I"⟩
abbrev cX9_draw : ByteArray := prog_11_method_63_code
def yX9_draw : MethodName := ⟨RX9, "draw", "(I)I"⟩
abbrev cX9_put : ByteArray := prog_11_method_64_code
def yX9_put : MethodName := ⟨RX9, "put", "(II)V"⟩
abbrev cX9_chance : ByteArray := prog_11_method_65_code
def yX9_chance : MethodName := ⟨RX9, "chance", "()V"⟩
abbrev cX9_drift : ByteArray := prog_11_method_66_code
def yX9_drift : MethodName := ⟨RX9, "drift", "(I)I"⟩
abbrev cX9_undo : ByteArray := prog_11_method_67_code
def yX9_undo : MethodName := ⟨RX9, "undo", "(I)I"⟩
abbrev cX9_write : ByteArray := prog_11_method_68_code
def yX9_write : MethodName := ⟨RX9, "write", "(II)I"⟩
abbrev cX9_tear : ByteArray := prog_11_method_69_code
def yX9_tear : MethodName := ⟨RX9, "tear", "()I"⟩
abbrev cX9_seed : ByteArray := prog_11_method_70_code
def yX9_seed : MethodName := ⟨RX9, "seed", "(I)I"⟩
abbrev cX9_keep : ByteArray := prog_11_method_71_code
def yX9_keep : MethodName := ⟨RX9, "keep", "(I)I"⟩
abbrev cX9_goBack : ByteArray := prog_11_method_72_code
def yX9_goBack : MethodName := ⟨RX9, "goBack", "(I)I"⟩
def RJ9 : String := "java/lang/Math"
abbrev cJ9_floorMod_7cf53 : ByteArray := prog_12_method_50_code
def yJ9_floorMod_7cf53 : MethodName := ⟨RJ9, "floorMod", "(II)I"⟩
abbrev cJ9_max_7cf53 : ByteArray := prog_12_method_65_code
def yJ9_max_7cf53 : MethodName := ⟨RJ9, "max", "(II)I"⟩
abbrev cJ9_min_7cf53 : ByteArray := prog_12_method_69_code
def yJ9_min_7cf53 : MethodName := ⟨RJ9, "min", "(II)I"⟩
def RJ10 : String := "java/lang/System"
def RJ7 : String := "java/util/Arrays"
abbrev cJ7_fill_d0a16 : ByteArray := prog_14_method_101_code
def yJ7_fill_d0a16 : MethodName := ⟨RJ7, "fill", "([JJ)V"⟩
abbrev cJ7_fill_53178 : ByteArray := prog_14_method_103_code
def yJ7_fill_53178 : MethodName := ⟨RJ7, "fill", "([II)V"⟩
def RL : String := "GraftRulesLaw"
abbrev cL_law : ByteArray := code
def yL_law : MethodName := ⟨RL, "law", "([I)Z"⟩
abbrev vwCl : List vw_C := [(RX0, TX0, 3), (RX1, TX1, 3), (RX2, TX2, 3), (RX3, TX3, 5), (RX4, TX4, 2), (RX5, TX5, 4), (RX6, TX6, 4), (RX7, TX7, 4), (RX8, TX8, 12), (RX9, TX9, 22)]
end
section
theorem dX4_init_0 : decode cX4_init 0 = .ok (.aload_n 0, 1) := by decide +kernel
theorem dX4_init_1 : decode cX4_init 1 = .ok (.invokespecial 3, 3) := by decide +kernel
theorem dX4_init_4 : decode cX4_init 4 = .ok (.aload_n 0, 1) := by decide +kernel
theorem dX4_init_5 : decode cX4_init 5 = .ok (.bipush 8, 2) := by decide +kernel
theorem dX4_init_7 : decode cX4_init 7 = .ok (.newarray .int, 2) := by decide +kernel
theorem dX4_init_9 : decode cX4_init 9 = .ok (.putfield 9, 3) := by decide +kernel
theorem dX4_init_12 : decode cX4_init 12 = .ok (.aload_n 0, 1) := by decide +kernel
theorem dX4_init_13 : decode cX4_init 13 = .ok (.bipush 8, 2) := by decide +kernel
theorem dX4_init_15 : decode cX4_init 15 = .ok (.newarray .int, 2) := by decide +kernel
theorem dX4_init_17 : decode cX4_init 17 = .ok (.putfield 15, 3) := by decide +kernel
theorem dX4_init_20 : decode cX4_init 20 = .ok (.aload_n 0, 1) := by decide +kernel
theorem dX4_init_21 : decode cX4_init 21 = .ok (.getfield 15, 3) := by decide +kernel
theorem dX4_init_24 : decode cX4_init 24 = .ok (.iconst (-1), 1) := by decide +kernel
theorem dX4_init_25 : decode cX4_init 25 = .ok (.invokestatic 18, 3) := by decide +kernel
theorem dX4_init_28 : decode cX4_init 28 = .ok (.return_, 1) := by decide +kernel
theorem dX4_isPattern_0 : decode cX4_isPattern 0 = .ok (.iload_n 0, 1) := by decide +kernel
theorem dX4_isPattern_1 : decode cX4_isPattern 1 = .ok (.ifCond .lt 13, 3) := by decide +kernel
theorem dX4_isPattern_4 : decode cX4_isPattern 4 = .ok (.iload_n 0, 1) := by decide +kernel
theorem dX4_isPattern_5 : decode cX4_isPattern 5 = .ok (.bipush 8, 2) := by decide +kernel
theorem dX4_isPattern_7 : decode cX4_isPattern 7 = .ok (.if_icmp .ge 7, 3) := by decide +kernel
theorem dX4_isPattern_10 : decode cX4_isPattern 10 = .ok (.iconst 1, 1) := by decide +kernel
theorem dX4_isPattern_11 : decode cX4_isPattern 11 = .ok (.goto 4, 3) := by decide +kernel
theorem dX4_isPattern_14 : decode cX4_isPattern 14 = .ok (.iconst 0, 1) := by decide +kernel
theorem dX4_isPattern_15 : decode cX4_isPattern 15 = .ok (.ireturn, 1) := by decide +kernel
theorem dX4_sideOf_0 : decode cX4_sideOf 0 = .ok (.iload_n 0, 1) := by decide +kernel
theorem dX4_sideOf_1 : decode cX4_sideOf 1 = .ok (.iconst 1, 1) := by decide +kernel
theorem dX4_sideOf_2 : decode cX4_sideOf 2 = .ok (.iand, 1) := by decide +kernel
theorem dX4_sideOf_3 : decode cX4_sideOf 3 = .ok (.ireturn, 1) := by decide +kernel
theorem dX4_fateOf_0 : decode cX4_fateOf 0 = .ok (.iload_n 1, 1) := by decide +kernel
theorem dX4_fateOf_1 : decode cX4_fateOf 1 = .ok (.invokestatic 24, 3) := by decide +kernel
theorem dX4_fateOf_4 : decode cX4_fateOf 4 = .ok (.ifCond .eq 12, 3) := by decide +kernel
theorem dX4_fateOf_7 : decode cX4_fateOf 7 = .ok (.aload_n 0, 1) := by decide +kernel
theorem dX4_fateOf_8 : decode cX4_fateOf 8 = .ok (.getfield 9, 3) := by decide +kernel
theorem dX4_fateOf_11 : decode cX4_fateOf 11 = .ok (.iload_n 1, 1) := by decide +kernel
theorem dX4_fateOf_12 : decode cX4_fateOf 12 = .ok (.iaload, 1) := by decide +kernel
theorem dX4_fateOf_13 : decode cX4_fateOf 13 = .ok (.goto 4, 3) := by decide +kernel
theorem dX4_fateOf_16 : decode cX4_fateOf 16 = .ok (.iconst 0, 1) := by decide +kernel
theorem dX4_fateOf_17 : decode cX4_fateOf 17 = .ok (.ireturn, 1) := by decide +kernel
theorem dX4_goalOf_0 : decode cX4_goalOf 0 = .ok (.iload_n 1, 1) := by decide +kernel
theorem dX4_goalOf_1 : decode cX4_goalOf 1 = .ok (.invokestatic 24, 3) := by decide +kernel
theorem dX4_goalOf_4 : decode cX4_goalOf 4 = .ok (.ifCond .eq 12, 3) := by decide +kernel
theorem dX4_goalOf_7 : decode cX4_goalOf 7 = .ok (.aload_n 0, 1) := by decide +kernel
theorem dX4_goalOf_8 : decode cX4_goalOf 8 = .ok (.getfield 15, 3) := by decide +kernel
theorem dX4_goalOf_11 : decode cX4_goalOf 11 = .ok (.iload_n 1, 1) := by decide +kernel
theorem dX4_goalOf_12 : decode cX4_goalOf 12 = .ok (.iaload, 1) := by decide +kernel
theorem dX4_goalOf_13 : decode cX4_goalOf 13 = .ok (.goto 4, 3) := by decide +kernel
theorem dX4_goalOf_16 : decode cX4_goalOf 16 = .ok (.iconst (-1), 1) := by decide +kernel
theorem dX4_goalOf_17 : decode cX4_goalOf 17 = .ok (.ireturn, 1) := by decide +kernel
theorem dX4_makerOf_0 : decode cX4_makerOf 0 = .ok (.iconst 0, 1) := by decide +kernel
theorem dX4_makerOf_1 : decode cX4_makerOf 1 = .ok (.istore_n 2, 1) := by decide +kernel
theorem dX4_makerOf_2 : decode cX4_makerOf 2 = .ok (.iload_n 2, 1) := by decide +kernel
theorem dX4_makerOf_3 : decode cX4_makerOf 3 = .ok (.bipush 8, 2) := by decide +kernel
theorem dX4_makerOf_5 : decode cX4_makerOf 5 = .ok (.if_icmp .ge 28, 3) := by decide +kernel
theorem dX4_makerOf_8 : decode cX4_makerOf 8 = .ok (.iload_n 1, 1) := by decide +kernel
theorem dX4_makerOf_9 : decode cX4_makerOf 9 = .ok (.invokestatic 24, 3) := by decide +kernel
theorem dX4_makerOf_12 : decode cX4_makerOf 12 = .ok (.ifCond .eq 15, 3) := by decide +kernel
theorem dX4_makerOf_15 : decode cX4_makerOf 15 = .ok (.aload_n 0, 1) := by decide +kernel
theorem dX4_makerOf_16 : decode cX4_makerOf 16 = .ok (.getfield 15, 3) := by decide +kernel
theorem dX4_makerOf_19 : decode cX4_makerOf 19 = .ok (.iload_n 2, 1) := by decide +kernel
theorem dX4_makerOf_20 : decode cX4_makerOf 20 = .ok (.iaload, 1) := by decide +kernel
theorem dX4_makerOf_21 : decode cX4_makerOf 21 = .ok (.iload_n 1, 1) := by decide +kernel
theorem dX4_makerOf_22 : decode cX4_makerOf 22 = .ok (.if_icmp .ne 5, 3) := by decide +kernel
theorem dX4_makerOf_25 : decode cX4_makerOf 25 = .ok (.iload_n 2, 1) := by decide +kernel
theorem dX4_makerOf_26 : decode cX4_makerOf 26 = .ok (.ireturn, 1) := by decide +kernel
theorem dX4_makerOf_27 : decode cX4_makerOf 27 = .ok (.iinc 2 1, 3) := by decide +kernel
theorem dX4_makerOf_30 : decode cX4_makerOf 30 = .ok (.goto (-28), 3) := by decide +kernel
theorem dX4_makerOf_33 : decode cX4_makerOf 33 = .ok (.iconst (-1), 1) := by decide +kernel
theorem dX4_makerOf_34 : decode cX4_makerOf 34 = .ok (.ireturn, 1) := by decide +kernel
theorem dX4_put_0 : decode cX4_put 0 = .ok (.iload_n 1, 1) := by decide +kernel
theorem dX4_put_1 : decode cX4_put 1 = .ok (.invokestatic 24, 3) := by decide +kernel
theorem dX4_put_4 : decode cX4_put 4 = .ok (.ifCond .eq 26, 3) := by decide +kernel
theorem dX4_put_7 : decode cX4_put 7 = .ok (.aload_n 0, 1) := by decide +kernel
theorem dX4_put_8 : decode cX4_put 8 = .ok (.getfield 9, 3) := by decide +kernel
theorem dX4_put_11 : decode cX4_put 11 = .ok (.iload_n 1, 1) := by decide +kernel
theorem dX4_put_12 : decode cX4_put 12 = .ok (.iload_n 2, 1) := by decide +kernel
theorem dX4_put_13 : decode cX4_put 13 = .ok (.iastore, 1) := by decide +kernel
theorem dX4_put_14 : decode cX4_put 14 = .ok (.aload_n 0, 1) := by decide +kernel
theorem dX4_put_15 : decode cX4_put 15 = .ok (.getfield 15, 3) := by decide +kernel
theorem dX4_put_18 : decode cX4_put 18 = .ok (.iload_n 1, 1) := by decide +kernel
theorem dX4_put_19 : decode cX4_put 19 = .ok (.iload_n 2, 1) := by decide +kernel
theorem dX4_put_20 : decode cX4_put 20 = .ok (.iconst 2, 1) := by decide +kernel
theorem dX4_put_21 : decode cX4_put 21 = .ok (.if_icmp .lt 7, 3) := by decide +kernel
theorem dX4_put_24 : decode cX4_put 24 = .ok (.iload_n 3, 1) := by decide +kernel
theorem dX4_put_25 : decode cX4_put 25 = .ok (.goto 4, 3) := by decide +kernel
theorem dX4_put_28 : decode cX4_put 28 = .ok (.iconst (-1), 1) := by decide +kernel
theorem dX4_put_29 : decode cX4_put 29 = .ok (.iastore, 1) := by decide +kernel
theorem dX4_put_30 : decode cX4_put 30 = .ok (.return_, 1) := by decide +kernel
theorem dX4_allows_0 : decode cX4_allows 0 = .ok (.iload_n 2, 1) := by decide +kernel
theorem dX4_allows_1 : decode cX4_allows 1 = .ok (.ifCond .ne 5, 3) := by decide +kernel
theorem dX4_allows_4 : decode cX4_allows 4 = .ok (.iconst 1, 1) := by decide +kernel
theorem dX4_allows_5 : decode cX4_allows 5 = .ok (.ireturn, 1) := by decide +kernel
theorem dX4_allows_6 : decode cX4_allows 6 = .ok (.aload_n 0, 1) := by decide +kernel
theorem dX4_allows_7 : decode cX4_allows 7 = .ok (.iload_n 1, 1) := by decide +kernel
theorem dX4_allows_8 : decode cX4_allows 8 = .ok (.invokevirtual 28, 3) := by decide +kernel
theorem dX4_allows_11 : decode cX4_allows 11 = .ok (.iconst (-1), 1) := by decide +kernel
theorem dX4_allows_12 : decode cX4_allows 12 = .ok (.if_icmp .eq 5, 3) := by decide +kernel
theorem dX4_allows_15 : decode cX4_allows 15 = .ok (.iconst 0, 1) := by decide +kernel
theorem dX4_allows_16 : decode cX4_allows 16 = .ok (.ireturn, 1) := by decide +kernel
theorem dX4_allows_17 : decode cX4_allows 17 = .ok (.iload_n 2, 1) := by decide +kernel
theorem dX4_allows_18 : decode cX4_allows 18 = .ok (.iconst 1, 1) := by decide +kernel
theorem dX4_allows_19 : decode cX4_allows 19 = .ok (.if_icmp .ne 5, 3) := by decide +kernel
theorem dX4_allows_22 : decode cX4_allows 22 = .ok (.iconst 1, 1) := by decide +kernel
theorem dX4_allows_23 : decode cX4_allows 23 = .ok (.ireturn, 1) := by decide +kernel
theorem dX4_allows_24 : decode cX4_allows 24 = .ok (.aload_n 0, 1) := by decide +kernel
theorem dX4_allows_25 : decode cX4_allows 25 = .ok (.iload_n 3, 1) := by decide +kernel
theorem dX4_allows_26 : decode cX4_allows 26 = .ok (.invokevirtual 28, 3) := by decide +kernel
theorem dX4_allows_29 : decode cX4_allows 29 = .ok (.istore 4, 2) := by decide +kernel
theorem dX4_allows_31 : decode cX4_allows 31 = .ok (.iload_n 3, 1) := by decide +kernel
theorem dX4_allows_32 : decode cX4_allows 32 = .ok (.iload_n 1, 1) := by decide +kernel
theorem dX4_allows_33 : decode cX4_allows 33 = .ok (.if_icmp .eq 27, 3) := by decide +kernel
theorem dX4_allows_36 : decode cX4_allows 36 = .ok (.aload_n 0, 1) := by decide +kernel
theorem dX4_allows_37 : decode cX4_allows 37 = .ok (.iload_n 3, 1) := by decide +kernel
theorem dX4_allows_38 : decode cX4_allows 38 = .ok (.invokevirtual 32, 3) := by decide +kernel
theorem dX4_allows_41 : decode cX4_allows 41 = .ok (.ifCond .ne 19, 3) := by decide +kernel
theorem dX4_allows_44 : decode cX4_allows 44 = .ok (.iload 4, 2) := by decide +kernel
theorem dX4_allows_46 : decode cX4_allows 46 = .ok (.iconst (-1), 1) := by decide +kernel
theorem dX4_allows_47 : decode cX4_allows 47 = .ok (.if_icmp .eq 9, 3) := by decide +kernel
theorem dX4_allows_50 : decode cX4_allows 50 = .ok (.iload 4, 2) := by decide +kernel
theorem dX4_allows_52 : decode cX4_allows 52 = .ok (.iload_n 1, 1) := by decide +kernel
theorem dX4_allows_53 : decode cX4_allows 53 = .ok (.if_icmp .ne 7, 3) := by decide +kernel
theorem dX4_allows_56 : decode cX4_allows 56 = .ok (.iconst 1, 1) := by decide +kernel
theorem dX4_allows_57 : decode cX4_allows 57 = .ok (.goto 4, 3) := by decide +kernel
theorem dX4_allows_60 : decode cX4_allows 60 = .ok (.iconst 0, 1) := by decide +kernel
theorem dX4_allows_61 : decode cX4_allows 61 = .ok (.ireturn, 1) := by decide +kernel
theorem dX4_bound_0 : decode cX4_bound 0 = .ok (.iconst 0, 1) := by decide +kernel
theorem dX4_bound_1 : decode cX4_bound 1 = .ok (.istore_n 1, 1) := by decide +kernel
theorem dX4_bound_2 : decode cX4_bound 2 = .ok (.iconst 0, 1) := by decide +kernel
theorem dX4_bound_3 : decode cX4_bound 3 = .ok (.istore_n 2, 1) := by decide +kernel
theorem dX4_bound_4 : decode cX4_bound 4 = .ok (.iload_n 2, 1) := by decide +kernel
theorem dX4_bound_5 : decode cX4_bound 5 = .ok (.bipush 8, 2) := by decide +kernel
theorem dX4_bound_7 : decode cX4_bound 7 = .ok (.if_icmp .ge 21, 3) := by decide +kernel
theorem dX4_bound_10 : decode cX4_bound 10 = .ok (.aload_n 0, 1) := by decide +kernel
theorem dX4_bound_11 : decode cX4_bound 11 = .ok (.getfield 9, 3) := by decide +kernel
theorem dX4_bound_14 : decode cX4_bound 14 = .ok (.iload_n 2, 1) := by decide +kernel
theorem dX4_bound_15 : decode cX4_bound 15 = .ok (.iaload, 1) := by decide +kernel
theorem dX4_bound_16 : decode cX4_bound 16 = .ok (.ifCond .eq 6, 3) := by decide +kernel
theorem dX4_bound_19 : decode cX4_bound 19 = .ok (.iinc 1 1, 3) := by decide +kernel
theorem dX4_bound_22 : decode cX4_bound 22 = .ok (.iinc 2 1, 3) := by decide +kernel
theorem dX4_bound_25 : decode cX4_bound 25 = .ok (.goto (-21), 3) := by decide +kernel
theorem dX4_bound_28 : decode cX4_bound 28 = .ok (.iload_n 1, 1) := by decide +kernel
theorem dX4_bound_29 : decode cX4_bound 29 = .ok (.ireturn, 1) := by decide +kernel
theorem dX4_release_0 : decode cX4_release 0 = .ok (.iconst 0, 1) := by decide +kernel
theorem dX4_release_1 : decode cX4_release 1 = .ok (.istore_n 1, 1) := by decide +kernel
theorem dX4_release_2 : decode cX4_release 2 = .ok (.iload_n 1, 1) := by decide +kernel
theorem dX4_release_3 : decode cX4_release 3 = .ok (.bipush 8, 2) := by decide +kernel
theorem dX4_release_5 : decode cX4_release 5 = .ok (.if_icmp .ge 16, 3) := by decide +kernel
theorem dX4_release_8 : decode cX4_release 8 = .ok (.aload_n 0, 1) := by decide +kernel
theorem dX4_release_9 : decode cX4_release 9 = .ok (.iload_n 1, 1) := by decide +kernel
theorem dX4_release_10 : decode cX4_release 10 = .ok (.iconst 0, 1) := by decide +kernel
theorem dX4_release_11 : decode cX4_release 11 = .ok (.iconst (-1), 1) := by decide +kernel
theorem dX4_release_12 : decode cX4_release 12 = .ok (.invokevirtual 35, 3) := by decide +kernel
theorem dX4_release_15 : decode cX4_release 15 = .ok (.iinc 1 1, 3) := by decide +kernel
theorem dX4_release_18 : decode cX4_release 18 = .ok (.goto (-16), 3) := by decide +kernel
theorem dX4_release_21 : decode cX4_release 21 = .ok (.return_, 1) := by decide +kernel
theorem dX4_dualFate_0 : decode cX4_dualFate 0 = .ok (.aload_n 0, 1) := by decide +kernel
theorem dX4_dualFate_1 : decode cX4_dualFate 1 = .ok (.iload_n 1, 1) := by decide +kernel
theorem dX4_dualFate_2 : decode cX4_dualFate 2 = .ok (.invokevirtual 32, 3) := by decide +kernel
theorem dX4_dualFate_5 : decode cX4_dualFate 5 = .ok (.istore_n 2, 1) := by decide +kernel
theorem dX4_dualFate_6 : decode cX4_dualFate 6 = .ok (.iload_n 2, 1) := by decide +kernel
theorem dX4_dualFate_7 : decode cX4_dualFate 7 = .ok (.ifCond .ne 18, 3) := by decide +kernel
theorem dX4_dualFate_10 : decode cX4_dualFate 10 = .ok (.aload_n 0, 1) := by decide +kernel
theorem dX4_dualFate_11 : decode cX4_dualFate 11 = .ok (.iload_n 1, 1) := by decide +kernel
theorem dX4_dualFate_12 : decode cX4_dualFate 12 = .ok (.invokevirtual 28, 3) := by decide +kernel
theorem dX4_dualFate_15 : decode cX4_dualFate 15 = .ok (.iconst (-1), 1) := by decide +kernel
theorem dX4_dualFate_16 : decode cX4_dualFate 16 = .ok (.if_icmp .ne 7, 3) := by decide +kernel
theorem dX4_dualFate_19 : decode cX4_dualFate 19 = .ok (.iconst 1, 1) := by decide +kernel
theorem dX4_dualFate_20 : decode cX4_dualFate 20 = .ok (.goto 4, 3) := by decide +kernel
theorem dX4_dualFate_23 : decode cX4_dualFate 23 = .ok (.iconst 0, 1) := by decide +kernel
theorem dX4_dualFate_24 : decode cX4_dualFate 24 = .ok (.ireturn, 1) := by decide +kernel
theorem dX4_dualFate_25 : decode cX4_dualFate 25 = .ok (.iload_n 2, 1) := by decide +kernel
theorem dX4_dualFate_26 : decode cX4_dualFate 26 = .ok (.iconst 1, 1) := by decide +kernel
theorem dX4_dualFate_27 : decode cX4_dualFate 27 = .ok (.if_icmp .ne 5, 3) := by decide +kernel
theorem dX4_dualFate_30 : decode cX4_dualFate 30 = .ok (.iconst 0, 1) := by decide +kernel
theorem dX4_dualFate_31 : decode cX4_dualFate 31 = .ok (.ireturn, 1) := by decide +kernel
theorem dX4_dualFate_32 : decode cX4_dualFate 32 = .ok (.iload_n 1, 1) := by decide +kernel
theorem dX4_dualFate_33 : decode cX4_dualFate 33 = .ok (.invokestatic 39, 3) := by decide +kernel
theorem dX4_dualFate_36 : decode cX4_dualFate 36 = .ok (.aload_n 0, 1) := by decide +kernel
theorem dX4_dualFate_37 : decode cX4_dualFate 37 = .ok (.iload_n 1, 1) := by decide +kernel
theorem dX4_dualFate_38 : decode cX4_dualFate 38 = .ok (.invokevirtual 42, 3) := by decide +kernel
theorem dX4_dualFate_41 : decode cX4_dualFate 41 = .ok (.invokestatic 39, 3) := by decide +kernel
theorem dX4_dualFate_44 : decode cX4_dualFate 44 = .ok (.if_icmp .eq 5, 3) := by decide +kernel
theorem dX4_dualFate_47 : decode cX4_dualFate 47 = .ok (.iload_n 2, 1) := by decide +kernel
theorem dX4_dualFate_48 : decode cX4_dualFate 48 = .ok (.ireturn, 1) := by decide +kernel
theorem dX4_dualFate_49 : decode cX4_dualFate 49 = .ok (.iload_n 2, 1) := by decide +kernel
theorem dX4_dualFate_50 : decode cX4_dualFate 50 = .ok (.iconst 2, 1) := by decide +kernel
theorem dX4_dualFate_51 : decode cX4_dualFate 51 = .ok (.if_icmp .ne 7, 3) := by decide +kernel
theorem dX4_dualFate_54 : decode cX4_dualFate 54 = .ok (.iconst 3, 1) := by decide +kernel
theorem dX4_dualFate_55 : decode cX4_dualFate 55 = .ok (.goto 4, 3) := by decide +kernel
theorem dX4_dualFate_58 : decode cX4_dualFate 58 = .ok (.iconst 2, 1) := by decide +kernel
theorem dX4_dualFate_59 : decode cX4_dualFate 59 = .ok (.ireturn, 1) := by decide +kernel
theorem dX4_isOwnDual_0 : decode cX4_isOwnDual 0 = .ok (.iconst 0, 1) := by decide +kernel
theorem dX4_isOwnDual_1 : decode cX4_isOwnDual 1 = .ok (.istore_n 1, 1) := by decide +kernel
theorem dX4_isOwnDual_2 : decode cX4_isOwnDual 2 = .ok (.iload_n 1, 1) := by decide +kernel
theorem dX4_isOwnDual_3 : decode cX4_isOwnDual 3 = .ok (.bipush 8, 2) := by decide +kernel
theorem dX4_isOwnDual_5 : decode cX4_isOwnDual 5 = .ok (.if_icmp .ge 25, 3) := by decide +kernel
theorem dX4_isOwnDual_8 : decode cX4_isOwnDual 8 = .ok (.aload_n 0, 1) := by decide +kernel
theorem dX4_isOwnDual_9 : decode cX4_isOwnDual 9 = .ok (.iload_n 1, 1) := by decide +kernel
theorem dX4_isOwnDual_10 : decode cX4_isOwnDual 10 = .ok (.invokevirtual 45, 3) := by decide +kernel
theorem dX4_isOwnDual_13 : decode cX4_isOwnDual 13 = .ok (.aload_n 0, 1) := by decide +kernel
theorem dX4_isOwnDual_14 : decode cX4_isOwnDual 14 = .ok (.getfield 9, 3) := by decide +kernel
theorem dX4_isOwnDual_17 : decode cX4_isOwnDual 17 = .ok (.iload_n 1, 1) := by decide +kernel
theorem dX4_isOwnDual_18 : decode cX4_isOwnDual 18 = .ok (.iaload, 1) := by decide +kernel
theorem dX4_isOwnDual_19 : decode cX4_isOwnDual 19 = .ok (.if_icmp .eq 5, 3) := by decide +kernel
theorem dX4_isOwnDual_22 : decode cX4_isOwnDual 22 = .ok (.iconst 0, 1) := by decide +kernel
theorem dX4_isOwnDual_23 : decode cX4_isOwnDual 23 = .ok (.ireturn, 1) := by decide +kernel
theorem dX4_isOwnDual_24 : decode cX4_isOwnDual 24 = .ok (.iinc 1 1, 3) := by decide +kernel
theorem dX4_isOwnDual_27 : decode cX4_isOwnDual 27 = .ok (.goto (-25), 3) := by decide +kernel
theorem dX4_isOwnDual_30 : decode cX4_isOwnDual 30 = .ok (.iconst 1, 1) := by decide +kernel
theorem dX4_isOwnDual_31 : decode cX4_isOwnDual 31 = .ok (.ireturn, 1) := by decide +kernel
theorem dX4_turnDual_0 : decode cX4_turnDual 0 = .ok (.iconst 0, 1) := by decide +kernel
theorem dX4_turnDual_1 : decode cX4_turnDual 1 = .ok (.istore_n 1, 1) := by decide +kernel
theorem dX4_turnDual_2 : decode cX4_turnDual 2 = .ok (.iload_n 1, 1) := by decide +kernel
theorem dX4_turnDual_3 : decode cX4_turnDual 3 = .ok (.bipush 8, 2) := by decide +kernel
theorem dX4_turnDual_5 : decode cX4_turnDual 5 = .ok (.if_icmp .ge 20, 3) := by decide +kernel
theorem dX4_turnDual_8 : decode cX4_turnDual 8 = .ok (.aload_n 0, 1) := by decide +kernel
theorem dX4_turnDual_9 : decode cX4_turnDual 9 = .ok (.getfield 9, 3) := by decide +kernel
theorem dX4_turnDual_12 : decode cX4_turnDual 12 = .ok (.iload_n 1, 1) := by decide +kernel
theorem dX4_turnDual_13 : decode cX4_turnDual 13 = .ok (.aload_n 0, 1) := by decide +kernel
theorem dX4_turnDual_14 : decode cX4_turnDual 14 = .ok (.iload_n 1, 1) := by decide +kernel
theorem dX4_turnDual_15 : decode cX4_turnDual 15 = .ok (.invokevirtual 45, 3) := by decide +kernel
theorem dX4_turnDual_18 : decode cX4_turnDual 18 = .ok (.iastore, 1) := by decide +kernel
theorem dX4_turnDual_19 : decode cX4_turnDual 19 = .ok (.iinc 1 1, 3) := by decide +kernel
theorem dX4_turnDual_22 : decode cX4_turnDual 22 = .ok (.goto (-20), 3) := by decide +kernel
theorem dX4_turnDual_25 : decode cX4_turnDual 25 = .ok (.return_, 1) := by decide +kernel
theorem dX4_copyFrom_0 : decode cX4_copyFrom 0 = .ok (.iconst 0, 1) := by decide +kernel
theorem dX4_copyFrom_1 : decode cX4_copyFrom 1 = .ok (.istore_n 2, 1) := by decide +kernel
theorem dX4_copyFrom_2 : decode cX4_copyFrom 2 = .ok (.iload_n 2, 1) := by decide +kernel
theorem dX4_copyFrom_3 : decode cX4_copyFrom 3 = .ok (.bipush 8, 2) := by decide +kernel
theorem dX4_copyFrom_5 : decode cX4_copyFrom 5 = .ok (.if_icmp .ge 33, 3) := by decide +kernel
theorem dX4_copyFrom_8 : decode cX4_copyFrom 8 = .ok (.aload_n 0, 1) := by decide +kernel
theorem dX4_copyFrom_9 : decode cX4_copyFrom 9 = .ok (.getfield 9, 3) := by decide +kernel
theorem dX4_copyFrom_12 : decode cX4_copyFrom 12 = .ok (.iload_n 2, 1) := by decide +kernel
theorem dX4_copyFrom_13 : decode cX4_copyFrom 13 = .ok (.aload_n 1, 1) := by decide +kernel
theorem dX4_copyFrom_14 : decode cX4_copyFrom 14 = .ok (.getfield 9, 3) := by decide +kernel
theorem dX4_copyFrom_17 : decode cX4_copyFrom 17 = .ok (.iload_n 2, 1) := by decide +kernel
theorem dX4_copyFrom_18 : decode cX4_copyFrom 18 = .ok (.iaload, 1) := by decide +kernel
theorem dX4_copyFrom_19 : decode cX4_copyFrom 19 = .ok (.iastore, 1) := by decide +kernel
theorem dX4_copyFrom_20 : decode cX4_copyFrom 20 = .ok (.aload_n 0, 1) := by decide +kernel
theorem dX4_copyFrom_21 : decode cX4_copyFrom 21 = .ok (.getfield 15, 3) := by decide +kernel
theorem dX4_copyFrom_24 : decode cX4_copyFrom 24 = .ok (.iload_n 2, 1) := by decide +kernel
theorem dX4_copyFrom_25 : decode cX4_copyFrom 25 = .ok (.aload_n 1, 1) := by decide +kernel
theorem dX4_copyFrom_26 : decode cX4_copyFrom 26 = .ok (.getfield 15, 3) := by decide +kernel
theorem dX4_copyFrom_29 : decode cX4_copyFrom 29 = .ok (.iload_n 2, 1) := by decide +kernel
theorem dX4_copyFrom_30 : decode cX4_copyFrom 30 = .ok (.iaload, 1) := by decide +kernel
theorem dX4_copyFrom_31 : decode cX4_copyFrom 31 = .ok (.iastore, 1) := by decide +kernel
theorem dX4_copyFrom_32 : decode cX4_copyFrom 32 = .ok (.iinc 2 1, 3) := by decide +kernel
theorem dX4_copyFrom_35 : decode cX4_copyFrom 35 = .ok (.goto (-33), 3) := by decide +kernel
theorem dX4_copyFrom_38 : decode cX4_copyFrom 38 = .ok (.return_, 1) := by decide +kernel
theorem dX7_init_0 : decode cX7_init 0 = .ok (.aload_n 0, 1) := by decide +kernel
theorem dX7_init_1 : decode cX7_init 1 = .ok (.invokespecial 3, 3) := by decide +kernel
theorem dX7_init_4 : decode cX7_init 4 = .ok (.aload_n 0, 1) := by decide +kernel
theorem dX7_init_5 : decode cX7_init 5 = .ok (.bipush 13, 2) := by decide +kernel
theorem dX7_init_7 : decode cX7_init 7 = .ok (.newarray .int, 2) := by decide +kernel
theorem dX7_init_9 : decode cX7_init 9 = .ok (.putfield 9, 3) := by decide +kernel
theorem dX7_init_12 : decode cX7_init 12 = .ok (.aload_n 0, 1) := by decide +kernel
theorem dX7_init_13 : decode cX7_init 13 = .ok (.bipush 13, 2) := by decide +kernel
theorem dX7_init_15 : decode cX7_init 15 = .ok (.newarray .int, 2) := by decide +kernel
theorem dX7_init_17 : decode cX7_init 17 = .ok (.putfield 15, 3) := by decide +kernel
theorem dX7_init_20 : decode cX7_init 20 = .ok (.aload_n 0, 1) := by decide +kernel
theorem dX7_init_21 : decode cX7_init 21 = .ok (.iconst 1, 1) := by decide +kernel
theorem dX7_init_22 : decode cX7_init 22 = .ok (.putfield 18, 3) := by decide +kernel
theorem dX7_init_25 : decode cX7_init 25 = .ok (.aload_n 0, 1) := by decide +kernel
theorem dX7_init_26 : decode cX7_init 26 = .ok (.iconst 1, 1) := by decide +kernel
theorem dX7_init_27 : decode cX7_init 27 = .ok (.putfield 22, 3) := by decide +kernel
theorem dX7_init_30 : decode cX7_init 30 = .ok (.return_, 1) := by decide +kernel
theorem dX7_open_0 : decode cX7_open 0 = .ok (.aload_n 0, 1) := by decide +kernel
theorem dX7_open_1 : decode cX7_open 1 = .ok (.iconst 0, 1) := by decide +kernel
theorem dX7_open_2 : decode cX7_open 2 = .ok (.putfield 18, 3) := by decide +kernel
theorem dX7_open_5 : decode cX7_open 5 = .ok (.aload_n 0, 1) := by decide +kernel
theorem dX7_open_6 : decode cX7_open 6 = .ok (.iconst 1, 1) := by decide +kernel
theorem dX7_open_7 : decode cX7_open 7 = .ok (.putfield 22, 3) := by decide +kernel
theorem dX7_open_10 : decode cX7_open 10 = .ok (.return_, 1) := by decide +kernel
theorem dX7_append_0 : decode cX7_append 0 = .ok (.aload_n 0, 1) := by decide +kernel
theorem dX7_append_1 : decode cX7_append 1 = .ok (.getfield 18, 3) := by decide +kernel
theorem dX7_append_4 : decode cX7_append 4 = .ok (.ifCond .lt 32, 3) := by decide +kernel
theorem dX7_append_7 : decode cX7_append 7 = .ok (.aload_n 0, 1) := by decide +kernel
theorem dX7_append_8 : decode cX7_append 8 = .ok (.getfield 18, 3) := by decide +kernel
theorem dX7_append_11 : decode cX7_append 11 = .ok (.bipush 13, 2) := by decide +kernel
theorem dX7_append_13 : decode cX7_append 13 = .ok (.if_icmp .ge 23, 3) := by decide +kernel
theorem dX7_append_16 : decode cX7_append 16 = .ok (.aload_n 0, 1) := by decide +kernel
theorem dX7_append_17 : decode cX7_append 17 = .ok (.getfield 9, 3) := by decide +kernel
theorem dX7_append_20 : decode cX7_append 20 = .ok (.aload_n 0, 1) := by decide +kernel
theorem dX7_append_21 : decode cX7_append 21 = .ok (.getfield 18, 3) := by decide +kernel
theorem dX7_append_24 : decode cX7_append 24 = .ok (.iload_n 1, 1) := by decide +kernel
theorem dX7_append_25 : decode cX7_append 25 = .ok (.iastore, 1) := by decide +kernel
theorem dX7_append_26 : decode cX7_append 26 = .ok (.aload_n 0, 1) := by decide +kernel
theorem dX7_append_27 : decode cX7_append 27 = .ok (.dup, 1) := by decide +kernel
theorem dX7_append_28 : decode cX7_append 28 = .ok (.getfield 18, 3) := by decide +kernel
theorem dX7_append_31 : decode cX7_append 31 = .ok (.iconst 1, 1) := by decide +kernel
theorem dX7_append_32 : decode cX7_append 32 = .ok (.iadd, 1) := by decide +kernel
theorem dX7_append_33 : decode cX7_append 33 = .ok (.putfield 18, 3) := by decide +kernel
theorem dX7_append_36 : decode cX7_append 36 = .ok (.return_, 1) := by decide +kernel
theorem dX7_becomeLeaf_0 : decode cX7_becomeLeaf 0 = .ok (.aload_n 0, 1) := by decide +kernel
theorem dX7_becomeLeaf_1 : decode cX7_becomeLeaf 1 = .ok (.invokevirtual 25, 3) := by decide +kernel
theorem dX7_becomeLeaf_4 : decode cX7_becomeLeaf 4 = .ok (.aload_n 0, 1) := by decide +kernel
theorem dX7_becomeLeaf_5 : decode cX7_becomeLeaf 5 = .ok (.iconst 0, 1) := by decide +kernel
theorem dX7_becomeLeaf_6 : decode cX7_becomeLeaf 6 = .ok (.invokevirtual 28, 3) := by decide +kernel
theorem dX7_becomeLeaf_9 : decode cX7_becomeLeaf 9 = .ok (.aload_n 0, 1) := by decide +kernel
theorem dX7_becomeLeaf_10 : decode cX7_becomeLeaf 10 = .ok (.iload_n 1, 1) := by decide +kernel
theorem dX7_becomeLeaf_11 : decode cX7_becomeLeaf 11 = .ok (.putfield 22, 3) := by decide +kernel
theorem dX7_becomeLeaf_14 : decode cX7_becomeLeaf 14 = .ok (.return_, 1) := by decide +kernel
theorem dX7_becomeNode_0 : decode cX7_becomeNode 0 = .ok (.aload_n 0, 1) := by decide +kernel
theorem dX7_becomeNode_1 : decode cX7_becomeNode 1 = .ok (.invokevirtual 25, 3) := by decide +kernel
theorem dX7_becomeNode_4 : decode cX7_becomeNode 4 = .ok (.aload_n 0, 1) := by decide +kernel
theorem dX7_becomeNode_5 : decode cX7_becomeNode 5 = .ok (.iload_n 1, 1) := by decide +kernel
theorem dX7_becomeNode_6 : decode cX7_becomeNode 6 = .ok (.iconst 1, 1) := by decide +kernel
theorem dX7_becomeNode_7 : decode cX7_becomeNode 7 = .ok (.iadd, 1) := by decide +kernel
theorem dX7_becomeNode_8 : decode cX7_becomeNode 8 = .ok (.invokevirtual 28, 3) := by decide +kernel
theorem dX7_becomeNode_11 : decode cX7_becomeNode 11 = .ok (.aload_n 0, 1) := by decide +kernel
theorem dX7_becomeNode_12 : decode cX7_becomeNode 12 = .ok (.iconst 0, 1) := by decide +kernel
theorem dX7_becomeNode_13 : decode cX7_becomeNode 13 = .ok (.invokevirtual 28, 3) := by decide +kernel
theorem dX7_becomeNode_16 : decode cX7_becomeNode 16 = .ok (.aload_n 0, 1) := by decide +kernel
theorem dX7_becomeNode_17 : decode cX7_becomeNode 17 = .ok (.iconst 0, 1) := by decide +kernel
theorem dX7_becomeNode_18 : decode cX7_becomeNode 18 = .ok (.invokevirtual 28, 3) := by decide +kernel
theorem dX7_becomeNode_21 : decode cX7_becomeNode 21 = .ok (.return_, 1) := by decide +kernel
theorem dX7_copyFrom_0 : decode cX7_copyFrom 0 = .ok (.aload_n 0, 1) := by decide +kernel
theorem dX7_copyFrom_1 : decode cX7_copyFrom 1 = .ok (.invokevirtual 25, 3) := by decide +kernel
theorem dX7_copyFrom_4 : decode cX7_copyFrom 4 = .ok (.iconst 0, 1) := by decide +kernel
theorem dX7_copyFrom_5 : decode cX7_copyFrom 5 = .ok (.istore_n 2, 1) := by decide +kernel
theorem dX7_copyFrom_6 : decode cX7_copyFrom 6 = .ok (.iload_n 2, 1) := by decide +kernel
theorem dX7_copyFrom_7 : decode cX7_copyFrom 7 = .ok (.aload_n 1, 1) := by decide +kernel
theorem dX7_copyFrom_8 : decode cX7_copyFrom 8 = .ok (.getfield 18, 3) := by decide +kernel
theorem dX7_copyFrom_11 : decode cX7_copyFrom 11 = .ok (.if_icmp .ge 18, 3) := by decide +kernel
theorem dX7_copyFrom_14 : decode cX7_copyFrom 14 = .ok (.aload_n 0, 1) := by decide +kernel
theorem dX7_copyFrom_15 : decode cX7_copyFrom 15 = .ok (.aload_n 1, 1) := by decide +kernel
theorem dX7_copyFrom_16 : decode cX7_copyFrom 16 = .ok (.iload_n 2, 1) := by decide +kernel
theorem dX7_copyFrom_17 : decode cX7_copyFrom 17 = .ok (.invokevirtual 32, 3) := by decide +kernel
theorem dX7_copyFrom_20 : decode cX7_copyFrom 20 = .ok (.invokevirtual 28, 3) := by decide +kernel
theorem dX7_copyFrom_23 : decode cX7_copyFrom 23 = .ok (.iinc 2 1, 3) := by decide +kernel
theorem dX7_copyFrom_26 : decode cX7_copyFrom 26 = .ok (.goto (-20), 3) := by decide +kernel
theorem dX7_copyFrom_29 : decode cX7_copyFrom 29 = .ok (.aload_n 0, 1) := by decide +kernel
theorem dX7_copyFrom_30 : decode cX7_copyFrom 30 = .ok (.aload_n 1, 1) := by decide +kernel
theorem dX7_copyFrom_31 : decode cX7_copyFrom 31 = .ok (.getfield 22, 3) := by decide +kernel
theorem dX7_copyFrom_34 : decode cX7_copyFrom 34 = .ok (.putfield 22, 3) := by decide +kernel
theorem dX7_copyFrom_37 : decode cX7_copyFrom 37 = .ok (.return_, 1) := by decide +kernel
theorem dX7_readCode_0 : decode cX7_readCode 0 = .ok (.aload_n 0, 1) := by decide +kernel
theorem dX7_readCode_1 : decode cX7_readCode 1 = .ok (.invokevirtual 25, 3) := by decide +kernel
theorem dX7_readCode_4 : decode cX7_readCode 4 = .ok (.iconst 1, 1) := by decide +kernel
theorem dX7_readCode_5 : decode cX7_readCode 5 = .ok (.istore_n 3, 1) := by decide +kernel
theorem dX7_readCode_6 : decode cX7_readCode 6 = .ok (.iconst 1, 1) := by decide +kernel
theorem dX7_readCode_7 : decode cX7_readCode 7 = .ok (.istore 4, 2) := by decide +kernel
theorem dX7_readCode_9 : decode cX7_readCode 9 = .ok (.iload 4, 2) := by decide +kernel
theorem dX7_readCode_11 : decode cX7_readCode 11 = .ok (.bipush 13, 2) := by decide +kernel
theorem dX7_readCode_13 : decode cX7_readCode 13 = .ok (.if_icmp .ge 20, 3) := by decide +kernel
theorem dX7_readCode_16 : decode cX7_readCode 16 = .ok (.iload_n 3, 1) := by decide +kernel
theorem dX7_readCode_17 : decode cX7_readCode 17 = .ok (.iload_n 1, 1) := by decide +kernel
theorem dX7_readCode_18 : decode cX7_readCode 18 = .ok (.iconst 3, 1) := by decide +kernel
theorem dX7_readCode_19 : decode cX7_readCode 19 = .ok (.idiv, 1) := by decide +kernel
theorem dX7_readCode_20 : decode cX7_readCode 20 = .ok (.if_icmp .gt 13, 3) := by decide +kernel
theorem dX7_readCode_23 : decode cX7_readCode 23 = .ok (.iload_n 3, 1) := by decide +kernel
theorem dX7_readCode_24 : decode cX7_readCode 24 = .ok (.iconst 3, 1) := by decide +kernel
theorem dX7_readCode_25 : decode cX7_readCode 25 = .ok (.imul, 1) := by decide +kernel
theorem dX7_readCode_26 : decode cX7_readCode 26 = .ok (.istore_n 3, 1) := by decide +kernel
theorem dX7_readCode_27 : decode cX7_readCode 27 = .ok (.iinc 4 1, 3) := by decide +kernel
theorem dX7_readCode_30 : decode cX7_readCode 30 = .ok (.goto (-21), 3) := by decide +kernel
theorem dX7_readCode_33 : decode cX7_readCode 33 = .ok (.iconst 0, 1) := by decide +kernel
theorem dX7_readCode_34 : decode cX7_readCode 34 = .ok (.istore 4, 2) := by decide +kernel
theorem dX7_readCode_36 : decode cX7_readCode 36 = .ok (.iload 4, 2) := by decide +kernel
theorem dX7_readCode_38 : decode cX7_readCode 38 = .ok (.bipush 13, 2) := by decide +kernel
theorem dX7_readCode_40 : decode cX7_readCode 40 = .ok (.if_icmp .ge 26, 3) := by decide +kernel
theorem dX7_readCode_43 : decode cX7_readCode 43 = .ok (.iload_n 3, 1) := by decide +kernel
theorem dX7_readCode_44 : decode cX7_readCode 44 = .ok (.ifCond .le 22, 3) := by decide +kernel
theorem dX7_readCode_47 : decode cX7_readCode 47 = .ok (.aload_n 0, 1) := by decide +kernel
theorem dX7_readCode_48 : decode cX7_readCode 48 = .ok (.iload_n 1, 1) := by decide +kernel
theorem dX7_readCode_49 : decode cX7_readCode 49 = .ok (.iload_n 3, 1) := by decide +kernel
theorem dX7_readCode_50 : decode cX7_readCode 50 = .ok (.idiv, 1) := by decide +kernel
theorem dX7_readCode_51 : decode cX7_readCode 51 = .ok (.iconst 3, 1) := by decide +kernel
theorem dX7_readCode_52 : decode cX7_readCode 52 = .ok (.irem, 1) := by decide +kernel
theorem dX7_readCode_53 : decode cX7_readCode 53 = .ok (.invokevirtual 28, 3) := by decide +kernel
theorem dX7_readCode_56 : decode cX7_readCode 56 = .ok (.iload_n 3, 1) := by decide +kernel
theorem dX7_readCode_57 : decode cX7_readCode 57 = .ok (.iconst 3, 1) := by decide +kernel
theorem dX7_readCode_58 : decode cX7_readCode 58 = .ok (.idiv, 1) := by decide +kernel
theorem dX7_readCode_59 : decode cX7_readCode 59 = .ok (.istore_n 3, 1) := by decide +kernel
theorem dX7_readCode_60 : decode cX7_readCode 60 = .ok (.iinc 4 1, 3) := by decide +kernel
theorem dX7_readCode_63 : decode cX7_readCode 63 = .ok (.goto (-27), 3) := by decide +kernel
theorem dX7_readCode_66 : decode cX7_readCode 66 = .ok (.aload_n 0, 1) := by decide +kernel
theorem dX7_readCode_67 : decode cX7_readCode 67 = .ok (.iload_n 2, 1) := by decide +kernel
theorem dX7_readCode_68 : decode cX7_readCode 68 = .ok (.putfield 22, 3) := by decide +kernel
theorem dX7_readCode_71 : decode cX7_readCode 71 = .ok (.return_, 1) := by decide +kernel
theorem dX7_codeNow_0 : decode cX7_codeNow 0 = .ok (.iconst 0, 1) := by decide +kernel
theorem dX7_codeNow_1 : decode cX7_codeNow 1 = .ok (.istore_n 1, 1) := by decide +kernel
theorem dX7_codeNow_2 : decode cX7_codeNow 2 = .ok (.iconst 0, 1) := by decide +kernel
theorem dX7_codeNow_3 : decode cX7_codeNow 3 = .ok (.istore_n 2, 1) := by decide +kernel
theorem dX7_codeNow_4 : decode cX7_codeNow 4 = .ok (.iload_n 2, 1) := by decide +kernel
theorem dX7_codeNow_5 : decode cX7_codeNow 5 = .ok (.aload_n 0, 1) := by decide +kernel
theorem dX7_codeNow_6 : decode cX7_codeNow 6 = .ok (.getfield 18, 3) := by decide +kernel
theorem dX7_codeNow_9 : decode cX7_codeNow 9 = .ok (.if_icmp .ge 19, 3) := by decide +kernel
theorem dX7_codeNow_12 : decode cX7_codeNow 12 = .ok (.iconst 3, 1) := by decide +kernel
theorem dX7_codeNow_13 : decode cX7_codeNow 13 = .ok (.iload_n 1, 1) := by decide +kernel
theorem dX7_codeNow_14 : decode cX7_codeNow 14 = .ok (.imul, 1) := by decide +kernel
theorem dX7_codeNow_15 : decode cX7_codeNow 15 = .ok (.aload_n 0, 1) := by decide +kernel
theorem dX7_codeNow_16 : decode cX7_codeNow 16 = .ok (.iload_n 2, 1) := by decide +kernel
theorem dX7_codeNow_17 : decode cX7_codeNow 17 = .ok (.invokevirtual 32, 3) := by decide +kernel
theorem dX7_codeNow_20 : decode cX7_codeNow 20 = .ok (.iadd, 1) := by decide +kernel
theorem dX7_codeNow_21 : decode cX7_codeNow 21 = .ok (.istore_n 1, 1) := by decide +kernel
theorem dX7_codeNow_22 : decode cX7_codeNow 22 = .ok (.iinc 2 1, 3) := by decide +kernel
theorem dX7_codeNow_25 : decode cX7_codeNow 25 = .ok (.goto (-21), 3) := by decide +kernel
theorem dX7_codeNow_28 : decode cX7_codeNow 28 = .ok (.iload_n 1, 1) := by decide +kernel
theorem dX7_codeNow_29 : decode cX7_codeNow 29 = .ok (.ireturn, 1) := by decide +kernel
theorem dX7_figureAt_0 : decode cX7_figureAt 0 = .ok (.iload_n 1, 1) := by decide +kernel
theorem dX7_figureAt_1 : decode cX7_figureAt 1 = .ok (.ifCond .lt 26, 3) := by decide +kernel
theorem dX7_figureAt_4 : decode cX7_figureAt 4 = .ok (.iload_n 1, 1) := by decide +kernel
theorem dX7_figureAt_5 : decode cX7_figureAt 5 = .ok (.aload_n 0, 1) := by decide +kernel
theorem dX7_figureAt_6 : decode cX7_figureAt 6 = .ok (.getfield 18, 3) := by decide +kernel
theorem dX7_figureAt_9 : decode cX7_figureAt 9 = .ok (.if_icmp .ge 18, 3) := by decide +kernel
theorem dX7_figureAt_12 : decode cX7_figureAt 12 = .ok (.iload_n 1, 1) := by decide +kernel
theorem dX7_figureAt_13 : decode cX7_figureAt 13 = .ok (.bipush 13, 2) := by decide +kernel
theorem dX7_figureAt_15 : decode cX7_figureAt 15 = .ok (.if_icmp .ge 12, 3) := by decide +kernel
theorem dX7_figureAt_18 : decode cX7_figureAt 18 = .ok (.aload_n 0, 1) := by decide +kernel
theorem dX7_figureAt_19 : decode cX7_figureAt 19 = .ok (.getfield 9, 3) := by decide +kernel
theorem dX7_figureAt_22 : decode cX7_figureAt 22 = .ok (.iload_n 1, 1) := by decide +kernel
theorem dX7_figureAt_23 : decode cX7_figureAt 23 = .ok (.iaload, 1) := by decide +kernel
theorem dX7_figureAt_24 : decode cX7_figureAt 24 = .ok (.goto 4, 3) := by decide +kernel
theorem dX7_figureAt_27 : decode cX7_figureAt 27 = .ok (.iconst 0, 1) := by decide +kernel
theorem dX7_figureAt_28 : decode cX7_figureAt 28 = .ok (.ireturn, 1) := by decide +kernel
theorem dX7_putFigure_0 : decode cX7_putFigure 0 = .ok (.iload_n 1, 1) := by decide +kernel
theorem dX7_putFigure_1 : decode cX7_putFigure 1 = .ok (.ifCond .lt 24, 3) := by decide +kernel
theorem dX7_putFigure_4 : decode cX7_putFigure 4 = .ok (.iload_n 1, 1) := by decide +kernel
theorem dX7_putFigure_5 : decode cX7_putFigure 5 = .ok (.aload_n 0, 1) := by decide +kernel
theorem dX7_putFigure_6 : decode cX7_putFigure 6 = .ok (.getfield 18, 3) := by decide +kernel
theorem dX7_putFigure_9 : decode cX7_putFigure 9 = .ok (.if_icmp .ge 16, 3) := by decide +kernel
theorem dX7_putFigure_12 : decode cX7_putFigure 12 = .ok (.iload_n 1, 1) := by decide +kernel
theorem dX7_putFigure_13 : decode cX7_putFigure 13 = .ok (.bipush 13, 2) := by decide +kernel
theorem dX7_putFigure_15 : decode cX7_putFigure 15 = .ok (.if_icmp .ge 10, 3) := by decide +kernel
theorem dX7_putFigure_18 : decode cX7_putFigure 18 = .ok (.aload_n 0, 1) := by decide +kernel
theorem dX7_putFigure_19 : decode cX7_putFigure 19 = .ok (.getfield 9, 3) := by decide +kernel
theorem dX7_putFigure_22 : decode cX7_putFigure 22 = .ok (.iload_n 1, 1) := by decide +kernel
theorem dX7_putFigure_23 : decode cX7_putFigure 23 = .ok (.iload_n 2, 1) := by decide +kernel
theorem dX7_putFigure_24 : decode cX7_putFigure 24 = .ok (.iastore, 1) := by decide +kernel
theorem dX7_putFigure_25 : decode cX7_putFigure 25 = .ok (.return_, 1) := by decide +kernel
theorem dX7_isNode_0 : decode cX7_isNode 0 = .ok (.aload_n 0, 1) := by decide +kernel
theorem dX7_isNode_1 : decode cX7_isNode 1 = .ok (.iload_n 1, 1) := by decide +kernel
theorem dX7_isNode_2 : decode cX7_isNode 2 = .ok (.invokevirtual 32, 3) := by decide +kernel
theorem dX7_isNode_5 : decode cX7_isNode 5 = .ok (.ifCond .eq 7, 3) := by decide +kernel
theorem dX7_isNode_8 : decode cX7_isNode 8 = .ok (.iconst 1, 1) := by decide +kernel
theorem dX7_isNode_9 : decode cX7_isNode 9 = .ok (.goto 4, 3) := by decide +kernel
theorem dX7_isNode_12 : decode cX7_isNode 12 = .ok (.iconst 0, 1) := by decide +kernel
theorem dX7_isNode_13 : decode cX7_isNode 13 = .ok (.ireturn, 1) := by decide +kernel
theorem dX7_nodes_0 : decode cX7_nodes 0 = .ok (.aload_n 0, 1) := by decide +kernel
theorem dX7_nodes_1 : decode cX7_nodes 1 = .ok (.getfield 18, 3) := by decide +kernel
theorem dX7_nodes_4 : decode cX7_nodes 4 = .ok (.iconst 1, 1) := by decide +kernel
theorem dX7_nodes_5 : decode cX7_nodes 5 = .ok (.isub, 1) := by decide +kernel
theorem dX7_nodes_6 : decode cX7_nodes 6 = .ok (.iconst 2, 1) := by decide +kernel
theorem dX7_nodes_7 : decode cX7_nodes 7 = .ok (.idiv, 1) := by decide +kernel
theorem dX7_nodes_8 : decode cX7_nodes 8 = .ok (.ireturn, 1) := by decide +kernel
theorem dX7_leaves_0 : decode cX7_leaves 0 = .ok (.aload_n 0, 1) := by decide +kernel
theorem dX7_leaves_1 : decode cX7_leaves 1 = .ok (.invokevirtual 36, 3) := by decide +kernel
theorem dX7_leaves_4 : decode cX7_leaves 4 = .ok (.iconst 1, 1) := by decide +kernel
theorem dX7_leaves_5 : decode cX7_leaves 5 = .ok (.iadd, 1) := by decide +kernel
theorem dX7_leaves_6 : decode cX7_leaves 6 = .ok (.ireturn, 1) := by decide +kernel
theorem dX7_equalTo_0 : decode cX7_equalTo 0 = .ok (.aload_n 0, 1) := by decide +kernel
theorem dX7_equalTo_1 : decode cX7_equalTo 1 = .ok (.getfield 22, 3) := by decide +kernel
theorem dX7_equalTo_4 : decode cX7_equalTo 4 = .ok (.aload_n 1, 1) := by decide +kernel
theorem dX7_equalTo_5 : decode cX7_equalTo 5 = .ok (.getfield 22, 3) := by decide +kernel
theorem dX7_equalTo_8 : decode cX7_equalTo 8 = .ok (.if_icmp .ne 18, 3) := by decide +kernel
theorem dX7_equalTo_11 : decode cX7_equalTo 11 = .ok (.aload_n 0, 1) := by decide +kernel
theorem dX7_equalTo_12 : decode cX7_equalTo 12 = .ok (.invokevirtual 40, 3) := by decide +kernel
theorem dX7_equalTo_15 : decode cX7_equalTo 15 = .ok (.aload_n 1, 1) := by decide +kernel
theorem dX7_equalTo_16 : decode cX7_equalTo 16 = .ok (.invokevirtual 40, 3) := by decide +kernel
theorem dX7_equalTo_19 : decode cX7_equalTo 19 = .ok (.if_icmp .ne 7, 3) := by decide +kernel
theorem dX7_equalTo_22 : decode cX7_equalTo 22 = .ok (.iconst 1, 1) := by decide +kernel
theorem dX7_equalTo_23 : decode cX7_equalTo 23 = .ok (.goto 4, 3) := by decide +kernel
theorem dX7_equalTo_26 : decode cX7_equalTo 26 = .ok (.iconst 0, 1) := by decide +kernel
theorem dX7_equalTo_27 : decode cX7_equalTo 27 = .ok (.ireturn, 1) := by decide +kernel
theorem dX7_endOf_0 : decode cX7_endOf 0 = .ok (.iload_n 1, 1) := by decide +kernel
theorem dX7_endOf_1 : decode cX7_endOf 1 = .ok (.ifCond .ge 8, 3) := by decide +kernel
theorem dX7_endOf_4 : decode cX7_endOf 4 = .ok (.aload_n 0, 1) := by decide +kernel
theorem dX7_endOf_5 : decode cX7_endOf 5 = .ok (.getfield 18, 3) := by decide +kernel
theorem dX7_endOf_8 : decode cX7_endOf 8 = .ok (.ireturn, 1) := by decide +kernel
theorem dX7_endOf_9 : decode cX7_endOf 9 = .ok (.iconst 1, 1) := by decide +kernel
theorem dX7_endOf_10 : decode cX7_endOf 10 = .ok (.istore_n 2, 1) := by decide +kernel
theorem dX7_endOf_11 : decode cX7_endOf 11 = .ok (.iload_n 1, 1) := by decide +kernel
theorem dX7_endOf_12 : decode cX7_endOf 12 = .ok (.istore_n 3, 1) := by decide +kernel
theorem dX7_endOf_13 : decode cX7_endOf 13 = .ok (.iload_n 3, 1) := by decide +kernel
theorem dX7_endOf_14 : decode cX7_endOf 14 = .ok (.aload_n 0, 1) := by decide +kernel
theorem dX7_endOf_15 : decode cX7_endOf 15 = .ok (.getfield 18, 3) := by decide +kernel
theorem dX7_endOf_18 : decode cX7_endOf 18 = .ok (.if_icmp .ge 40, 3) := by decide +kernel
theorem dX7_endOf_21 : decode cX7_endOf 21 = .ok (.iload_n 3, 1) := by decide +kernel
theorem dX7_endOf_22 : decode cX7_endOf 22 = .ok (.bipush 13, 2) := by decide +kernel
theorem dX7_endOf_24 : decode cX7_endOf 24 = .ok (.if_icmp .ge 34, 3) := by decide +kernel
theorem dX7_endOf_27 : decode cX7_endOf 27 = .ok (.iload_n 2, 1) := by decide +kernel
theorem dX7_endOf_28 : decode cX7_endOf 28 = .ok (.aload_n 0, 1) := by decide +kernel
theorem dX7_endOf_29 : decode cX7_endOf 29 = .ok (.getfield 9, 3) := by decide +kernel
theorem dX7_endOf_32 : decode cX7_endOf 32 = .ok (.iload_n 3, 1) := by decide +kernel
theorem dX7_endOf_33 : decode cX7_endOf 33 = .ok (.iaload, 1) := by decide +kernel
theorem dX7_endOf_34 : decode cX7_endOf 34 = .ok (.ifCond .ne 7, 3) := by decide +kernel
theorem dX7_endOf_37 : decode cX7_endOf 37 = .ok (.iconst (-1), 1) := by decide +kernel
theorem dX7_endOf_38 : decode cX7_endOf 38 = .ok (.goto 4, 3) := by decide +kernel
theorem dX7_endOf_41 : decode cX7_endOf 41 = .ok (.iconst 1, 1) := by decide +kernel
theorem dX7_endOf_42 : decode cX7_endOf 42 = .ok (.iadd, 1) := by decide +kernel
theorem dX7_endOf_43 : decode cX7_endOf 43 = .ok (.istore_n 2, 1) := by decide +kernel
theorem dX7_endOf_44 : decode cX7_endOf 44 = .ok (.iload_n 2, 1) := by decide +kernel
theorem dX7_endOf_45 : decode cX7_endOf 45 = .ok (.ifCond .ne 7, 3) := by decide +kernel
theorem dX7_endOf_48 : decode cX7_endOf 48 = .ok (.iload_n 3, 1) := by decide +kernel
theorem dX7_endOf_49 : decode cX7_endOf 49 = .ok (.iconst 1, 1) := by decide +kernel
theorem dX7_endOf_50 : decode cX7_endOf 50 = .ok (.iadd, 1) := by decide +kernel
theorem dX7_endOf_51 : decode cX7_endOf 51 = .ok (.ireturn, 1) := by decide +kernel
theorem dX7_endOf_52 : decode cX7_endOf 52 = .ok (.iinc 3 1, 3) := by decide +kernel
theorem dX7_endOf_55 : decode cX7_endOf 55 = .ok (.goto (-42), 3) := by decide +kernel
theorem dX7_endOf_58 : decode cX7_endOf 58 = .ok (.aload_n 0, 1) := by decide +kernel
theorem dX7_endOf_59 : decode cX7_endOf 59 = .ok (.getfield 18, 3) := by decide +kernel
theorem dX7_endOf_62 : decode cX7_endOf 62 = .ok (.ireturn, 1) := by decide +kernel
theorem dX7_leafAt_0 : decode cX7_leafAt 0 = .ok (.iconst 0, 1) := by decide +kernel
theorem dX7_leafAt_1 : decode cX7_leafAt 1 = .ok (.istore_n 2, 1) := by decide +kernel
theorem dX7_leafAt_2 : decode cX7_leafAt 2 = .ok (.iconst 0, 1) := by decide +kernel
theorem dX7_leafAt_3 : decode cX7_leafAt 3 = .ok (.istore_n 3, 1) := by decide +kernel
theorem dX7_leafAt_4 : decode cX7_leafAt 4 = .ok (.iload_n 3, 1) := by decide +kernel
theorem dX7_leafAt_5 : decode cX7_leafAt 5 = .ok (.aload_n 0, 1) := by decide +kernel
theorem dX7_leafAt_6 : decode cX7_leafAt 6 = .ok (.getfield 18, 3) := by decide +kernel
theorem dX7_leafAt_9 : decode cX7_leafAt 9 = .ok (.if_icmp .ge 27, 3) := by decide +kernel
theorem dX7_leafAt_12 : decode cX7_leafAt 12 = .ok (.aload_n 0, 1) := by decide +kernel
theorem dX7_leafAt_13 : decode cX7_leafAt 13 = .ok (.iload_n 3, 1) := by decide +kernel
theorem dX7_leafAt_14 : decode cX7_leafAt 14 = .ok (.invokevirtual 43, 3) := by decide +kernel
theorem dX7_leafAt_17 : decode cX7_leafAt 17 = .ok (.ifCond .ne 13, 3) := by decide +kernel
theorem dX7_leafAt_20 : decode cX7_leafAt 20 = .ok (.iload_n 2, 1) := by decide +kernel
theorem dX7_leafAt_21 : decode cX7_leafAt 21 = .ok (.iload_n 1, 1) := by decide +kernel
theorem dX7_leafAt_22 : decode cX7_leafAt 22 = .ok (.if_icmp .ne 5, 3) := by decide +kernel
theorem dX7_leafAt_25 : decode cX7_leafAt 25 = .ok (.iload_n 3, 1) := by decide +kernel
theorem dX7_leafAt_26 : decode cX7_leafAt 26 = .ok (.ireturn, 1) := by decide +kernel
theorem dX7_leafAt_27 : decode cX7_leafAt 27 = .ok (.iinc 2 1, 3) := by decide +kernel
theorem dX7_leafAt_30 : decode cX7_leafAt 30 = .ok (.iinc 3 1, 3) := by decide +kernel
theorem dX7_leafAt_33 : decode cX7_leafAt 33 = .ok (.goto (-29), 3) := by decide +kernel
theorem dX7_leafAt_36 : decode cX7_leafAt 36 = .ok (.iconst (-1), 1) := by decide +kernel
theorem dX7_leafAt_37 : decode cX7_leafAt 37 = .ok (.ireturn, 1) := by decide +kernel
theorem dX7_hasRoomFor_0 : decode cX7_hasRoomFor 0 = .ok (.aload_n 0, 1) := by decide +kernel
theorem dX7_hasRoomFor_1 : decode cX7_hasRoomFor 1 = .ok (.invokevirtual 36, 3) := by decide +kernel
theorem dX7_hasRoomFor_4 : decode cX7_hasRoomFor 4 = .ok (.aload_n 1, 1) := by decide +kernel
theorem dX7_hasRoomFor_5 : decode cX7_hasRoomFor 5 = .ok (.invokevirtual 36, 3) := by decide +kernel
theorem dX7_hasRoomFor_8 : decode cX7_hasRoomFor 8 = .ok (.iadd, 1) := by decide +kernel
theorem dX7_hasRoomFor_9 : decode cX7_hasRoomFor 9 = .ok (.bipush 6, 2) := by decide +kernel
theorem dX7_hasRoomFor_11 : decode cX7_hasRoomFor 11 = .ok (.if_icmp .gt 7, 3) := by decide +kernel
theorem dX7_hasRoomFor_14 : decode cX7_hasRoomFor 14 = .ok (.iconst 1, 1) := by decide +kernel
theorem dX7_hasRoomFor_15 : decode cX7_hasRoomFor 15 = .ok (.goto 4, 3) := by decide +kernel
theorem dX7_hasRoomFor_18 : decode cX7_hasRoomFor 18 = .ok (.iconst 0, 1) := by decide +kernel
theorem dX7_hasRoomFor_19 : decode cX7_hasRoomFor 19 = .ok (.ireturn, 1) := by decide +kernel
theorem dX7_graftAt_0 : decode cX7_graftAt 0 = .ok (.aload_n 2, 1) := by decide +kernel
theorem dX7_graftAt_1 : decode cX7_graftAt 1 = .ok (.getfield 18, 3) := by decide +kernel
theorem dX7_graftAt_4 : decode cX7_graftAt 4 = .ok (.iconst 1, 1) := by decide +kernel
theorem dX7_graftAt_5 : decode cX7_graftAt 5 = .ok (.isub, 1) := by decide +kernel
theorem dX7_graftAt_6 : decode cX7_graftAt 6 = .ok (.istore_n 3, 1) := by decide +kernel
theorem dX7_graftAt_7 : decode cX7_graftAt 7 = .ok (.iload_n 1, 1) := by decide +kernel
theorem dX7_graftAt_8 : decode cX7_graftAt 8 = .ok (.ifCond .lt 22, 3) := by decide +kernel
theorem dX7_graftAt_11 : decode cX7_graftAt 11 = .ok (.iload_n 1, 1) := by decide +kernel
theorem dX7_graftAt_12 : decode cX7_graftAt 12 = .ok (.aload_n 0, 1) := by decide +kernel
theorem dX7_graftAt_13 : decode cX7_graftAt 13 = .ok (.getfield 18, 3) := by decide +kernel
theorem dX7_graftAt_16 : decode cX7_graftAt 16 = .ok (.if_icmp .ge 14, 3) := by decide +kernel
theorem dX7_graftAt_19 : decode cX7_graftAt 19 = .ok (.aload_n 0, 1) := by decide +kernel
theorem dX7_graftAt_20 : decode cX7_graftAt 20 = .ok (.getfield 18, 3) := by decide +kernel
theorem dX7_graftAt_23 : decode cX7_graftAt 23 = .ok (.iload_n 3, 1) := by decide +kernel
theorem dX7_graftAt_24 : decode cX7_graftAt 24 = .ok (.iadd, 1) := by decide +kernel
theorem dX7_graftAt_25 : decode cX7_graftAt 25 = .ok (.bipush 13, 2) := by decide +kernel
theorem dX7_graftAt_27 : decode cX7_graftAt 27 = .ok (.if_icmp .le 4, 3) := by decide +kernel
theorem dX7_graftAt_30 : decode cX7_graftAt 30 = .ok (.return_, 1) := by decide +kernel
theorem dX7_graftAt_31 : decode cX7_graftAt 31 = .ok (.aload_n 0, 1) := by decide +kernel
theorem dX7_graftAt_32 : decode cX7_graftAt 32 = .ok (.getfield 18, 3) := by decide +kernel
theorem dX7_graftAt_35 : decode cX7_graftAt 35 = .ok (.istore 4, 2) := by decide +kernel
theorem dX7_graftAt_37 : decode cX7_graftAt 37 = .ok (.aload_n 0, 1) := by decide +kernel
theorem dX7_graftAt_38 : decode cX7_graftAt 38 = .ok (.dup, 1) := by decide +kernel
theorem dX7_graftAt_39 : decode cX7_graftAt 39 = .ok (.getfield 18, 3) := by decide +kernel
theorem dX7_graftAt_42 : decode cX7_graftAt 42 = .ok (.iload_n 3, 1) := by decide +kernel
theorem dX7_graftAt_43 : decode cX7_graftAt 43 = .ok (.iadd, 1) := by decide +kernel
theorem dX7_graftAt_44 : decode cX7_graftAt 44 = .ok (.putfield 18, 3) := by decide +kernel
theorem dX7_graftAt_47 : decode cX7_graftAt 47 = .ok (.iload 4, 2) := by decide +kernel
theorem dX7_graftAt_49 : decode cX7_graftAt 49 = .ok (.iconst 1, 1) := by decide +kernel
theorem dX7_graftAt_50 : decode cX7_graftAt 50 = .ok (.isub, 1) := by decide +kernel
theorem dX7_graftAt_51 : decode cX7_graftAt 51 = .ok (.istore 5, 2) := by decide +kernel
theorem dX7_graftAt_53 : decode cX7_graftAt 53 = .ok (.iload 5, 2) := by decide +kernel
theorem dX7_graftAt_55 : decode cX7_graftAt 55 = .ok (.iload_n 1, 1) := by decide +kernel
theorem dX7_graftAt_56 : decode cX7_graftAt 56 = .ok (.if_icmp .le 23, 3) := by decide +kernel
theorem dX7_graftAt_59 : decode cX7_graftAt 59 = .ok (.aload_n 0, 1) := by decide +kernel
theorem dX7_graftAt_60 : decode cX7_graftAt 60 = .ok (.iload 5, 2) := by decide +kernel
theorem dX7_graftAt_62 : decode cX7_graftAt 62 = .ok (.iload_n 3, 1) := by decide +kernel
theorem dX7_graftAt_63 : decode cX7_graftAt 63 = .ok (.iadd, 1) := by decide +kernel
theorem dX7_graftAt_64 : decode cX7_graftAt 64 = .ok (.aload_n 0, 1) := by decide +kernel
theorem dX7_graftAt_65 : decode cX7_graftAt 65 = .ok (.iload 5, 2) := by decide +kernel
theorem dX7_graftAt_67 : decode cX7_graftAt 67 = .ok (.invokevirtual 32, 3) := by decide +kernel
theorem dX7_graftAt_70 : decode cX7_graftAt 70 = .ok (.invokevirtual 47, 3) := by decide +kernel
theorem dX7_graftAt_73 : decode cX7_graftAt 73 = .ok (.iinc 5 (-1), 3) := by decide +kernel
theorem dX7_graftAt_76 : decode cX7_graftAt 76 = .ok (.goto (-23), 3) := by decide +kernel
theorem dX7_graftAt_79 : decode cX7_graftAt 79 = .ok (.iconst 0, 1) := by decide +kernel
theorem dX7_graftAt_80 : decode cX7_graftAt 80 = .ok (.istore 5, 2) := by decide +kernel
theorem dX7_graftAt_82 : decode cX7_graftAt 82 = .ok (.iload 5, 2) := by decide +kernel
theorem dX7_graftAt_84 : decode cX7_graftAt 84 = .ok (.aload_n 2, 1) := by decide +kernel
theorem dX7_graftAt_85 : decode cX7_graftAt 85 = .ok (.getfield 18, 3) := by decide +kernel
theorem dX7_graftAt_88 : decode cX7_graftAt 88 = .ok (.if_icmp .ge 23, 3) := by decide +kernel
theorem dX7_graftAt_91 : decode cX7_graftAt 91 = .ok (.aload_n 0, 1) := by decide +kernel
theorem dX7_graftAt_92 : decode cX7_graftAt 92 = .ok (.iload_n 1, 1) := by decide +kernel
theorem dX7_graftAt_93 : decode cX7_graftAt 93 = .ok (.iload 5, 2) := by decide +kernel
theorem dX7_graftAt_95 : decode cX7_graftAt 95 = .ok (.iadd, 1) := by decide +kernel
theorem dX7_graftAt_96 : decode cX7_graftAt 96 = .ok (.aload_n 2, 1) := by decide +kernel
theorem dX7_graftAt_97 : decode cX7_graftAt 97 = .ok (.iload 5, 2) := by decide +kernel
theorem dX7_graftAt_99 : decode cX7_graftAt 99 = .ok (.invokevirtual 32, 3) := by decide +kernel
theorem dX7_graftAt_102 : decode cX7_graftAt 102 = .ok (.invokevirtual 47, 3) := by decide +kernel
theorem dX7_graftAt_105 : decode cX7_graftAt 105 = .ok (.iinc 5 1, 3) := by decide +kernel
theorem dX7_graftAt_108 : decode cX7_graftAt 108 = .ok (.goto (-26), 3) := by decide +kernel
theorem dX7_graftAt_111 : decode cX7_graftAt 111 = .ok (.return_, 1) := by decide +kernel
theorem dX7_patternAt_0 : decode cX7_patternAt 0 = .ok (.iload_n 1, 1) := by decide +kernel
theorem dX7_patternAt_1 : decode cX7_patternAt 1 = .ok (.iconst 2, 1) := by decide +kernel
theorem dX7_patternAt_2 : decode cX7_patternAt 2 = .ok (.idiv, 1) := by decide +kernel
theorem dX7_patternAt_3 : decode cX7_patternAt 3 = .ok (.istore_n 2, 1) := by decide +kernel
theorem dX7_patternAt_4 : decode cX7_patternAt 4 = .ok (.iload_n 1, 1) := by decide +kernel
theorem dX7_patternAt_5 : decode cX7_patternAt 5 = .ok (.iconst 1, 1) := by decide +kernel
theorem dX7_patternAt_6 : decode cX7_patternAt 6 = .ok (.iand, 1) := by decide +kernel
theorem dX7_patternAt_7 : decode cX7_patternAt 7 = .ok (.istore_n 3, 1) := by decide +kernel
theorem dX7_patternAt_8 : decode cX7_patternAt 8 = .ok (.aload_n 0, 1) := by decide +kernel
theorem dX7_patternAt_9 : decode cX7_patternAt 9 = .ok (.iload_n 2, 1) := by decide +kernel
theorem dX7_patternAt_10 : decode cX7_patternAt 10 = .ok (.invokevirtual 32, 3) := by decide +kernel
theorem dX7_patternAt_13 : decode cX7_patternAt 13 = .ok (.istore 4, 2) := by decide +kernel
theorem dX7_patternAt_15 : decode cX7_patternAt 15 = .ok (.iload_n 1, 1) := by decide +kernel
theorem dX7_patternAt_16 : decode cX7_patternAt 16 = .ok (.ifCond .lt 8, 3) := by decide +kernel
theorem dX7_patternAt_19 : decode cX7_patternAt 19 = .ok (.iload 4, 2) := by decide +kernel
theorem dX7_patternAt_21 : decode cX7_patternAt 21 = .ok (.ifCond .ne 5, 3) := by decide +kernel
theorem dX7_patternAt_24 : decode cX7_patternAt 24 = .ok (.iconst (-1), 1) := by decide +kernel
theorem dX7_patternAt_25 : decode cX7_patternAt 25 = .ok (.ireturn, 1) := by decide +kernel
theorem dX7_patternAt_26 : decode cX7_patternAt 26 = .ok (.aload_n 0, 1) := by decide +kernel
theorem dX7_patternAt_27 : decode cX7_patternAt 27 = .ok (.iload_n 3, 1) := by decide +kernel
theorem dX7_patternAt_28 : decode cX7_patternAt 28 = .ok (.ifCond .ne 9, 3) := by decide +kernel
theorem dX7_patternAt_31 : decode cX7_patternAt 31 = .ok (.iload_n 2, 1) := by decide +kernel
theorem dX7_patternAt_32 : decode cX7_patternAt 32 = .ok (.iconst 1, 1) := by decide +kernel
theorem dX7_patternAt_33 : decode cX7_patternAt 33 = .ok (.iadd, 1) := by decide +kernel
theorem dX7_patternAt_34 : decode cX7_patternAt 34 = .ok (.goto 10, 3) := by decide +kernel
theorem dX7_patternAt_37 : decode cX7_patternAt 37 = .ok (.aload_n 0, 1) := by decide +kernel
theorem dX7_patternAt_38 : decode cX7_patternAt 38 = .ok (.iload_n 2, 1) := by decide +kernel
theorem dX7_patternAt_39 : decode cX7_patternAt 39 = .ok (.iconst 1, 1) := by decide +kernel
theorem dX7_patternAt_40 : decode cX7_patternAt 40 = .ok (.iadd, 1) := by decide +kernel
theorem dX7_patternAt_41 : decode cX7_patternAt 41 = .ok (.invokevirtual 51, 3) := by decide +kernel
theorem dX7_patternAt_44 : decode cX7_patternAt 44 = .ok (.invokevirtual 32, 3) := by decide +kernel
theorem dX7_patternAt_47 : decode cX7_patternAt 47 = .ok (.istore 5, 2) := by decide +kernel
theorem dX7_patternAt_49 : decode cX7_patternAt 49 = .ok (.iload 5, 2) := by decide +kernel
theorem dX7_patternAt_51 : decode cX7_patternAt 51 = .ok (.ifCond .ne 5, 3) := by decide +kernel
theorem dX7_patternAt_54 : decode cX7_patternAt 54 = .ok (.iconst (-1), 1) := by decide +kernel
theorem dX7_patternAt_55 : decode cX7_patternAt 55 = .ok (.ireturn, 1) := by decide +kernel
theorem dX7_patternAt_56 : decode cX7_patternAt 56 = .ok (.iconst 4, 1) := by decide +kernel
theorem dX7_patternAt_57 : decode cX7_patternAt 57 = .ok (.iload 4, 2) := by decide +kernel
theorem dX7_patternAt_59 : decode cX7_patternAt 59 = .ok (.iconst 1, 1) := by decide +kernel
theorem dX7_patternAt_60 : decode cX7_patternAt 60 = .ok (.isub, 1) := by decide +kernel
theorem dX7_patternAt_61 : decode cX7_patternAt 61 = .ok (.imul, 1) := by decide +kernel
theorem dX7_patternAt_62 : decode cX7_patternAt 62 = .ok (.iconst 2, 1) := by decide +kernel
theorem dX7_patternAt_63 : decode cX7_patternAt 63 = .ok (.iload 5, 2) := by decide +kernel
theorem dX7_patternAt_65 : decode cX7_patternAt 65 = .ok (.iconst 1, 1) := by decide +kernel
theorem dX7_patternAt_66 : decode cX7_patternAt 66 = .ok (.isub, 1) := by decide +kernel
theorem dX7_patternAt_67 : decode cX7_patternAt 67 = .ok (.imul, 1) := by decide +kernel
theorem dX7_patternAt_68 : decode cX7_patternAt 68 = .ok (.iadd, 1) := by decide +kernel
theorem dX7_patternAt_69 : decode cX7_patternAt 69 = .ok (.iload_n 3, 1) := by decide +kernel
theorem dX7_patternAt_70 : decode cX7_patternAt 70 = .ok (.iadd, 1) := by decide +kernel
theorem dX7_patternAt_71 : decode cX7_patternAt 71 = .ok (.ireturn, 1) := by decide +kernel
theorem dX7_spotOf_0 : decode cX7_spotOf 0 = .ok (.iconst 0, 1) := by decide +kernel
theorem dX7_spotOf_1 : decode cX7_spotOf 1 = .ok (.istore_n 3, 1) := by decide +kernel
theorem dX7_spotOf_2 : decode cX7_spotOf 2 = .ok (.iconst 0, 1) := by decide +kernel
theorem dX7_spotOf_3 : decode cX7_spotOf 3 = .ok (.istore 4, 2) := by decide +kernel
theorem dX7_spotOf_5 : decode cX7_spotOf 5 = .ok (.iload 4, 2) := by decide +kernel
theorem dX7_spotOf_7 : decode cX7_spotOf 7 = .ok (.iconst 2, 1) := by decide +kernel
theorem dX7_spotOf_8 : decode cX7_spotOf 8 = .ok (.aload_n 0, 1) := by decide +kernel
theorem dX7_spotOf_9 : decode cX7_spotOf 9 = .ok (.getfield 18, 3) := by decide +kernel
theorem dX7_spotOf_12 : decode cX7_spotOf 12 = .ok (.imul, 1) := by decide +kernel
theorem dX7_spotOf_13 : decode cX7_spotOf 13 = .ok (.if_icmp .ge 33, 3) := by decide +kernel
theorem dX7_spotOf_16 : decode cX7_spotOf 16 = .ok (.aload_n 2, 1) := by decide +kernel
theorem dX7_spotOf_17 : decode cX7_spotOf 17 = .ok (.aload_n 0, 1) := by decide +kernel
theorem dX7_spotOf_18 : decode cX7_spotOf 18 = .ok (.iload 4, 2) := by decide +kernel
theorem dX7_spotOf_20 : decode cX7_spotOf 20 = .ok (.invokevirtual 54, 3) := by decide +kernel
theorem dX7_spotOf_23 : decode cX7_spotOf 23 = .ok (.invokevirtual 57, 3) := by decide +kernel
theorem dX7_spotOf_26 : decode cX7_spotOf 26 = .ok (.ifCond .eq 14, 3) := by decide +kernel
theorem dX7_spotOf_29 : decode cX7_spotOf 29 = .ok (.iload_n 3, 1) := by decide +kernel
theorem dX7_spotOf_30 : decode cX7_spotOf 30 = .ok (.iload_n 1, 1) := by decide +kernel
theorem dX7_spotOf_31 : decode cX7_spotOf 31 = .ok (.if_icmp .ne 6, 3) := by decide +kernel
theorem dX7_spotOf_34 : decode cX7_spotOf 34 = .ok (.iload 4, 2) := by decide +kernel
theorem dX7_spotOf_36 : decode cX7_spotOf 36 = .ok (.ireturn, 1) := by decide +kernel
theorem dX7_spotOf_37 : decode cX7_spotOf 37 = .ok (.iinc 3 1, 3) := by decide +kernel
theorem dX7_spotOf_40 : decode cX7_spotOf 40 = .ok (.iinc 4 1, 3) := by decide +kernel
theorem dX7_spotOf_43 : decode cX7_spotOf 43 = .ok (.goto (-38), 3) := by decide +kernel
theorem dX7_spotOf_46 : decode cX7_spotOf 46 = .ok (.iconst (-1), 1) := by decide +kernel
theorem dX7_spotOf_47 : decode cX7_spotOf 47 = .ok (.ireturn, 1) := by decide +kernel
theorem dX7_places_0 : decode cX7_places 0 = .ok (.iconst 0, 1) := by decide +kernel
theorem dX7_places_1 : decode cX7_places 1 = .ok (.istore_n 2, 1) := by decide +kernel
theorem dX7_places_2 : decode cX7_places 2 = .ok (.iconst 0, 1) := by decide +kernel
theorem dX7_places_3 : decode cX7_places 3 = .ok (.istore_n 3, 1) := by decide +kernel
theorem dX7_places_4 : decode cX7_places 4 = .ok (.iload_n 3, 1) := by decide +kernel
theorem dX7_places_5 : decode cX7_places 5 = .ok (.iconst 2, 1) := by decide +kernel
theorem dX7_places_6 : decode cX7_places 6 = .ok (.aload_n 0, 1) := by decide +kernel
theorem dX7_places_7 : decode cX7_places 7 = .ok (.getfield 18, 3) := by decide +kernel
theorem dX7_places_10 : decode cX7_places 10 = .ok (.imul, 1) := by decide +kernel
theorem dX7_places_11 : decode cX7_places 11 = .ok (.if_icmp .ge 24, 3) := by decide +kernel
theorem dX7_places_14 : decode cX7_places 14 = .ok (.aload_n 1, 1) := by decide +kernel
theorem dX7_places_15 : decode cX7_places 15 = .ok (.aload_n 0, 1) := by decide +kernel
theorem dX7_places_16 : decode cX7_places 16 = .ok (.iload_n 3, 1) := by decide +kernel
theorem dX7_places_17 : decode cX7_places 17 = .ok (.invokevirtual 54, 3) := by decide +kernel
theorem dX7_places_20 : decode cX7_places 20 = .ok (.invokevirtual 57, 3) := by decide +kernel
theorem dX7_places_23 : decode cX7_places 23 = .ok (.ifCond .eq 6, 3) := by decide +kernel
theorem dX7_places_26 : decode cX7_places 26 = .ok (.iinc 2 1, 3) := by decide +kernel
theorem dX7_places_29 : decode cX7_places 29 = .ok (.iinc 3 1, 3) := by decide +kernel
theorem dX7_places_32 : decode cX7_places 32 = .ok (.goto (-28), 3) := by decide +kernel
theorem dX7_places_35 : decode cX7_places 35 = .ok (.iload_n 2, 1) := by decide +kernel
theorem dX7_places_36 : decode cX7_places 36 = .ok (.ireturn, 1) := by decide +kernel
theorem dX7_stepAt_0 : decode cX7_stepAt 0 = .ok (.aload_n 0, 1) := by decide +kernel
theorem dX7_stepAt_1 : decode cX7_stepAt 1 = .ok (.iload_n 1, 1) := by decide +kernel
theorem dX7_stepAt_2 : decode cX7_stepAt 2 = .ok (.invokevirtual 54, 3) := by decide +kernel
theorem dX7_stepAt_5 : decode cX7_stepAt 5 = .ok (.istore_n 3, 1) := by decide +kernel
theorem dX7_stepAt_6 : decode cX7_stepAt 6 = .ok (.aload_n 2, 1) := by decide +kernel
theorem dX7_stepAt_7 : decode cX7_stepAt 7 = .ok (.iload_n 3, 1) := by decide +kernel
theorem dX7_stepAt_8 : decode cX7_stepAt 8 = .ok (.invokevirtual 57, 3) := by decide +kernel
theorem dX7_stepAt_11 : decode cX7_stepAt 11 = .ok (.istore 4, 2) := by decide +kernel
theorem dX7_stepAt_13 : decode cX7_stepAt 13 = .ok (.iload 4, 2) := by decide +kernel
theorem dX7_stepAt_15 : decode cX7_stepAt 15 = .ok (.iconst 1, 1) := by decide +kernel
theorem dX7_stepAt_16 : decode cX7_stepAt 16 = .ok (.if_icmp .ne 11, 3) := by decide +kernel
theorem dX7_stepAt_19 : decode cX7_stepAt 19 = .ok (.aload_n 0, 1) := by decide +kernel
theorem dX7_stepAt_20 : decode cX7_stepAt 20 = .ok (.iconst 0, 1) := by decide +kernel
theorem dX7_stepAt_21 : decode cX7_stepAt 21 = .ok (.invokevirtual 62, 3) := by decide +kernel
theorem dX7_stepAt_24 : decode cX7_stepAt 24 = .ok (.goto 40, 3) := by decide +kernel
theorem dX7_stepAt_27 : decode cX7_stepAt 27 = .ok (.iload 4, 2) := by decide +kernel
theorem dX7_stepAt_29 : decode cX7_stepAt 29 = .ok (.ifCond .eq 35, 3) := by decide +kernel
theorem dX7_stepAt_32 : decode cX7_stepAt 32 = .ok (.aload_n 0, 1) := by decide +kernel
theorem dX7_stepAt_33 : decode cX7_stepAt 33 = .ok (.iload_n 1, 1) := by decide +kernel
theorem dX7_stepAt_34 : decode cX7_stepAt 34 = .ok (.aload_n 2, 1) := by decide +kernel
theorem dX7_stepAt_35 : decode cX7_stepAt 35 = .ok (.iload_n 3, 1) := by decide +kernel
theorem dX7_stepAt_36 : decode cX7_stepAt 36 = .ok (.invokevirtual 65, 3) := by decide +kernel
theorem dX7_stepAt_39 : decode cX7_stepAt 39 = .ok (.invokevirtual 68, 3) := by decide +kernel
theorem dX7_stepAt_42 : decode cX7_stepAt 42 = .ok (.aload_n 0, 1) := by decide +kernel
theorem dX7_stepAt_43 : decode cX7_stepAt 43 = .ok (.iload 4, 2) := by decide +kernel
theorem dX7_stepAt_45 : decode cX7_stepAt 45 = .ok (.iconst 3, 1) := by decide +kernel
theorem dX7_stepAt_46 : decode cX7_stepAt 46 = .ok (.if_icmp .ne 11, 3) := by decide +kernel
theorem dX7_stepAt_49 : decode cX7_stepAt 49 = .ok (.aload_n 0, 1) := by decide +kernel
theorem dX7_stepAt_50 : decode cX7_stepAt 50 = .ok (.getfield 22, 3) := by decide +kernel
theorem dX7_stepAt_53 : decode cX7_stepAt 53 = .ok (.ineg, 1) := by decide +kernel
theorem dX7_stepAt_54 : decode cX7_stepAt 54 = .ok (.goto 7, 3) := by decide +kernel
theorem dX7_stepAt_57 : decode cX7_stepAt 57 = .ok (.aload_n 0, 1) := by decide +kernel
theorem dX7_stepAt_58 : decode cX7_stepAt 58 = .ok (.getfield 22, 3) := by decide +kernel
theorem dX7_stepAt_61 : decode cX7_stepAt 61 = .ok (.putfield 22, 3) := by decide +kernel
theorem dX7_stepAt_64 : decode cX7_stepAt 64 = .ok (.return_, 1) := by decide +kernel
theorem dX7_rebuild_0 : decode cX7_rebuild 0 = .ok (.iload_n 1, 1) := by decide +kernel
theorem dX7_rebuild_1 : decode cX7_rebuild 1 = .ok (.iconst 2, 1) := by decide +kernel
theorem dX7_rebuild_2 : decode cX7_rebuild 2 = .ok (.idiv, 1) := by decide +kernel
theorem dX7_rebuild_3 : decode cX7_rebuild 3 = .ok (.istore_n 3, 1) := by decide +kernel
theorem dX7_rebuild_4 : decode cX7_rebuild 4 = .ok (.iload_n 1, 1) := by decide +kernel
theorem dX7_rebuild_5 : decode cX7_rebuild 5 = .ok (.iconst 1, 1) := by decide +kernel
theorem dX7_rebuild_6 : decode cX7_rebuild 6 = .ok (.iand, 1) := by decide +kernel
theorem dX7_rebuild_7 : decode cX7_rebuild 7 = .ok (.istore 4, 2) := by decide +kernel
theorem dX7_rebuild_9 : decode cX7_rebuild 9 = .ok (.iload_n 2, 1) := by decide +kernel
theorem dX7_rebuild_10 : decode cX7_rebuild 10 = .ok (.invokestatic 71, 3) := by decide +kernel
theorem dX7_rebuild_13 : decode cX7_rebuild 13 = .ok (.istore 5, 2) := by decide +kernel
theorem dX7_rebuild_15 : decode cX7_rebuild 15 = .ok (.iload 4, 2) := by decide +kernel
theorem dX7_rebuild_17 : decode cX7_rebuild 17 = .ok (.ifCond .ne 9, 3) := by decide +kernel
theorem dX7_rebuild_20 : decode cX7_rebuild 20 = .ok (.iload_n 3, 1) := by decide +kernel
theorem dX7_rebuild_21 : decode cX7_rebuild 21 = .ok (.iconst 1, 1) := by decide +kernel
theorem dX7_rebuild_22 : decode cX7_rebuild 22 = .ok (.iadd, 1) := by decide +kernel
theorem dX7_rebuild_23 : decode cX7_rebuild 23 = .ok (.goto 10, 3) := by decide +kernel
theorem dX7_rebuild_26 : decode cX7_rebuild 26 = .ok (.aload_n 0, 1) := by decide +kernel
theorem dX7_rebuild_27 : decode cX7_rebuild 27 = .ok (.iload_n 3, 1) := by decide +kernel
theorem dX7_rebuild_28 : decode cX7_rebuild 28 = .ok (.iconst 1, 1) := by decide +kernel
theorem dX7_rebuild_29 : decode cX7_rebuild 29 = .ok (.iadd, 1) := by decide +kernel
theorem dX7_rebuild_30 : decode cX7_rebuild 30 = .ok (.invokevirtual 51, 3) := by decide +kernel
theorem dX7_rebuild_33 : decode cX7_rebuild 33 = .ok (.istore 6, 2) := by decide +kernel
theorem dX7_rebuild_35 : decode cX7_rebuild 35 = .ok (.iload 6, 2) := by decide +kernel
theorem dX7_rebuild_37 : decode cX7_rebuild 37 = .ok (.istore 7, 2) := by decide +kernel
theorem dX7_rebuild_39 : decode cX7_rebuild 39 = .ok (.iload 4, 2) := by decide +kernel
theorem dX7_rebuild_41 : decode cX7_rebuild 41 = .ok (.ifCond .ne 23, 3) := by decide +kernel
theorem dX7_rebuild_44 : decode cX7_rebuild 44 = .ok (.iload 5, 2) := by decide +kernel
theorem dX7_rebuild_46 : decode cX7_rebuild 46 = .ok (.iconst 1, 1) := by decide +kernel
theorem dX7_rebuild_47 : decode cX7_rebuild 47 = .ok (.if_icmp .ne 17, 3) := by decide +kernel
theorem dX7_rebuild_50 : decode cX7_rebuild 50 = .ok (.aload_n 0, 1) := by decide +kernel
theorem dX7_rebuild_51 : decode cX7_rebuild 51 = .ok (.iload_n 3, 1) := by decide +kernel
theorem dX7_rebuild_52 : decode cX7_rebuild 52 = .ok (.iconst 2, 1) := by decide +kernel
theorem dX7_rebuild_53 : decode cX7_rebuild 53 = .ok (.iadd, 1) := by decide +kernel
theorem dX7_rebuild_54 : decode cX7_rebuild 54 = .ok (.invokevirtual 51, 3) := by decide +kernel
theorem dX7_rebuild_57 : decode cX7_rebuild 57 = .ok (.iconst 1, 1) := by decide +kernel
theorem dX7_rebuild_58 : decode cX7_rebuild 58 = .ok (.isub, 1) := by decide +kernel
theorem dX7_rebuild_59 : decode cX7_rebuild 59 = .ok (.istore 7, 2) := by decide +kernel
theorem dX7_rebuild_61 : decode cX7_rebuild 61 = .ok (.goto 19, 3) := by decide +kernel
theorem dX7_rebuild_64 : decode cX7_rebuild 64 = .ok (.iload 4, 2) := by decide +kernel
theorem dX7_rebuild_66 : decode cX7_rebuild 66 = .ok (.iconst 1, 1) := by decide +kernel
theorem dX7_rebuild_67 : decode cX7_rebuild 67 = .ok (.if_icmp .ne 13, 3) := by decide +kernel
theorem dX7_rebuild_70 : decode cX7_rebuild 70 = .ok (.iload 5, 2) := by decide +kernel
theorem dX7_rebuild_72 : decode cX7_rebuild 72 = .ok (.ifCond .ne 8, 3) := by decide +kernel
theorem dX7_rebuild_75 : decode cX7_rebuild 75 = .ok (.iload_n 3, 1) := by decide +kernel
theorem dX7_rebuild_76 : decode cX7_rebuild 76 = .ok (.iconst 1, 1) := by decide +kernel
theorem dX7_rebuild_77 : decode cX7_rebuild 77 = .ok (.iadd, 1) := by decide +kernel
theorem dX7_rebuild_78 : decode cX7_rebuild 78 = .ok (.istore 7, 2) := by decide +kernel
theorem dX7_rebuild_80 : decode cX7_rebuild 80 = .ok (.iload 6, 2) := by decide +kernel
theorem dX7_rebuild_82 : decode cX7_rebuild 82 = .ok (.istore 8, 2) := by decide +kernel
theorem dX7_rebuild_84 : decode cX7_rebuild 84 = .ok (.iload 8, 2) := by decide +kernel
theorem dX7_rebuild_86 : decode cX7_rebuild 86 = .ok (.iload 7, 2) := by decide +kernel
theorem dX7_rebuild_88 : decode cX7_rebuild 88 = .ok (.if_icmp .ge 23, 3) := by decide +kernel
theorem dX7_rebuild_91 : decode cX7_rebuild 91 = .ok (.aload_n 0, 1) := by decide +kernel
theorem dX7_rebuild_92 : decode cX7_rebuild 92 = .ok (.iload 8, 2) := by decide +kernel
theorem dX7_rebuild_94 : decode cX7_rebuild 94 = .ok (.aload_n 0, 1) := by decide +kernel
theorem dX7_rebuild_95 : decode cX7_rebuild 95 = .ok (.iload 8, 2) := by decide +kernel
theorem dX7_rebuild_97 : decode cX7_rebuild 97 = .ok (.iconst 1, 1) := by decide +kernel
theorem dX7_rebuild_98 : decode cX7_rebuild 98 = .ok (.iadd, 1) := by decide +kernel
theorem dX7_rebuild_99 : decode cX7_rebuild 99 = .ok (.invokevirtual 32, 3) := by decide +kernel
theorem dX7_rebuild_102 : decode cX7_rebuild 102 = .ok (.invokevirtual 47, 3) := by decide +kernel
theorem dX7_rebuild_105 : decode cX7_rebuild 105 = .ok (.iinc 8 1, 3) := by decide +kernel
theorem dX7_rebuild_108 : decode cX7_rebuild 108 = .ok (.goto (-24), 3) := by decide +kernel
theorem dX7_rebuild_111 : decode cX7_rebuild 111 = .ok (.iload 6, 2) := by decide +kernel
theorem dX7_rebuild_113 : decode cX7_rebuild 113 = .ok (.istore 8, 2) := by decide +kernel
theorem dX7_rebuild_115 : decode cX7_rebuild 115 = .ok (.iload 8, 2) := by decide +kernel
theorem dX7_rebuild_117 : decode cX7_rebuild 117 = .ok (.iload 7, 2) := by decide +kernel
theorem dX7_rebuild_119 : decode cX7_rebuild 119 = .ok (.if_icmp .le 23, 3) := by decide +kernel
theorem dX7_rebuild_122 : decode cX7_rebuild 122 = .ok (.aload_n 0, 1) := by decide +kernel
theorem dX7_rebuild_123 : decode cX7_rebuild 123 = .ok (.iload 8, 2) := by decide +kernel
theorem dX7_rebuild_125 : decode cX7_rebuild 125 = .ok (.aload_n 0, 1) := by decide +kernel
theorem dX7_rebuild_126 : decode cX7_rebuild 126 = .ok (.iload 8, 2) := by decide +kernel
theorem dX7_rebuild_128 : decode cX7_rebuild 128 = .ok (.iconst 1, 1) := by decide +kernel
theorem dX7_rebuild_129 : decode cX7_rebuild 129 = .ok (.isub, 1) := by decide +kernel
theorem dX7_rebuild_130 : decode cX7_rebuild 130 = .ok (.invokevirtual 32, 3) := by decide +kernel
theorem dX7_rebuild_133 : decode cX7_rebuild 133 = .ok (.invokevirtual 47, 3) := by decide +kernel
theorem dX7_rebuild_136 : decode cX7_rebuild 136 = .ok (.iinc 8 (-1), 3) := by decide +kernel
theorem dX7_rebuild_139 : decode cX7_rebuild 139 = .ok (.goto (-24), 3) := by decide +kernel
theorem dX7_rebuild_142 : decode cX7_rebuild 142 = .ok (.aload_n 0, 1) := by decide +kernel
theorem dX7_rebuild_143 : decode cX7_rebuild 143 = .ok (.iload_n 3, 1) := by decide +kernel
theorem dX7_rebuild_144 : decode cX7_rebuild 144 = .ok (.iload_n 2, 1) := by decide +kernel
theorem dX7_rebuild_145 : decode cX7_rebuild 145 = .ok (.iconst 2, 1) := by decide +kernel
theorem dX7_rebuild_146 : decode cX7_rebuild 146 = .ok (.ishr, 1) := by decide +kernel
theorem dX7_rebuild_147 : decode cX7_rebuild 147 = .ok (.iconst 1, 1) := by decide +kernel
theorem dX7_rebuild_148 : decode cX7_rebuild 148 = .ok (.iand, 1) := by decide +kernel
theorem dX7_rebuild_149 : decode cX7_rebuild 149 = .ok (.iconst 1, 1) := by decide +kernel
theorem dX7_rebuild_150 : decode cX7_rebuild 150 = .ok (.iadd, 1) := by decide +kernel
theorem dX7_rebuild_151 : decode cX7_rebuild 151 = .ok (.invokevirtual 47, 3) := by decide +kernel
theorem dX7_rebuild_154 : decode cX7_rebuild 154 = .ok (.aload_n 0, 1) := by decide +kernel
theorem dX7_rebuild_155 : decode cX7_rebuild 155 = .ok (.iload 7, 2) := by decide +kernel
theorem dX7_rebuild_157 : decode cX7_rebuild 157 = .ok (.iload_n 2, 1) := by decide +kernel
theorem dX7_rebuild_158 : decode cX7_rebuild 158 = .ok (.iconst 1, 1) := by decide +kernel
theorem dX7_rebuild_159 : decode cX7_rebuild 159 = .ok (.ishr, 1) := by decide +kernel
theorem dX7_rebuild_160 : decode cX7_rebuild 160 = .ok (.iconst 1, 1) := by decide +kernel
theorem dX7_rebuild_161 : decode cX7_rebuild 161 = .ok (.iand, 1) := by decide +kernel
theorem dX7_rebuild_162 : decode cX7_rebuild 162 = .ok (.iconst 1, 1) := by decide +kernel
theorem dX7_rebuild_163 : decode cX7_rebuild 163 = .ok (.iadd, 1) := by decide +kernel
theorem dX7_rebuild_164 : decode cX7_rebuild 164 = .ok (.invokevirtual 47, 3) := by decide +kernel
theorem dX7_rebuild_167 : decode cX7_rebuild 167 = .ok (.return_, 1) := by decide +kernel
theorem dX7_makePlain_0 : decode cX7_makePlain 0 = .ok (.iconst 0, 1) := by decide +kernel
theorem dX7_makePlain_1 : decode cX7_makePlain 1 = .ok (.istore_n 2, 1) := by decide +kernel
theorem dX7_makePlain_2 : decode cX7_makePlain 2 = .ok (.iload_n 2, 1) := by decide +kernel
theorem dX7_makePlain_3 : decode cX7_makePlain 3 = .ok (.bipush 60, 2) := by decide +kernel
theorem dX7_makePlain_5 : decode cX7_makePlain 5 = .ok (.if_icmp .gt 29, 3) := by decide +kernel
theorem dX7_makePlain_8 : decode cX7_makePlain 8 = .ok (.aload_n 0, 1) := by decide +kernel
theorem dX7_makePlain_9 : decode cX7_makePlain 9 = .ok (.iconst 0, 1) := by decide +kernel
theorem dX7_makePlain_10 : decode cX7_makePlain 10 = .ok (.aload_n 1, 1) := by decide +kernel
theorem dX7_makePlain_11 : decode cX7_makePlain 11 = .ok (.invokevirtual 74, 3) := by decide +kernel
theorem dX7_makePlain_14 : decode cX7_makePlain 14 = .ok (.istore_n 3, 1) := by decide +kernel
theorem dX7_makePlain_15 : decode cX7_makePlain 15 = .ok (.iload_n 3, 1) := by decide +kernel
theorem dX7_makePlain_16 : decode cX7_makePlain 16 = .ok (.iconst (-1), 1) := by decide +kernel
theorem dX7_makePlain_17 : decode cX7_makePlain 17 = .ok (.if_icmp .ne 5, 3) := by decide +kernel
theorem dX7_makePlain_20 : decode cX7_makePlain 20 = .ok (.iload_n 2, 1) := by decide +kernel
theorem dX7_makePlain_21 : decode cX7_makePlain 21 = .ok (.ireturn, 1) := by decide +kernel
theorem dX7_makePlain_22 : decode cX7_makePlain 22 = .ok (.aload_n 0, 1) := by decide +kernel
theorem dX7_makePlain_23 : decode cX7_makePlain 23 = .ok (.iload_n 3, 1) := by decide +kernel
theorem dX7_makePlain_24 : decode cX7_makePlain 24 = .ok (.aload_n 1, 1) := by decide +kernel
theorem dX7_makePlain_25 : decode cX7_makePlain 25 = .ok (.invokevirtual 78, 3) := by decide +kernel
theorem dX7_makePlain_28 : decode cX7_makePlain 28 = .ok (.iinc 2 1, 3) := by decide +kernel
theorem dX7_makePlain_31 : decode cX7_makePlain 31 = .ok (.goto (-29), 3) := by decide +kernel
theorem dX7_makePlain_34 : decode cX7_makePlain 34 = .ok (.iconst (-1), 1) := by decide +kernel
theorem dX7_makePlain_35 : decode cX7_makePlain 35 = .ok (.ireturn, 1) := by decide +kernel
theorem dX7_handDown_0 : decode cX7_handDown 0 = .ok (.iload_n 1, 1) := by decide +kernel
theorem dX7_handDown_1 : decode cX7_handDown 1 = .ok (.ifCond .lt 16, 3) := by decide +kernel
theorem dX7_handDown_4 : decode cX7_handDown 4 = .ok (.iload_n 1, 1) := by decide +kernel
theorem dX7_handDown_5 : decode cX7_handDown 5 = .ok (.bipush 13, 2) := by decide +kernel
theorem dX7_handDown_7 : decode cX7_handDown 7 = .ok (.if_icmp .ge 10, 3) := by decide +kernel
theorem dX7_handDown_10 : decode cX7_handDown 10 = .ok (.aload_n 0, 1) := by decide +kernel
theorem dX7_handDown_11 : decode cX7_handDown 11 = .ok (.getfield 15, 3) := by decide +kernel
theorem dX7_handDown_14 : decode cX7_handDown 14 = .ok (.iload_n 1, 1) := by decide +kernel
theorem dX7_handDown_15 : decode cX7_handDown 15 = .ok (.iload_n 2, 1) := by decide +kernel
theorem dX7_handDown_16 : decode cX7_handDown 16 = .ok (.iastore, 1) := by decide +kernel
theorem dX7_handDown_17 : decode cX7_handDown 17 = .ok (.return_, 1) := by decide +kernel
theorem dX7_height_0 : decode cX7_height 0 = .ok (.iconst 0, 1) := by decide +kernel
theorem dX7_height_1 : decode cX7_height 1 = .ok (.istore_n 1, 1) := by decide +kernel
theorem dX7_height_2 : decode cX7_height 2 = .ok (.aload_n 0, 1) := by decide +kernel
theorem dX7_height_3 : decode cX7_height 3 = .ok (.iconst 0, 1) := by decide +kernel
theorem dX7_height_4 : decode cX7_height 4 = .ok (.iconst 1, 1) := by decide +kernel
theorem dX7_height_5 : decode cX7_height 5 = .ok (.invokevirtual 82, 3) := by decide +kernel
theorem dX7_height_8 : decode cX7_height 8 = .ok (.iconst 0, 1) := by decide +kernel
theorem dX7_height_9 : decode cX7_height 9 = .ok (.istore_n 2, 1) := by decide +kernel
theorem dX7_height_10 : decode cX7_height 10 = .ok (.iload_n 2, 1) := by decide +kernel
theorem dX7_height_11 : decode cX7_height 11 = .ok (.aload_n 0, 1) := by decide +kernel
theorem dX7_height_12 : decode cX7_height 12 = .ok (.getfield 18, 3) := by decide +kernel
theorem dX7_height_15 : decode cX7_height 15 = .ok (.if_icmp .ge 60, 3) := by decide +kernel
theorem dX7_height_18 : decode cX7_height 18 = .ok (.iload_n 2, 1) := by decide +kernel
theorem dX7_height_19 : decode cX7_height 19 = .ok (.bipush 13, 2) := by decide +kernel
theorem dX7_height_21 : decode cX7_height 21 = .ok (.if_icmp .ge 54, 3) := by decide +kernel
theorem dX7_height_24 : decode cX7_height 24 = .ok (.aload_n 0, 1) := by decide +kernel
theorem dX7_height_25 : decode cX7_height 25 = .ok (.iload_n 2, 1) := by decide +kernel
theorem dX7_height_26 : decode cX7_height 26 = .ok (.invokevirtual 43, 3) := by decide +kernel
theorem dX7_height_29 : decode cX7_height 29 = .ok (.ifCond .eq 40, 3) := by decide +kernel
theorem dX7_height_32 : decode cX7_height 32 = .ok (.aload_n 0, 1) := by decide +kernel
theorem dX7_height_33 : decode cX7_height 33 = .ok (.getfield 15, 3) := by decide +kernel
theorem dX7_height_36 : decode cX7_height 36 = .ok (.iload_n 2, 1) := by decide +kernel
theorem dX7_height_37 : decode cX7_height 37 = .ok (.iaload, 1) := by decide +kernel
theorem dX7_height_38 : decode cX7_height 38 = .ok (.istore_n 3, 1) := by decide +kernel
theorem dX7_height_39 : decode cX7_height 39 = .ok (.iload_n 1, 1) := by decide +kernel
theorem dX7_height_40 : decode cX7_height 40 = .ok (.iload_n 3, 1) := by decide +kernel
theorem dX7_height_41 : decode cX7_height 41 = .ok (.invokestatic 85, 3) := by decide +kernel
theorem dX7_height_44 : decode cX7_height 44 = .ok (.istore_n 1, 1) := by decide +kernel
theorem dX7_height_45 : decode cX7_height 45 = .ok (.aload_n 0, 1) := by decide +kernel
theorem dX7_height_46 : decode cX7_height 46 = .ok (.iload_n 2, 1) := by decide +kernel
theorem dX7_height_47 : decode cX7_height 47 = .ok (.iconst 1, 1) := by decide +kernel
theorem dX7_height_48 : decode cX7_height 48 = .ok (.iadd, 1) := by decide +kernel
theorem dX7_height_49 : decode cX7_height 49 = .ok (.iload_n 3, 1) := by decide +kernel
theorem dX7_height_50 : decode cX7_height 50 = .ok (.iconst 1, 1) := by decide +kernel
theorem dX7_height_51 : decode cX7_height 51 = .ok (.iadd, 1) := by decide +kernel
theorem dX7_height_52 : decode cX7_height 52 = .ok (.invokevirtual 82, 3) := by decide +kernel
theorem dX7_height_55 : decode cX7_height 55 = .ok (.aload_n 0, 1) := by decide +kernel
theorem dX7_height_56 : decode cX7_height 56 = .ok (.aload_n 0, 1) := by decide +kernel
theorem dX7_height_57 : decode cX7_height 57 = .ok (.iload_n 2, 1) := by decide +kernel
theorem dX7_height_58 : decode cX7_height 58 = .ok (.iconst 1, 1) := by decide +kernel
theorem dX7_height_59 : decode cX7_height 59 = .ok (.iadd, 1) := by decide +kernel
theorem dX7_height_60 : decode cX7_height 60 = .ok (.invokevirtual 51, 3) := by decide +kernel
theorem dX7_height_63 : decode cX7_height 63 = .ok (.iload_n 3, 1) := by decide +kernel
theorem dX7_height_64 : decode cX7_height 64 = .ok (.iconst 1, 1) := by decide +kernel
theorem dX7_height_65 : decode cX7_height 65 = .ok (.iadd, 1) := by decide +kernel
theorem dX7_height_66 : decode cX7_height 66 = .ok (.invokevirtual 82, 3) := by decide +kernel
theorem dX7_height_69 : decode cX7_height 69 = .ok (.iinc 2 1, 3) := by decide +kernel
theorem dX7_height_72 : decode cX7_height 72 = .ok (.goto (-62), 3) := by decide +kernel
theorem dX7_height_75 : decode cX7_height 75 = .ok (.iload_n 1, 1) := by decide +kernel
theorem dX7_height_76 : decode cX7_height 76 = .ok (.ireturn, 1) := by decide +kernel
theorem dX7_mirrorOf_0 : decode cX7_mirrorOf 0 = .ok (.aload_n 0, 1) := by decide +kernel
theorem dX7_mirrorOf_1 : decode cX7_mirrorOf 1 = .ok (.aload_n 1, 1) := by decide +kernel
theorem dX7_mirrorOf_2 : decode cX7_mirrorOf 2 = .ok (.invokevirtual 91, 3) := by decide +kernel
theorem dX7_mirrorOf_5 : decode cX7_mirrorOf 5 = .ok (.aload_n 0, 1) := by decide +kernel
theorem dX7_mirrorOf_6 : decode cX7_mirrorOf 6 = .ok (.iconst 0, 1) := by decide +kernel
theorem dX7_mirrorOf_7 : decode cX7_mirrorOf 7 = .ok (.iconst 0, 1) := by decide +kernel
theorem dX7_mirrorOf_8 : decode cX7_mirrorOf 8 = .ok (.invokevirtual 82, 3) := by decide +kernel
theorem dX7_mirrorOf_11 : decode cX7_mirrorOf 11 = .ok (.iconst 0, 1) := by decide +kernel
theorem dX7_mirrorOf_12 : decode cX7_mirrorOf 12 = .ok (.istore_n 2, 1) := by decide +kernel
theorem dX7_mirrorOf_13 : decode cX7_mirrorOf 13 = .ok (.iload_n 2, 1) := by decide +kernel
theorem dX7_mirrorOf_14 : decode cX7_mirrorOf 14 = .ok (.aload_n 1, 1) := by decide +kernel
theorem dX7_mirrorOf_15 : decode cX7_mirrorOf 15 = .ok (.getfield 18, 3) := by decide +kernel
theorem dX7_mirrorOf_18 : decode cX7_mirrorOf 18 = .ok (.if_icmp .ge 82, 3) := by decide +kernel
theorem dX7_mirrorOf_21 : decode cX7_mirrorOf 21 = .ok (.iload_n 2, 1) := by decide +kernel
theorem dX7_mirrorOf_22 : decode cX7_mirrorOf 22 = .ok (.bipush 13, 2) := by decide +kernel
theorem dX7_mirrorOf_24 : decode cX7_mirrorOf 24 = .ok (.if_icmp .ge 76, 3) := by decide +kernel
theorem dX7_mirrorOf_27 : decode cX7_mirrorOf 27 = .ok (.aload_n 0, 1) := by decide +kernel
theorem dX7_mirrorOf_28 : decode cX7_mirrorOf 28 = .ok (.getfield 15, 3) := by decide +kernel
theorem dX7_mirrorOf_31 : decode cX7_mirrorOf 31 = .ok (.iload_n 2, 1) := by decide +kernel
theorem dX7_mirrorOf_32 : decode cX7_mirrorOf 32 = .ok (.iaload, 1) := by decide +kernel
theorem dX7_mirrorOf_33 : decode cX7_mirrorOf 33 = .ok (.istore_n 3, 1) := by decide +kernel
theorem dX7_mirrorOf_34 : decode cX7_mirrorOf 34 = .ok (.aload_n 0, 1) := by decide +kernel
theorem dX7_mirrorOf_35 : decode cX7_mirrorOf 35 = .ok (.iload_n 3, 1) := by decide +kernel
theorem dX7_mirrorOf_36 : decode cX7_mirrorOf 36 = .ok (.aload_n 1, 1) := by decide +kernel
theorem dX7_mirrorOf_37 : decode cX7_mirrorOf 37 = .ok (.iload_n 2, 1) := by decide +kernel
theorem dX7_mirrorOf_38 : decode cX7_mirrorOf 38 = .ok (.invokevirtual 32, 3) := by decide +kernel
theorem dX7_mirrorOf_41 : decode cX7_mirrorOf 41 = .ok (.invokevirtual 47, 3) := by decide +kernel
theorem dX7_mirrorOf_44 : decode cX7_mirrorOf 44 = .ok (.aload_n 1, 1) := by decide +kernel
theorem dX7_mirrorOf_45 : decode cX7_mirrorOf 45 = .ok (.iload_n 2, 1) := by decide +kernel
theorem dX7_mirrorOf_46 : decode cX7_mirrorOf 46 = .ok (.invokevirtual 43, 3) := by decide +kernel
theorem dX7_mirrorOf_49 : decode cX7_mirrorOf 49 = .ok (.ifCond .eq 45, 3) := by decide +kernel
theorem dX7_mirrorOf_52 : decode cX7_mirrorOf 52 = .ok (.aload_n 1, 1) := by decide +kernel
theorem dX7_mirrorOf_53 : decode cX7_mirrorOf 53 = .ok (.iload_n 2, 1) := by decide +kernel
theorem dX7_mirrorOf_54 : decode cX7_mirrorOf 54 = .ok (.iconst 1, 1) := by decide +kernel
theorem dX7_mirrorOf_55 : decode cX7_mirrorOf 55 = .ok (.iadd, 1) := by decide +kernel
theorem dX7_mirrorOf_56 : decode cX7_mirrorOf 56 = .ok (.invokevirtual 51, 3) := by decide +kernel
theorem dX7_mirrorOf_59 : decode cX7_mirrorOf 59 = .ok (.istore 4, 2) := by decide +kernel
theorem dX7_mirrorOf_61 : decode cX7_mirrorOf 61 = .ok (.aload_n 1, 1) := by decide +kernel
theorem dX7_mirrorOf_62 : decode cX7_mirrorOf 62 = .ok (.iload 4, 2) := by decide +kernel
theorem dX7_mirrorOf_64 : decode cX7_mirrorOf 64 = .ok (.invokevirtual 51, 3) := by decide +kernel
theorem dX7_mirrorOf_67 : decode cX7_mirrorOf 67 = .ok (.iload 4, 2) := by decide +kernel
theorem dX7_mirrorOf_69 : decode cX7_mirrorOf 69 = .ok (.isub, 1) := by decide +kernel
theorem dX7_mirrorOf_70 : decode cX7_mirrorOf 70 = .ok (.istore 5, 2) := by decide +kernel
theorem dX7_mirrorOf_72 : decode cX7_mirrorOf 72 = .ok (.aload_n 0, 1) := by decide +kernel
theorem dX7_mirrorOf_73 : decode cX7_mirrorOf 73 = .ok (.iload 4, 2) := by decide +kernel
theorem dX7_mirrorOf_75 : decode cX7_mirrorOf 75 = .ok (.iload_n 3, 1) := by decide +kernel
theorem dX7_mirrorOf_76 : decode cX7_mirrorOf 76 = .ok (.iconst 1, 1) := by decide +kernel
theorem dX7_mirrorOf_77 : decode cX7_mirrorOf 77 = .ok (.iadd, 1) := by decide +kernel
theorem dX7_mirrorOf_78 : decode cX7_mirrorOf 78 = .ok (.invokevirtual 82, 3) := by decide +kernel
theorem dX7_mirrorOf_81 : decode cX7_mirrorOf 81 = .ok (.aload_n 0, 1) := by decide +kernel
theorem dX7_mirrorOf_82 : decode cX7_mirrorOf 82 = .ok (.iload_n 2, 1) := by decide +kernel
theorem dX7_mirrorOf_83 : decode cX7_mirrorOf 83 = .ok (.iconst 1, 1) := by decide +kernel
theorem dX7_mirrorOf_84 : decode cX7_mirrorOf 84 = .ok (.iadd, 1) := by decide +kernel
theorem dX7_mirrorOf_85 : decode cX7_mirrorOf 85 = .ok (.iload_n 3, 1) := by decide +kernel
theorem dX7_mirrorOf_86 : decode cX7_mirrorOf 86 = .ok (.iconst 1, 1) := by decide +kernel
theorem dX7_mirrorOf_87 : decode cX7_mirrorOf 87 = .ok (.iadd, 1) := by decide +kernel
theorem dX7_mirrorOf_88 : decode cX7_mirrorOf 88 = .ok (.iload 5, 2) := by decide +kernel
theorem dX7_mirrorOf_90 : decode cX7_mirrorOf 90 = .ok (.iadd, 1) := by decide +kernel
theorem dX7_mirrorOf_91 : decode cX7_mirrorOf 91 = .ok (.invokevirtual 82, 3) := by decide +kernel
theorem dX7_mirrorOf_94 : decode cX7_mirrorOf 94 = .ok (.iinc 2 1, 3) := by decide +kernel
theorem dX7_mirrorOf_97 : decode cX7_mirrorOf 97 = .ok (.goto (-84), 3) := by decide +kernel
theorem dX7_mirrorOf_100 : decode cX7_mirrorOf 100 = .ok (.return_, 1) := by decide +kernel
theorem dX6_init_0 : decode cX6_init 0 = .ok (.aload_n 0, 1) := by decide +kernel
theorem dX6_init_1 : decode cX6_init 1 = .ok (.invokespecial 3, 3) := by decide +kernel
theorem dX6_init_4 : decode cX6_init 4 = .ok (.aload_n 0, 1) := by decide +kernel
theorem dX6_init_5 : decode cX6_init 5 = .ok (.new 9, 3) := by decide +kernel
theorem dX6_init_8 : decode cX6_init 8 = .ok (.dup, 1) := by decide +kernel
theorem dX6_init_9 : decode cX6_init 9 = .ok (.invokespecial 11, 3) := by decide +kernel
theorem dX6_init_12 : decode cX6_init 12 = .ok (.putfield 12, 3) := by decide +kernel
theorem dX6_init_15 : decode cX6_init 15 = .ok (.aload_n 0, 1) := by decide +kernel
theorem dX6_init_16 : decode cX6_init 16 = .ok (.bipush 8, 2) := by decide +kernel
theorem dX6_init_18 : decode cX6_init 18 = .ok (.newarray .int, 2) := by decide +kernel
theorem dX6_init_20 : decode cX6_init 20 = .ok (.putfield 18, 3) := by decide +kernel
theorem dX6_init_23 : decode cX6_init 23 = .ok (.aload_n 0, 1) := by decide +kernel
theorem dX6_init_24 : decode cX6_init 24 = .ok (.bipush 8, 2) := by decide +kernel
theorem dX6_init_26 : decode cX6_init 26 = .ok (.newarray .int, 2) := by decide +kernel
theorem dX6_init_28 : decode cX6_init 28 = .ok (.putfield 22, 3) := by decide +kernel
theorem dX6_init_31 : decode cX6_init 31 = .ok (.aload_n 0, 1) := by decide +kernel
theorem dX6_init_32 : decode cX6_init 32 = .ok (.iconst 0, 1) := by decide +kernel
theorem dX6_init_33 : decode cX6_init 33 = .ok (.putfield 25, 3) := by decide +kernel
theorem dX6_init_36 : decode cX6_init 36 = .ok (.return_, 1) := by decide +kernel
theorem dX6_has_0 : decode cX6_has 0 = .ok (.iload_n 1, 1) := by decide +kernel
theorem dX6_has_1 : decode cX6_has 1 = .ok (.ifCond .lt 21, 3) := by decide +kernel
theorem dX6_has_4 : decode cX6_has 4 = .ok (.iload_n 1, 1) := by decide +kernel
theorem dX6_has_5 : decode cX6_has 5 = .ok (.aload_n 0, 1) := by decide +kernel
theorem dX6_has_6 : decode cX6_has 6 = .ok (.getfield 25, 3) := by decide +kernel
theorem dX6_has_9 : decode cX6_has 9 = .ok (.if_icmp .ge 13, 3) := by decide +kernel
theorem dX6_has_12 : decode cX6_has 12 = .ok (.iload_n 1, 1) := by decide +kernel
theorem dX6_has_13 : decode cX6_has 13 = .ok (.bipush 8, 2) := by decide +kernel
theorem dX6_has_15 : decode cX6_has 15 = .ok (.if_icmp .ge 7, 3) := by decide +kernel
theorem dX6_has_18 : decode cX6_has 18 = .ok (.iconst 1, 1) := by decide +kernel
theorem dX6_has_19 : decode cX6_has 19 = .ok (.goto 4, 3) := by decide +kernel
theorem dX6_has_22 : decode cX6_has 22 = .ok (.iconst 0, 1) := by decide +kernel
theorem dX6_has_23 : decode cX6_has 23 = .ok (.ireturn, 1) := by decide +kernel
theorem dX6_isFull_0 : decode cX6_isFull 0 = .ok (.aload_n 0, 1) := by decide +kernel
theorem dX6_isFull_1 : decode cX6_isFull 1 = .ok (.getfield 25, 3) := by decide +kernel
theorem dX6_isFull_4 : decode cX6_isFull 4 = .ok (.bipush 8, 2) := by decide +kernel
theorem dX6_isFull_6 : decode cX6_isFull 6 = .ok (.if_icmp .lt 7, 3) := by decide +kernel
theorem dX6_isFull_9 : decode cX6_isFull 9 = .ok (.iconst 1, 1) := by decide +kernel
theorem dX6_isFull_10 : decode cX6_isFull 10 = .ok (.goto 4, 3) := by decide +kernel
theorem dX6_isFull_13 : decode cX6_isFull 13 = .ok (.iconst 0, 1) := by decide +kernel
theorem dX6_isFull_14 : decode cX6_isFull 14 = .ok (.ireturn, 1) := by decide +kernel
theorem dX6_codeOf_0 : decode cX6_codeOf 0 = .ok (.aload_n 0, 1) := by decide +kernel
theorem dX6_codeOf_1 : decode cX6_codeOf 1 = .ok (.iload_n 1, 1) := by decide +kernel
theorem dX6_codeOf_2 : decode cX6_codeOf 2 = .ok (.invokevirtual 29, 3) := by decide +kernel
theorem dX6_codeOf_5 : decode cX6_codeOf 5 = .ok (.ifCond .eq 12, 3) := by decide +kernel
theorem dX6_codeOf_8 : decode cX6_codeOf 8 = .ok (.aload_n 0, 1) := by decide +kernel
theorem dX6_codeOf_9 : decode cX6_codeOf 9 = .ok (.getfield 18, 3) := by decide +kernel
theorem dX6_codeOf_12 : decode cX6_codeOf 12 = .ok (.iload_n 1, 1) := by decide +kernel
theorem dX6_codeOf_13 : decode cX6_codeOf 13 = .ok (.iaload, 1) := by decide +kernel
theorem dX6_codeOf_14 : decode cX6_codeOf 14 = .ok (.goto 4, 3) := by decide +kernel
theorem dX6_codeOf_17 : decode cX6_codeOf 17 = .ok (.iconst 0, 1) := by decide +kernel
theorem dX6_codeOf_18 : decode cX6_codeOf 18 = .ok (.ireturn, 1) := by decide +kernel
theorem dX6_signOf_0 : decode cX6_signOf 0 = .ok (.aload_n 0, 1) := by decide +kernel
theorem dX6_signOf_1 : decode cX6_signOf 1 = .ok (.iload_n 1, 1) := by decide +kernel
theorem dX6_signOf_2 : decode cX6_signOf 2 = .ok (.invokevirtual 29, 3) := by decide +kernel
theorem dX6_signOf_5 : decode cX6_signOf 5 = .ok (.ifCond .eq 12, 3) := by decide +kernel
theorem dX6_signOf_8 : decode cX6_signOf 8 = .ok (.aload_n 0, 1) := by decide +kernel
theorem dX6_signOf_9 : decode cX6_signOf 9 = .ok (.getfield 22, 3) := by decide +kernel
theorem dX6_signOf_12 : decode cX6_signOf 12 = .ok (.iload_n 1, 1) := by decide +kernel
theorem dX6_signOf_13 : decode cX6_signOf 13 = .ok (.iaload, 1) := by decide +kernel
theorem dX6_signOf_14 : decode cX6_signOf 14 = .ok (.goto 4, 3) := by decide +kernel
theorem dX6_signOf_17 : decode cX6_signOf 17 = .ok (.iconst 0, 1) := by decide +kernel
theorem dX6_signOf_18 : decode cX6_signOf 18 = .ok (.ireturn, 1) := by decide +kernel
theorem dX6_lend_0 : decode cX6_lend 0 = .ok (.aload_n 2, 1) := by decide +kernel
theorem dX6_lend_1 : decode cX6_lend 1 = .ok (.aload_n 0, 1) := by decide +kernel
theorem dX6_lend_2 : decode cX6_lend 2 = .ok (.iload_n 1, 1) := by decide +kernel
theorem dX6_lend_3 : decode cX6_lend 3 = .ok (.invokevirtual 33, 3) := by decide +kernel
theorem dX6_lend_6 : decode cX6_lend 6 = .ok (.aload_n 0, 1) := by decide +kernel
theorem dX6_lend_7 : decode cX6_lend 7 = .ok (.iload_n 1, 1) := by decide +kernel
theorem dX6_lend_8 : decode cX6_lend 8 = .ok (.invokevirtual 37, 3) := by decide +kernel
theorem dX6_lend_11 : decode cX6_lend 11 = .ok (.invokevirtual 40, 3) := by decide +kernel
theorem dX6_lend_14 : decode cX6_lend 14 = .ok (.return_, 1) := by decide +kernel
theorem dX6_put_0 : decode cX6_put 0 = .ok (.aload_n 0, 1) := by decide +kernel
theorem dX6_put_1 : decode cX6_put 1 = .ok (.iload_n 1, 1) := by decide +kernel
theorem dX6_put_2 : decode cX6_put 2 = .ok (.invokevirtual 29, 3) := by decide +kernel
theorem dX6_put_5 : decode cX6_put 5 = .ok (.ifCond .eq 23, 3) := by decide +kernel
theorem dX6_put_8 : decode cX6_put 8 = .ok (.aload_n 0, 1) := by decide +kernel
theorem dX6_put_9 : decode cX6_put 9 = .ok (.getfield 18, 3) := by decide +kernel
theorem dX6_put_12 : decode cX6_put 12 = .ok (.iload_n 1, 1) := by decide +kernel
theorem dX6_put_13 : decode cX6_put 13 = .ok (.aload_n 2, 1) := by decide +kernel
theorem dX6_put_14 : decode cX6_put 14 = .ok (.invokevirtual 46, 3) := by decide +kernel
theorem dX6_put_17 : decode cX6_put 17 = .ok (.iastore, 1) := by decide +kernel
theorem dX6_put_18 : decode cX6_put 18 = .ok (.aload_n 0, 1) := by decide +kernel
theorem dX6_put_19 : decode cX6_put 19 = .ok (.getfield 22, 3) := by decide +kernel
theorem dX6_put_22 : decode cX6_put 22 = .ok (.iload_n 1, 1) := by decide +kernel
theorem dX6_put_23 : decode cX6_put 23 = .ok (.aload_n 2, 1) := by decide +kernel
theorem dX6_put_24 : decode cX6_put 24 = .ok (.getfield 50, 3) := by decide +kernel
theorem dX6_put_27 : decode cX6_put 27 = .ok (.iastore, 1) := by decide +kernel
theorem dX6_put_28 : decode cX6_put 28 = .ok (.return_, 1) := by decide +kernel
theorem dX6_add_0 : decode cX6_add 0 = .ok (.aload_n 0, 1) := by decide +kernel
theorem dX6_add_1 : decode cX6_add 1 = .ok (.invokevirtual 53, 3) := by decide +kernel
theorem dX6_add_4 : decode cX6_add 4 = .ok (.ifCond .eq 6, 3) := by decide +kernel
theorem dX6_add_7 : decode cX6_add 7 = .ok (.ldc 57, 2) := by decide +kernel
theorem dX6_add_9 : decode cX6_add 9 = .ok (.ireturn, 1) := by decide +kernel
theorem dX6_add_10 : decode cX6_add 10 = .ok (.aload_n 0, 1) := by decide +kernel
theorem dX6_add_11 : decode cX6_add 11 = .ok (.dup, 1) := by decide +kernel
theorem dX6_add_12 : decode cX6_add 12 = .ok (.getfield 25, 3) := by decide +kernel
theorem dX6_add_15 : decode cX6_add 15 = .ok (.iconst 1, 1) := by decide +kernel
theorem dX6_add_16 : decode cX6_add 16 = .ok (.iadd, 1) := by decide +kernel
theorem dX6_add_17 : decode cX6_add 17 = .ok (.putfield 25, 3) := by decide +kernel
theorem dX6_add_20 : decode cX6_add 20 = .ok (.aload_n 0, 1) := by decide +kernel
theorem dX6_add_21 : decode cX6_add 21 = .ok (.aload_n 0, 1) := by decide +kernel
theorem dX6_add_22 : decode cX6_add 22 = .ok (.getfield 25, 3) := by decide +kernel
theorem dX6_add_25 : decode cX6_add 25 = .ok (.iconst 1, 1) := by decide +kernel
theorem dX6_add_26 : decode cX6_add 26 = .ok (.isub, 1) := by decide +kernel
theorem dX6_add_27 : decode cX6_add 27 = .ok (.aload_n 1, 1) := by decide +kernel
theorem dX6_add_28 : decode cX6_add 28 = .ok (.invokevirtual 58, 3) := by decide +kernel
theorem dX6_add_31 : decode cX6_add 31 = .ok (.aload_n 0, 1) := by decide +kernel
theorem dX6_add_32 : decode cX6_add 32 = .ok (.getfield 25, 3) := by decide +kernel
theorem dX6_add_35 : decode cX6_add 35 = .ok (.iconst 1, 1) := by decide +kernel
theorem dX6_add_36 : decode cX6_add 36 = .ok (.isub, 1) := by decide +kernel
theorem dX6_add_37 : decode cX6_add 37 = .ok (.ireturn, 1) := by decide +kernel
theorem dX6_remove_0 : decode cX6_remove 0 = .ok (.aload_n 0, 1) := by decide +kernel
theorem dX6_remove_1 : decode cX6_remove 1 = .ok (.iload_n 1, 1) := by decide +kernel
theorem dX6_remove_2 : decode cX6_remove 2 = .ok (.invokevirtual 29, 3) := by decide +kernel
theorem dX6_remove_5 : decode cX6_remove 5 = .ok (.ifCond .ne 4, 3) := by decide +kernel
theorem dX6_remove_8 : decode cX6_remove 8 = .ok (.return_, 1) := by decide +kernel
theorem dX6_remove_9 : decode cX6_remove 9 = .ok (.iload_n 1, 1) := by decide +kernel
theorem dX6_remove_10 : decode cX6_remove 10 = .ok (.istore_n 2, 1) := by decide +kernel
theorem dX6_remove_11 : decode cX6_remove 11 = .ok (.iload_n 2, 1) := by decide +kernel
theorem dX6_remove_12 : decode cX6_remove 12 = .ok (.iconst 1, 1) := by decide +kernel
theorem dX6_remove_13 : decode cX6_remove 13 = .ok (.iadd, 1) := by decide +kernel
theorem dX6_remove_14 : decode cX6_remove 14 = .ok (.aload_n 0, 1) := by decide +kernel
theorem dX6_remove_15 : decode cX6_remove 15 = .ok (.getfield 25, 3) := by decide +kernel
theorem dX6_remove_18 : decode cX6_remove 18 = .ok (.if_icmp .ge 45, 3) := by decide +kernel
theorem dX6_remove_21 : decode cX6_remove 21 = .ok (.iload_n 2, 1) := by decide +kernel
theorem dX6_remove_22 : decode cX6_remove 22 = .ok (.iconst 1, 1) := by decide +kernel
theorem dX6_remove_23 : decode cX6_remove 23 = .ok (.iadd, 1) := by decide +kernel
theorem dX6_remove_24 : decode cX6_remove 24 = .ok (.bipush 8, 2) := by decide +kernel
theorem dX6_remove_26 : decode cX6_remove 26 = .ok (.if_icmp .ge 37, 3) := by decide +kernel
theorem dX6_remove_29 : decode cX6_remove 29 = .ok (.aload_n 0, 1) := by decide +kernel
theorem dX6_remove_30 : decode cX6_remove 30 = .ok (.getfield 18, 3) := by decide +kernel
theorem dX6_remove_33 : decode cX6_remove 33 = .ok (.iload_n 2, 1) := by decide +kernel
theorem dX6_remove_34 : decode cX6_remove 34 = .ok (.aload_n 0, 1) := by decide +kernel
theorem dX6_remove_35 : decode cX6_remove 35 = .ok (.getfield 18, 3) := by decide +kernel
theorem dX6_remove_38 : decode cX6_remove 38 = .ok (.iload_n 2, 1) := by decide +kernel
theorem dX6_remove_39 : decode cX6_remove 39 = .ok (.iconst 1, 1) := by decide +kernel
theorem dX6_remove_40 : decode cX6_remove 40 = .ok (.iadd, 1) := by decide +kernel
theorem dX6_remove_41 : decode cX6_remove 41 = .ok (.iaload, 1) := by decide +kernel
theorem dX6_remove_42 : decode cX6_remove 42 = .ok (.iastore, 1) := by decide +kernel
theorem dX6_remove_43 : decode cX6_remove 43 = .ok (.aload_n 0, 1) := by decide +kernel
theorem dX6_remove_44 : decode cX6_remove 44 = .ok (.getfield 22, 3) := by decide +kernel
theorem dX6_remove_47 : decode cX6_remove 47 = .ok (.iload_n 2, 1) := by decide +kernel
theorem dX6_remove_48 : decode cX6_remove 48 = .ok (.aload_n 0, 1) := by decide +kernel
theorem dX6_remove_49 : decode cX6_remove 49 = .ok (.getfield 22, 3) := by decide +kernel
theorem dX6_remove_52 : decode cX6_remove 52 = .ok (.iload_n 2, 1) := by decide +kernel
theorem dX6_remove_53 : decode cX6_remove 53 = .ok (.iconst 1, 1) := by decide +kernel
theorem dX6_remove_54 : decode cX6_remove 54 = .ok (.iadd, 1) := by decide +kernel
theorem dX6_remove_55 : decode cX6_remove 55 = .ok (.iaload, 1) := by decide +kernel
theorem dX6_remove_56 : decode cX6_remove 56 = .ok (.iastore, 1) := by decide +kernel
theorem dX6_remove_57 : decode cX6_remove 57 = .ok (.iinc 2 1, 3) := by decide +kernel
theorem dX6_remove_60 : decode cX6_remove 60 = .ok (.goto (-49), 3) := by decide +kernel
theorem dX6_remove_63 : decode cX6_remove 63 = .ok (.aload_n 0, 1) := by decide +kernel
theorem dX6_remove_64 : decode cX6_remove 64 = .ok (.dup, 1) := by decide +kernel
theorem dX6_remove_65 : decode cX6_remove 65 = .ok (.getfield 25, 3) := by decide +kernel
theorem dX6_remove_68 : decode cX6_remove 68 = .ok (.iconst 1, 1) := by decide +kernel
theorem dX6_remove_69 : decode cX6_remove 69 = .ok (.isub, 1) := by decide +kernel
theorem dX6_remove_70 : decode cX6_remove 70 = .ok (.putfield 25, 3) := by decide +kernel
theorem dX6_remove_73 : decode cX6_remove 73 = .ok (.return_, 1) := by decide +kernel
theorem dX6_copyFrom_0 : decode cX6_copyFrom 0 = .ok (.iconst 0, 1) := by decide +kernel
theorem dX6_copyFrom_1 : decode cX6_copyFrom 1 = .ok (.istore_n 2, 1) := by decide +kernel
theorem dX6_copyFrom_2 : decode cX6_copyFrom 2 = .ok (.iload_n 2, 1) := by decide +kernel
theorem dX6_copyFrom_3 : decode cX6_copyFrom 3 = .ok (.bipush 8, 2) := by decide +kernel
theorem dX6_copyFrom_5 : decode cX6_copyFrom 5 = .ok (.if_icmp .ge 33, 3) := by decide +kernel
theorem dX6_copyFrom_8 : decode cX6_copyFrom 8 = .ok (.aload_n 0, 1) := by decide +kernel
theorem dX6_copyFrom_9 : decode cX6_copyFrom 9 = .ok (.getfield 18, 3) := by decide +kernel
theorem dX6_copyFrom_12 : decode cX6_copyFrom 12 = .ok (.iload_n 2, 1) := by decide +kernel
theorem dX6_copyFrom_13 : decode cX6_copyFrom 13 = .ok (.aload_n 1, 1) := by decide +kernel
theorem dX6_copyFrom_14 : decode cX6_copyFrom 14 = .ok (.getfield 18, 3) := by decide +kernel
theorem dX6_copyFrom_17 : decode cX6_copyFrom 17 = .ok (.iload_n 2, 1) := by decide +kernel
theorem dX6_copyFrom_18 : decode cX6_copyFrom 18 = .ok (.iaload, 1) := by decide +kernel
theorem dX6_copyFrom_19 : decode cX6_copyFrom 19 = .ok (.iastore, 1) := by decide +kernel
theorem dX6_copyFrom_20 : decode cX6_copyFrom 20 = .ok (.aload_n 0, 1) := by decide +kernel
theorem dX6_copyFrom_21 : decode cX6_copyFrom 21 = .ok (.getfield 22, 3) := by decide +kernel
theorem dX6_copyFrom_24 : decode cX6_copyFrom 24 = .ok (.iload_n 2, 1) := by decide +kernel
theorem dX6_copyFrom_25 : decode cX6_copyFrom 25 = .ok (.aload_n 1, 1) := by decide +kernel
theorem dX6_copyFrom_26 : decode cX6_copyFrom 26 = .ok (.getfield 22, 3) := by decide +kernel
theorem dX6_copyFrom_29 : decode cX6_copyFrom 29 = .ok (.iload_n 2, 1) := by decide +kernel
theorem dX6_copyFrom_30 : decode cX6_copyFrom 30 = .ok (.iaload, 1) := by decide +kernel
theorem dX6_copyFrom_31 : decode cX6_copyFrom 31 = .ok (.iastore, 1) := by decide +kernel
theorem dX6_copyFrom_32 : decode cX6_copyFrom 32 = .ok (.iinc 2 1, 3) := by decide +kernel
theorem dX6_copyFrom_35 : decode cX6_copyFrom 35 = .ok (.goto (-33), 3) := by decide +kernel
theorem dX6_copyFrom_38 : decode cX6_copyFrom 38 = .ok (.aload_n 0, 1) := by decide +kernel
theorem dX6_copyFrom_39 : decode cX6_copyFrom 39 = .ok (.aload_n 1, 1) := by decide +kernel
theorem dX6_copyFrom_40 : decode cX6_copyFrom 40 = .ok (.getfield 25, 3) := by decide +kernel
theorem dX6_copyFrom_43 : decode cX6_copyFrom 43 = .ok (.putfield 25, 3) := by decide +kernel
theorem dX6_copyFrom_46 : decode cX6_copyFrom 46 = .ok (.aload_n 0, 1) := by decide +kernel
theorem dX6_copyFrom_47 : decode cX6_copyFrom 47 = .ok (.getfield 12, 3) := by decide +kernel
theorem dX6_copyFrom_50 : decode cX6_copyFrom 50 = .ok (.aload_n 1, 1) := by decide +kernel
theorem dX6_copyFrom_51 : decode cX6_copyFrom 51 = .ok (.getfield 12, 3) := by decide +kernel
theorem dX6_copyFrom_54 : decode cX6_copyFrom 54 = .ok (.invokevirtual 62, 3) := by decide +kernel
theorem dX6_copyFrom_57 : decode cX6_copyFrom 57 = .ok (.return_, 1) := by decide +kernel
theorem dX0_init_0 : decode cX0_init 0 = .ok (.aload_n 0, 1) := by decide +kernel
theorem dX0_init_1 : decode cX0_init 1 = .ok (.invokespecial 3, 3) := by decide +kernel
theorem dX0_init_4 : decode cX0_init 4 = .ok (.aload_n 0, 1) := by decide +kernel
theorem dX0_init_5 : decode cX0_init 5 = .ok (.bipush 20, 2) := by decide +kernel
theorem dX0_init_7 : decode cX0_init 7 = .ok (.newarray .int, 2) := by decide +kernel
theorem dX0_init_9 : decode cX0_init 9 = .ok (.putfield 9, 3) := by decide +kernel
theorem dX0_init_12 : decode cX0_init 12 = .ok (.aload_n 0, 1) := by decide +kernel
theorem dX0_init_13 : decode cX0_init 13 = .ok (.bipush 20, 2) := by decide +kernel
theorem dX0_init_15 : decode cX0_init 15 = .ok (.newarray .int, 2) := by decide +kernel
theorem dX0_init_17 : decode cX0_init 17 = .ok (.putfield 15, 3) := by decide +kernel
theorem dX0_init_20 : decode cX0_init 20 = .ok (.aload_n 0, 1) := by decide +kernel
theorem dX0_init_21 : decode cX0_init 21 = .ok (.iconst 0, 1) := by decide +kernel
theorem dX0_init_22 : decode cX0_init 22 = .ok (.putfield 18, 3) := by decide +kernel
theorem dX0_init_25 : decode cX0_init 25 = .ok (.return_, 1) := by decide +kernel
theorem dX0_isFull_0 : decode cX0_isFull 0 = .ok (.aload_n 0, 1) := by decide +kernel
theorem dX0_isFull_1 : decode cX0_isFull 1 = .ok (.getfield 18, 3) := by decide +kernel
theorem dX0_isFull_4 : decode cX0_isFull 4 = .ok (.bipush 20, 2) := by decide +kernel
theorem dX0_isFull_6 : decode cX0_isFull 6 = .ok (.if_icmp .lt 7, 3) := by decide +kernel
theorem dX0_isFull_9 : decode cX0_isFull 9 = .ok (.iconst 1, 1) := by decide +kernel
theorem dX0_isFull_10 : decode cX0_isFull 10 = .ok (.goto 4, 3) := by decide +kernel
theorem dX0_isFull_13 : decode cX0_isFull 13 = .ok (.iconst 0, 1) := by decide +kernel
theorem dX0_isFull_14 : decode cX0_isFull 14 = .ok (.ireturn, 1) := by decide +kernel
theorem dX0_add_0 : decode cX0_add 0 = .ok (.aload_n 0, 1) := by decide +kernel
theorem dX0_add_1 : decode cX0_add 1 = .ok (.getfield 18, 3) := by decide +kernel
theorem dX0_add_4 : decode cX0_add 4 = .ok (.ifCond .lt 42, 3) := by decide +kernel
theorem dX0_add_7 : decode cX0_add 7 = .ok (.aload_n 0, 1) := by decide +kernel
theorem dX0_add_8 : decode cX0_add 8 = .ok (.getfield 18, 3) := by decide +kernel
theorem dX0_add_11 : decode cX0_add 11 = .ok (.bipush 20, 2) := by decide +kernel
theorem dX0_add_13 : decode cX0_add 13 = .ok (.if_icmp .ge 33, 3) := by decide +kernel
theorem dX0_add_16 : decode cX0_add 16 = .ok (.aload_n 0, 1) := by decide +kernel
theorem dX0_add_17 : decode cX0_add 17 = .ok (.getfield 9, 3) := by decide +kernel
theorem dX0_add_20 : decode cX0_add 20 = .ok (.aload_n 0, 1) := by decide +kernel
theorem dX0_add_21 : decode cX0_add 21 = .ok (.getfield 18, 3) := by decide +kernel
theorem dX0_add_24 : decode cX0_add 24 = .ok (.iload_n 1, 1) := by decide +kernel
theorem dX0_add_25 : decode cX0_add 25 = .ok (.iastore, 1) := by decide +kernel
theorem dX0_add_26 : decode cX0_add 26 = .ok (.aload_n 0, 1) := by decide +kernel
theorem dX0_add_27 : decode cX0_add 27 = .ok (.getfield 15, 3) := by decide +kernel
theorem dX0_add_30 : decode cX0_add 30 = .ok (.aload_n 0, 1) := by decide +kernel
theorem dX0_add_31 : decode cX0_add 31 = .ok (.getfield 18, 3) := by decide +kernel
theorem dX0_add_34 : decode cX0_add 34 = .ok (.iload_n 2, 1) := by decide +kernel
theorem dX0_add_35 : decode cX0_add 35 = .ok (.iastore, 1) := by decide +kernel
theorem dX0_add_36 : decode cX0_add 36 = .ok (.aload_n 0, 1) := by decide +kernel
theorem dX0_add_37 : decode cX0_add 37 = .ok (.dup, 1) := by decide +kernel
theorem dX0_add_38 : decode cX0_add 38 = .ok (.getfield 18, 3) := by decide +kernel
theorem dX0_add_41 : decode cX0_add 41 = .ok (.iconst 1, 1) := by decide +kernel
theorem dX0_add_42 : decode cX0_add 42 = .ok (.iadd, 1) := by decide +kernel
theorem dX0_add_43 : decode cX0_add 43 = .ok (.putfield 18, 3) := by decide +kernel
theorem dX0_add_46 : decode cX0_add 46 = .ok (.return_, 1) := by decide +kernel
theorem dX0_firstWrong_0 : decode cX0_firstWrong 0 = .ok (.iconst 0, 1) := by decide +kernel
theorem dX0_firstWrong_1 : decode cX0_firstWrong 1 = .ok (.istore_n 2, 1) := by decide +kernel
theorem dX0_firstWrong_2 : decode cX0_firstWrong 2 = .ok (.iload_n 2, 1) := by decide +kernel
theorem dX0_firstWrong_3 : decode cX0_firstWrong 3 = .ok (.aload_n 0, 1) := by decide +kernel
theorem dX0_firstWrong_4 : decode cX0_firstWrong 4 = .ok (.getfield 18, 3) := by decide +kernel
theorem dX0_firstWrong_7 : decode cX0_firstWrong 7 = .ok (.if_icmp .ge 49, 3) := by decide +kernel
theorem dX0_firstWrong_10 : decode cX0_firstWrong 10 = .ok (.iload_n 2, 1) := by decide +kernel
theorem dX0_firstWrong_11 : decode cX0_firstWrong 11 = .ok (.bipush 20, 2) := by decide +kernel
theorem dX0_firstWrong_13 : decode cX0_firstWrong 13 = .ok (.if_icmp .ge 43, 3) := by decide +kernel
theorem dX0_firstWrong_16 : decode cX0_firstWrong 16 = .ok (.aload_n 1, 1) := by decide +kernel
theorem dX0_firstWrong_17 : decode cX0_firstWrong 17 = .ok (.aload_n 0, 1) := by decide +kernel
theorem dX0_firstWrong_18 : decode cX0_firstWrong 18 = .ok (.getfield 9, 3) := by decide +kernel
theorem dX0_firstWrong_21 : decode cX0_firstWrong 21 = .ok (.iload_n 2, 1) := by decide +kernel
theorem dX0_firstWrong_22 : decode cX0_firstWrong 22 = .ok (.iaload, 1) := by decide +kernel
theorem dX0_firstWrong_23 : decode cX0_firstWrong 23 = .ok (.invokevirtual 22, 3) := by decide +kernel
theorem dX0_firstWrong_26 : decode cX0_firstWrong 26 = .ok (.ifCond .eq 22, 3) := by decide +kernel
theorem dX0_firstWrong_29 : decode cX0_firstWrong 29 = .ok (.aload_n 1, 1) := by decide +kernel
theorem dX0_firstWrong_30 : decode cX0_firstWrong 30 = .ok (.aload_n 0, 1) := by decide +kernel
theorem dX0_firstWrong_31 : decode cX0_firstWrong 31 = .ok (.getfield 9, 3) := by decide +kernel
theorem dX0_firstWrong_34 : decode cX0_firstWrong 34 = .ok (.iload_n 2, 1) := by decide +kernel
theorem dX0_firstWrong_35 : decode cX0_firstWrong 35 = .ok (.iaload, 1) := by decide +kernel
theorem dX0_firstWrong_36 : decode cX0_firstWrong 36 = .ok (.invokevirtual 28, 3) := by decide +kernel
theorem dX0_firstWrong_39 : decode cX0_firstWrong 39 = .ok (.aload_n 0, 1) := by decide +kernel
theorem dX0_firstWrong_40 : decode cX0_firstWrong 40 = .ok (.getfield 15, 3) := by decide +kernel
theorem dX0_firstWrong_43 : decode cX0_firstWrong 43 = .ok (.iload_n 2, 1) := by decide +kernel
theorem dX0_firstWrong_44 : decode cX0_firstWrong 44 = .ok (.iaload, 1) := by decide +kernel
theorem dX0_firstWrong_45 : decode cX0_firstWrong 45 = .ok (.if_icmp .eq 5, 3) := by decide +kernel
theorem dX0_firstWrong_48 : decode cX0_firstWrong 48 = .ok (.iload_n 2, 1) := by decide +kernel
theorem dX0_firstWrong_49 : decode cX0_firstWrong 49 = .ok (.ireturn, 1) := by decide +kernel
theorem dX0_firstWrong_50 : decode cX0_firstWrong 50 = .ok (.iinc 2 1, 3) := by decide +kernel
theorem dX0_firstWrong_53 : decode cX0_firstWrong 53 = .ok (.goto (-51), 3) := by decide +kernel
theorem dX0_firstWrong_56 : decode cX0_firstWrong 56 = .ok (.iconst (-1), 1) := by decide +kernel
theorem dX0_firstWrong_57 : decode cX0_firstWrong 57 = .ok (.ireturn, 1) := by decide +kernel
theorem dX1_init_0 : decode cX1_init 0 = .ok (.aload_n 0, 1) := by decide +kernel
theorem dX1_init_1 : decode cX1_init 1 = .ok (.invokespecial 3, 3) := by decide +kernel
theorem dX1_init_4 : decode cX1_init 4 = .ok (.aload_n 0, 1) := by decide +kernel
theorem dX1_init_5 : decode cX1_init 5 = .ok (.bipush 20, 2) := by decide +kernel
theorem dX1_init_7 : decode cX1_init 7 = .ok (.anewarray 9, 3) := by decide +kernel
theorem dX1_init_10 : decode cX1_init 10 = .ok (.putfield 11, 3) := by decide +kernel
theorem dX1_init_13 : decode cX1_init 13 = .ok (.aload_n 0, 1) := by decide +kernel
theorem dX1_init_14 : decode cX1_init 14 = .ok (.iconst 0, 1) := by decide +kernel
theorem dX1_init_15 : decode cX1_init 15 = .ok (.putfield 17, 3) := by decide +kernel
theorem dX1_init_18 : decode cX1_init 18 = .ok (.aload_n 0, 1) := by decide +kernel
theorem dX1_init_19 : decode cX1_init 19 = .ok (.iconst 0, 1) := by decide +kernel
theorem dX1_init_20 : decode cX1_init 20 = .ok (.putfield 21, 3) := by decide +kernel
theorem dX1_init_23 : decode cX1_init 23 = .ok (.iconst 0, 1) := by decide +kernel
theorem dX1_init_24 : decode cX1_init 24 = .ok (.istore_n 1, 1) := by decide +kernel
theorem dX1_init_25 : decode cX1_init 25 = .ok (.iload_n 1, 1) := by decide +kernel
theorem dX1_init_26 : decode cX1_init 26 = .ok (.bipush 20, 2) := by decide +kernel
theorem dX1_init_28 : decode cX1_init 28 = .ok (.if_icmp .ge 22, 3) := by decide +kernel
theorem dX1_init_31 : decode cX1_init 31 = .ok (.aload_n 0, 1) := by decide +kernel
theorem dX1_init_32 : decode cX1_init 32 = .ok (.getfield 11, 3) := by decide +kernel
theorem dX1_init_35 : decode cX1_init 35 = .ok (.iload_n 1, 1) := by decide +kernel
theorem dX1_init_36 : decode cX1_init 36 = .ok (.new 9, 3) := by decide +kernel
theorem dX1_init_39 : decode cX1_init 39 = .ok (.dup, 1) := by decide +kernel
theorem dX1_init_40 : decode cX1_init 40 = .ok (.invokespecial 24, 3) := by decide +kernel
theorem dX1_init_43 : decode cX1_init 43 = .ok (.aastore, 1) := by decide +kernel
theorem dX1_init_44 : decode cX1_init 44 = .ok (.iinc 1 1, 3) := by decide +kernel
theorem dX1_init_47 : decode cX1_init 47 = .ok (.goto (-22), 3) := by decide +kernel
theorem dX1_init_50 : decode cX1_init 50 = .ok (.return_, 1) := by decide +kernel
theorem dX1_forget_0 : decode cX1_forget 0 = .ok (.aload_n 0, 1) := by decide +kernel
theorem dX1_forget_1 : decode cX1_forget 1 = .ok (.iconst 0, 1) := by decide +kernel
theorem dX1_forget_2 : decode cX1_forget 2 = .ok (.putfield 21, 3) := by decide +kernel
theorem dX1_forget_5 : decode cX1_forget 5 = .ok (.return_, 1) := by decide +kernel
theorem dX1_record_0 : decode cX1_record 0 = .ok (.aload_n 0, 1) := by decide +kernel
theorem dX1_record_1 : decode cX1_record 1 = .ok (.aload_n 0, 1) := by decide +kernel
theorem dX1_record_2 : decode cX1_record 2 = .ok (.getfield 17, 3) := by decide +kernel
theorem dX1_record_5 : decode cX1_record 5 = .ok (.invokevirtual 25, 3) := by decide +kernel
theorem dX1_record_8 : decode cX1_record 8 = .ok (.astore_n 2, 1) := by decide +kernel
theorem dX1_record_9 : decode cX1_record 9 = .ok (.aload_n 2, 1) := by decide +kernel
theorem dX1_record_10 : decode cX1_record 10 = .ok (.ifnull 8, 3) := by decide +kernel
theorem dX1_record_13 : decode cX1_record 13 = .ok (.aload_n 2, 1) := by decide +kernel
theorem dX1_record_14 : decode cX1_record 14 = .ok (.aload_n 1, 1) := by decide +kernel
theorem dX1_record_15 : decode cX1_record 15 = .ok (.invokevirtual 29, 3) := by decide +kernel
theorem dX1_record_18 : decode cX1_record 18 = .ok (.aload_n 0, 1) := by decide +kernel
theorem dX1_record_19 : decode cX1_record 19 = .ok (.aload_n 0, 1) := by decide +kernel
theorem dX1_record_20 : decode cX1_record 20 = .ok (.getfield 17, 3) := by decide +kernel
theorem dX1_record_23 : decode cX1_record 23 = .ok (.iconst 1, 1) := by decide +kernel
theorem dX1_record_24 : decode cX1_record 24 = .ok (.iadd, 1) := by decide +kernel
theorem dX1_record_25 : decode cX1_record 25 = .ok (.bipush 20, 2) := by decide +kernel
theorem dX1_record_27 : decode cX1_record 27 = .ok (.irem, 1) := by decide +kernel
theorem dX1_record_28 : decode cX1_record 28 = .ok (.putfield 17, 3) := by decide +kernel
theorem dX1_record_31 : decode cX1_record 31 = .ok (.aload_n 0, 1) := by decide +kernel
theorem dX1_record_32 : decode cX1_record 32 = .ok (.aload_n 0, 1) := by decide +kernel
theorem dX1_record_33 : decode cX1_record 33 = .ok (.getfield 21, 3) := by decide +kernel
theorem dX1_record_36 : decode cX1_record 36 = .ok (.iconst 1, 1) := by decide +kernel
theorem dX1_record_37 : decode cX1_record 37 = .ok (.iadd, 1) := by decide +kernel
theorem dX1_record_38 : decode cX1_record 38 = .ok (.bipush 20, 2) := by decide +kernel
theorem dX1_record_40 : decode cX1_record 40 = .ok (.invokestatic 33, 3) := by decide +kernel
theorem dX1_record_43 : decode cX1_record 43 = .ok (.putfield 21, 3) := by decide +kernel
theorem dX1_record_46 : decode cX1_record 46 = .ok (.return_, 1) := by decide +kernel
theorem dX1_rewind_0 : decode cX1_rewind 0 = .ok (.aload_n 0, 1) := by decide +kernel
theorem dX1_rewind_1 : decode cX1_rewind 1 = .ok (.aload_n 0, 1) := by decide +kernel
theorem dX1_rewind_2 : decode cX1_rewind 2 = .ok (.getfield 17, 3) := by decide +kernel
theorem dX1_rewind_5 : decode cX1_rewind 5 = .ok (.iload_n 1, 1) := by decide +kernel
theorem dX1_rewind_6 : decode cX1_rewind 6 = .ok (.isub, 1) := by decide +kernel
theorem dX1_rewind_7 : decode cX1_rewind 7 = .ok (.bipush 20, 2) := by decide +kernel
theorem dX1_rewind_9 : decode cX1_rewind 9 = .ok (.invokestatic 39, 3) := by decide +kernel
theorem dX1_rewind_12 : decode cX1_rewind 12 = .ok (.putfield 17, 3) := by decide +kernel
theorem dX1_rewind_15 : decode cX1_rewind 15 = .ok (.aload_n 0, 1) := by decide +kernel
theorem dX1_rewind_16 : decode cX1_rewind 16 = .ok (.aload_n 0, 1) := by decide +kernel
theorem dX1_rewind_17 : decode cX1_rewind 17 = .ok (.getfield 21, 3) := by decide +kernel
theorem dX1_rewind_20 : decode cX1_rewind 20 = .ok (.iload_n 1, 1) := by decide +kernel
theorem dX1_rewind_21 : decode cX1_rewind 21 = .ok (.isub, 1) := by decide +kernel
theorem dX1_rewind_22 : decode cX1_rewind 22 = .ok (.iconst 0, 1) := by decide +kernel
theorem dX1_rewind_23 : decode cX1_rewind 23 = .ok (.invokestatic 42, 3) := by decide +kernel
theorem dX1_rewind_26 : decode cX1_rewind 26 = .ok (.putfield 21, 3) := by decide +kernel
theorem dX1_rewind_29 : decode cX1_rewind 29 = .ok (.aload_n 0, 1) := by decide +kernel
theorem dX1_rewind_30 : decode cX1_rewind 30 = .ok (.aload_n 0, 1) := by decide +kernel
theorem dX1_rewind_31 : decode cX1_rewind 31 = .ok (.getfield 17, 3) := by decide +kernel
theorem dX1_rewind_34 : decode cX1_rewind 34 = .ok (.invokevirtual 25, 3) := by decide +kernel
theorem dX1_rewind_37 : decode cX1_rewind 37 = .ok (.astore_n 3, 1) := by decide +kernel
theorem dX1_rewind_38 : decode cX1_rewind 38 = .ok (.aload_n 3, 1) := by decide +kernel
theorem dX1_rewind_39 : decode cX1_rewind 39 = .ok (.ifnull 8, 3) := by decide +kernel
theorem dX1_rewind_42 : decode cX1_rewind 42 = .ok (.aload_n 2, 1) := by decide +kernel
theorem dX1_rewind_43 : decode cX1_rewind 43 = .ok (.aload_n 3, 1) := by decide +kernel
theorem dX1_rewind_44 : decode cX1_rewind 44 = .ok (.invokevirtual 29, 3) := by decide +kernel
theorem dX1_rewind_47 : decode cX1_rewind 47 = .ok (.return_, 1) := by decide +kernel
theorem dX1_slotAt_0 : decode cX1_slotAt 0 = .ok (.iload_n 1, 1) := by decide +kernel
theorem dX1_slotAt_1 : decode cX1_slotAt 1 = .ok (.ifCond .lt 21, 3) := by decide +kernel
theorem dX1_slotAt_4 : decode cX1_slotAt 4 = .ok (.iload_n 1, 1) := by decide +kernel
theorem dX1_slotAt_5 : decode cX1_slotAt 5 = .ok (.aload_n 0, 1) := by decide +kernel
theorem dX1_slotAt_6 : decode cX1_slotAt 6 = .ok (.getfield 11, 3) := by decide +kernel
theorem dX1_slotAt_9 : decode cX1_slotAt 9 = .ok (.arraylength, 1) := by decide +kernel
theorem dX1_slotAt_10 : decode cX1_slotAt 10 = .ok (.if_icmp .ge 12, 3) := by decide +kernel
theorem dX1_slotAt_13 : decode cX1_slotAt 13 = .ok (.aload_n 0, 1) := by decide +kernel
theorem dX1_slotAt_14 : decode cX1_slotAt 14 = .ok (.getfield 11, 3) := by decide +kernel
theorem dX1_slotAt_17 : decode cX1_slotAt 17 = .ok (.iload_n 1, 1) := by decide +kernel
theorem dX1_slotAt_18 : decode cX1_slotAt 18 = .ok (.aaload, 1) := by decide +kernel
theorem dX1_slotAt_19 : decode cX1_slotAt 19 = .ok (.goto 4, 3) := by decide +kernel
theorem dX1_slotAt_22 : decode cX1_slotAt 22 = .ok (.aconst_null, 1) := by decide +kernel
theorem dX1_slotAt_23 : decode cX1_slotAt 23 = .ok (.areturn, 1) := by decide +kernel
theorem dX2_init_0 : decode cX2_init 0 = .ok (.aload_n 0, 1) := by decide +kernel
theorem dX2_init_1 : decode cX2_init 1 = .ok (.invokespecial 1, 3) := by decide +kernel
theorem dX2_init_4 : decode cX2_init 4 = .ok (.aload_n 0, 1) := by decide +kernel
theorem dX2_init_5 : decode cX2_init 5 = .ok (.new 7, 3) := by decide +kernel
theorem dX2_init_8 : decode cX2_init 8 = .ok (.dup, 1) := by decide +kernel
theorem dX2_init_9 : decode cX2_init 9 = .ok (.invokespecial 9, 3) := by decide +kernel
theorem dX2_init_12 : decode cX2_init 12 = .ok (.putfield 10, 3) := by decide +kernel
theorem dX2_init_15 : decode cX2_init 15 = .ok (.aload_n 0, 1) := by decide +kernel
theorem dX2_init_16 : decode cX2_init 16 = .ok (.iconst 0, 1) := by decide +kernel
theorem dX2_init_17 : decode cX2_init 17 = .ok (.putfield 16, 3) := by decide +kernel
theorem dX2_init_20 : decode cX2_init 20 = .ok (.aload_n 0, 1) := by decide +kernel
theorem dX2_init_21 : decode cX2_init 21 = .ok (.iconst 0, 1) := by decide +kernel
theorem dX2_init_22 : decode cX2_init 22 = .ok (.putfield 20, 3) := by decide +kernel
theorem dX2_init_25 : decode cX2_init 25 = .ok (.return_, 1) := by decide +kernel
theorem dX3_init_0 : decode cX3_init 0 = .ok (.aload_n 0, 1) := by decide +kernel
theorem dX3_init_1 : decode cX3_init 1 = .ok (.invokespecial 3, 3) := by decide +kernel
theorem dX3_init_4 : decode cX3_init 4 = .ok (.aload_n 0, 1) := by decide +kernel
theorem dX3_init_5 : decode cX3_init 5 = .ok (.new 9, 3) := by decide +kernel
theorem dX3_init_8 : decode cX3_init 8 = .ok (.dup, 1) := by decide +kernel
theorem dX3_init_9 : decode cX3_init 9 = .ok (.invokespecial 11, 3) := by decide +kernel
theorem dX3_init_12 : decode cX3_init 12 = .ok (.putfield 12, 3) := by decide +kernel
theorem dX3_init_15 : decode cX3_init 15 = .ok (.aload_n 0, 1) := by decide +kernel
theorem dX3_init_16 : decode cX3_init 16 = .ok (.new 9, 3) := by decide +kernel
theorem dX3_init_19 : decode cX3_init 19 = .ok (.dup, 1) := by decide +kernel
theorem dX3_init_20 : decode cX3_init 20 = .ok (.invokespecial 11, 3) := by decide +kernel
theorem dX3_init_23 : decode cX3_init 23 = .ok (.putfield 18, 3) := by decide +kernel
theorem dX3_init_26 : decode cX3_init 26 = .ok (.aload_n 0, 1) := by decide +kernel
theorem dX3_init_27 : decode cX3_init 27 = .ok (.iconst 0, 1) := by decide +kernel
theorem dX3_init_28 : decode cX3_init 28 = .ok (.putfield 21, 3) := by decide +kernel
theorem dX3_init_31 : decode cX3_init 31 = .ok (.aload_n 0, 1) := by decide +kernel
theorem dX3_init_32 : decode cX3_init 32 = .ok (.iconst 0, 1) := by decide +kernel
theorem dX3_init_33 : decode cX3_init 33 = .ok (.putfield 25, 3) := by decide +kernel
theorem dX3_init_36 : decode cX3_init 36 = .ok (.aload_n 0, 1) := by decide +kernel
theorem dX3_init_37 : decode cX3_init 37 = .ok (.iconst (-1), 1) := by decide +kernel
theorem dX3_init_38 : decode cX3_init 38 = .ok (.putfield 28, 3) := by decide +kernel
theorem dX3_init_41 : decode cX3_init 41 = .ok (.return_, 1) := by decide +kernel
theorem dX3_judgeAll_0 : decode cX3_judgeAll 0 = .ok (.aload_n 0, 1) := by decide +kernel
theorem dX3_judgeAll_1 : decode cX3_judgeAll 1 = .ok (.iconst 0, 1) := by decide +kernel
theorem dX3_judgeAll_2 : decode cX3_judgeAll 2 = .ok (.putfield 21, 3) := by decide +kernel
theorem dX3_judgeAll_5 : decode cX3_judgeAll 5 = .ok (.aload_n 0, 1) := by decide +kernel
theorem dX3_judgeAll_6 : decode cX3_judgeAll 6 = .ok (.iconst 0, 1) := by decide +kernel
theorem dX3_judgeAll_7 : decode cX3_judgeAll 7 = .ok (.putfield 25, 3) := by decide +kernel
theorem dX3_judgeAll_10 : decode cX3_judgeAll 10 = .ok (.aload_n 0, 1) := by decide +kernel
theorem dX3_judgeAll_11 : decode cX3_judgeAll 11 = .ok (.iconst (-1), 1) := by decide +kernel
theorem dX3_judgeAll_12 : decode cX3_judgeAll 12 = .ok (.putfield 28, 3) := by decide +kernel
theorem dX3_judgeAll_15 : decode cX3_judgeAll 15 = .ok (.iconst 0, 1) := by decide +kernel
theorem dX3_judgeAll_16 : decode cX3_judgeAll 16 = .ok (.istore_n 2, 1) := by decide +kernel
theorem dX3_judgeAll_17 : decode cX3_judgeAll 17 = .ok (.iload_n 2, 1) := by decide +kernel
theorem dX3_judgeAll_18 : decode cX3_judgeAll 18 = .ok (.getstatic 31, 3) := by decide +kernel
theorem dX3_judgeAll_21 : decode cX3_judgeAll 21 = .ok (.arraylength, 1) := by decide +kernel
theorem dX3_judgeAll_22 : decode cX3_judgeAll 22 = .ok (.if_icmp .ge 85, 3) := by decide +kernel
theorem dX3_judgeAll_25 : decode cX3_judgeAll 25 = .ok (.iload_n 2, 1) := by decide +kernel
theorem dX3_judgeAll_26 : decode cX3_judgeAll 26 = .ok (.getstatic 35, 3) := by decide +kernel
theorem dX3_judgeAll_29 : decode cX3_judgeAll 29 = .ok (.arraylength, 1) := by decide +kernel
theorem dX3_judgeAll_30 : decode cX3_judgeAll 30 = .ok (.if_icmp .ge 77, 3) := by decide +kernel
theorem dX3_judgeAll_33 : decode cX3_judgeAll 33 = .ok (.iconst 0, 1) := by decide +kernel
theorem dX3_judgeAll_34 : decode cX3_judgeAll 34 = .ok (.istore_n 3, 1) := by decide +kernel
theorem dX3_judgeAll_35 : decode cX3_judgeAll 35 = .ok (.iload_n 3, 1) := by decide +kernel
theorem dX3_judgeAll_36 : decode cX3_judgeAll 36 = .ok (.bipush 8, 2) := by decide +kernel
theorem dX3_judgeAll_38 : decode cX3_judgeAll 38 = .ok (.if_icmp .ge 63, 3) := by decide +kernel
theorem dX3_judgeAll_41 : decode cX3_judgeAll 41 = .ok (.iload_n 3, 1) := by decide +kernel
theorem dX3_judgeAll_42 : decode cX3_judgeAll 42 = .ok (.iconst 2, 1) := by decide +kernel
theorem dX3_judgeAll_43 : decode cX3_judgeAll 43 = .ok (.ishr, 1) := by decide +kernel
theorem dX3_judgeAll_44 : decode cX3_judgeAll 44 = .ok (.iconst 1, 1) := by decide +kernel
theorem dX3_judgeAll_45 : decode cX3_judgeAll 45 = .ok (.iand, 1) := by decide +kernel
theorem dX3_judgeAll_46 : decode cX3_judgeAll 46 = .ok (.iconst 1, 1) := by decide +kernel
theorem dX3_judgeAll_47 : decode cX3_judgeAll 47 = .ok (.iadd, 1) := by decide +kernel
theorem dX3_judgeAll_48 : decode cX3_judgeAll 48 = .ok (.istore 4, 2) := by decide +kernel
theorem dX3_judgeAll_50 : decode cX3_judgeAll 50 = .ok (.iload_n 3, 1) := by decide +kernel
theorem dX3_judgeAll_51 : decode cX3_judgeAll 51 = .ok (.iconst 1, 1) := by decide +kernel
theorem dX3_judgeAll_52 : decode cX3_judgeAll 52 = .ok (.ishr, 1) := by decide +kernel
theorem dX3_judgeAll_53 : decode cX3_judgeAll 53 = .ok (.iconst 1, 1) := by decide +kernel
theorem dX3_judgeAll_54 : decode cX3_judgeAll 54 = .ok (.iand, 1) := by decide +kernel
theorem dX3_judgeAll_55 : decode cX3_judgeAll 55 = .ok (.iconst 1, 1) := by decide +kernel
theorem dX3_judgeAll_56 : decode cX3_judgeAll 56 = .ok (.iadd, 1) := by decide +kernel
theorem dX3_judgeAll_57 : decode cX3_judgeAll 57 = .ok (.istore 5, 2) := by decide +kernel
theorem dX3_judgeAll_59 : decode cX3_judgeAll 59 = .ok (.iload_n 3, 1) := by decide +kernel
theorem dX3_judgeAll_60 : decode cX3_judgeAll 60 = .ok (.iconst 1, 1) := by decide +kernel
theorem dX3_judgeAll_61 : decode cX3_judgeAll 61 = .ok (.iand, 1) := by decide +kernel
theorem dX3_judgeAll_62 : decode cX3_judgeAll 62 = .ok (.iconst 1, 1) := by decide +kernel
theorem dX3_judgeAll_63 : decode cX3_judgeAll 63 = .ok (.iadd, 1) := by decide +kernel
theorem dX3_judgeAll_64 : decode cX3_judgeAll 64 = .ok (.istore 6, 2) := by decide +kernel
theorem dX3_judgeAll_66 : decode cX3_judgeAll 66 = .ok (.aload_n 0, 1) := by decide +kernel
theorem dX3_judgeAll_67 : decode cX3_judgeAll 67 = .ok (.iload 4, 2) := by decide +kernel
theorem dX3_judgeAll_69 : decode cX3_judgeAll 69 = .ok (.sipush 729, 3) := by decide +kernel
theorem dX3_judgeAll_72 : decode cX3_judgeAll 72 = .ok (.imul, 1) := by decide +kernel
theorem dX3_judgeAll_73 : decode cX3_judgeAll 73 = .ok (.iload 5, 2) := by decide +kernel
theorem dX3_judgeAll_75 : decode cX3_judgeAll 75 = .ok (.getstatic 31, 3) := by decide +kernel
theorem dX3_judgeAll_78 : decode cX3_judgeAll 78 = .ok (.iload_n 2, 1) := by decide +kernel
theorem dX3_judgeAll_79 : decode cX3_judgeAll 79 = .ok (.iaload, 1) := by decide +kernel
theorem dX3_judgeAll_80 : decode cX3_judgeAll 80 = .ok (.imul, 1) := by decide +kernel
theorem dX3_judgeAll_81 : decode cX3_judgeAll 81 = .ok (.iadd, 1) := by decide +kernel
theorem dX3_judgeAll_82 : decode cX3_judgeAll 82 = .ok (.iload 6, 2) := by decide +kernel
theorem dX3_judgeAll_84 : decode cX3_judgeAll 84 = .ok (.getstatic 35, 3) := by decide +kernel
theorem dX3_judgeAll_87 : decode cX3_judgeAll 87 = .ok (.iload_n 2, 1) := by decide +kernel
theorem dX3_judgeAll_88 : decode cX3_judgeAll 88 = .ok (.iaload, 1) := by decide +kernel
theorem dX3_judgeAll_89 : decode cX3_judgeAll 89 = .ok (.imul, 1) := by decide +kernel
theorem dX3_judgeAll_90 : decode cX3_judgeAll 90 = .ok (.iadd, 1) := by decide +kernel
theorem dX3_judgeAll_91 : decode cX3_judgeAll 91 = .ok (.aload_n 1, 1) := by decide +kernel
theorem dX3_judgeAll_92 : decode cX3_judgeAll 92 = .ok (.invokevirtual 38, 3) := by decide +kernel
theorem dX3_judgeAll_95 : decode cX3_judgeAll 95 = .ok (.iinc 3 1, 3) := by decide +kernel
theorem dX3_judgeAll_98 : decode cX3_judgeAll 98 = .ok (.goto (-63), 3) := by decide +kernel
theorem dX3_judgeAll_101 : decode cX3_judgeAll 101 = .ok (.iinc 2 1, 3) := by decide +kernel
theorem dX3_judgeAll_104 : decode cX3_judgeAll 104 = .ok (.goto (-87), 3) := by decide +kernel
theorem dX3_judgeAll_107 : decode cX3_judgeAll 107 = .ok (.return_, 1) := by decide +kernel
theorem dX3_judgeOne_0 : decode cX3_judgeOne 0 = .ok (.aload_n 0, 1) := by decide +kernel
theorem dX3_judgeOne_1 : decode cX3_judgeOne 1 = .ok (.getfield 12, 3) := by decide +kernel
theorem dX3_judgeOne_4 : decode cX3_judgeOne 4 = .ok (.iload_n 1, 1) := by decide +kernel
theorem dX3_judgeOne_5 : decode cX3_judgeOne 5 = .ok (.iconst 1, 1) := by decide +kernel
theorem dX3_judgeOne_6 : decode cX3_judgeOne 6 = .ok (.invokevirtual 42, 3) := by decide +kernel
theorem dX3_judgeOne_9 : decode cX3_judgeOne 9 = .ok (.aload_n 0, 1) := by decide +kernel
theorem dX3_judgeOne_10 : decode cX3_judgeOne 10 = .ok (.getfield 12, 3) := by decide +kernel
theorem dX3_judgeOne_13 : decode cX3_judgeOne 13 = .ok (.aload_n 2, 1) := by decide +kernel
theorem dX3_judgeOne_14 : decode cX3_judgeOne 14 = .ok (.invokevirtual 46, 3) := by decide +kernel
theorem dX3_judgeOne_17 : decode cX3_judgeOne 17 = .ok (.iconst 2, 1) := by decide +kernel
theorem dX3_judgeOne_18 : decode cX3_judgeOne 18 = .ok (.if_icmp .eq 4, 3) := by decide +kernel
theorem dX3_judgeOne_21 : decode cX3_judgeOne 21 = .ok (.return_, 1) := by decide +kernel
theorem dX3_judgeOne_22 : decode cX3_judgeOne 22 = .ok (.aload_n 0, 1) := by decide +kernel
theorem dX3_judgeOne_23 : decode cX3_judgeOne 23 = .ok (.dup, 1) := by decide +kernel
theorem dX3_judgeOne_24 : decode cX3_judgeOne 24 = .ok (.getfield 21, 3) := by decide +kernel
theorem dX3_judgeOne_27 : decode cX3_judgeOne 27 = .ok (.iconst 1, 1) := by decide +kernel
theorem dX3_judgeOne_28 : decode cX3_judgeOne 28 = .ok (.iadd, 1) := by decide +kernel
theorem dX3_judgeOne_29 : decode cX3_judgeOne 29 = .ok (.putfield 21, 3) := by decide +kernel
theorem dX3_judgeOne_32 : decode cX3_judgeOne 32 = .ok (.aload_n 0, 1) := by decide +kernel
theorem dX3_judgeOne_33 : decode cX3_judgeOne 33 = .ok (.getfield 18, 3) := by decide +kernel
theorem dX3_judgeOne_36 : decode cX3_judgeOne 36 = .ok (.aload_n 0, 1) := by decide +kernel
theorem dX3_judgeOne_37 : decode cX3_judgeOne 37 = .ok (.getfield 12, 3) := by decide +kernel
theorem dX3_judgeOne_40 : decode cX3_judgeOne 40 = .ok (.invokevirtual 50, 3) := by decide +kernel
theorem dX3_judgeOne_43 : decode cX3_judgeOne 43 = .ok (.aload_n 0, 1) := by decide +kernel
theorem dX3_judgeOne_44 : decode cX3_judgeOne 44 = .ok (.getfield 12, 3) := by decide +kernel
theorem dX3_judgeOne_47 : decode cX3_judgeOne 47 = .ok (.aload_n 0, 1) := by decide +kernel
theorem dX3_judgeOne_48 : decode cX3_judgeOne 48 = .ok (.getfield 12, 3) := by decide +kernel
theorem dX3_judgeOne_51 : decode cX3_judgeOne 51 = .ok (.iconst 0, 1) := by decide +kernel
theorem dX3_judgeOne_52 : decode cX3_judgeOne 52 = .ok (.aload_n 2, 1) := by decide +kernel
theorem dX3_judgeOne_53 : decode cX3_judgeOne 53 = .ok (.invokevirtual 54, 3) := by decide +kernel
theorem dX3_judgeOne_56 : decode cX3_judgeOne 56 = .ok (.aload_n 2, 1) := by decide +kernel
theorem dX3_judgeOne_57 : decode cX3_judgeOne 57 = .ok (.invokevirtual 58, 3) := by decide +kernel
theorem dX3_judgeOne_60 : decode cX3_judgeOne 60 = .ok (.aload_n 0, 1) := by decide +kernel
theorem dX3_judgeOne_61 : decode cX3_judgeOne 61 = .ok (.getfield 18, 3) := by decide +kernel
theorem dX3_judgeOne_64 : decode cX3_judgeOne 64 = .ok (.aload_n 0, 1) := by decide +kernel
theorem dX3_judgeOne_65 : decode cX3_judgeOne 65 = .ok (.getfield 18, 3) := by decide +kernel
theorem dX3_judgeOne_68 : decode cX3_judgeOne 68 = .ok (.iconst 1, 1) := by decide +kernel
theorem dX3_judgeOne_69 : decode cX3_judgeOne 69 = .ok (.aload_n 2, 1) := by decide +kernel
theorem dX3_judgeOne_70 : decode cX3_judgeOne 70 = .ok (.invokevirtual 54, 3) := by decide +kernel
theorem dX3_judgeOne_73 : decode cX3_judgeOne 73 = .ok (.aload_n 2, 1) := by decide +kernel
theorem dX3_judgeOne_74 : decode cX3_judgeOne 74 = .ok (.invokevirtual 58, 3) := by decide +kernel
theorem dX3_judgeOne_77 : decode cX3_judgeOne 77 = .ok (.aload_n 0, 1) := by decide +kernel
theorem dX3_judgeOne_78 : decode cX3_judgeOne 78 = .ok (.getfield 12, 3) := by decide +kernel
theorem dX3_judgeOne_81 : decode cX3_judgeOne 81 = .ok (.aload_n 2, 1) := by decide +kernel
theorem dX3_judgeOne_82 : decode cX3_judgeOne 82 = .ok (.invokevirtual 61, 3) := by decide +kernel
theorem dX3_judgeOne_85 : decode cX3_judgeOne 85 = .ok (.iconst (-1), 1) := by decide +kernel
theorem dX3_judgeOne_86 : decode cX3_judgeOne 86 = .ok (.if_icmp .eq 19, 3) := by decide +kernel
theorem dX3_judgeOne_89 : decode cX3_judgeOne 89 = .ok (.aload_n 0, 1) := by decide +kernel
theorem dX3_judgeOne_90 : decode cX3_judgeOne 90 = .ok (.getfield 18, 3) := by decide +kernel
theorem dX3_judgeOne_93 : decode cX3_judgeOne 93 = .ok (.aload_n 2, 1) := by decide +kernel
theorem dX3_judgeOne_94 : decode cX3_judgeOne 94 = .ok (.invokevirtual 61, 3) := by decide +kernel
theorem dX3_judgeOne_97 : decode cX3_judgeOne 97 = .ok (.iconst (-1), 1) := by decide +kernel
theorem dX3_judgeOne_98 : decode cX3_judgeOne 98 = .ok (.if_icmp .eq 7, 3) := by decide +kernel
theorem dX3_judgeOne_101 : decode cX3_judgeOne 101 = .ok (.iconst 1, 1) := by decide +kernel
theorem dX3_judgeOne_102 : decode cX3_judgeOne 102 = .ok (.goto 4, 3) := by decide +kernel
theorem dX3_judgeOne_105 : decode cX3_judgeOne 105 = .ok (.iconst 0, 1) := by decide +kernel
theorem dX3_judgeOne_106 : decode cX3_judgeOne 106 = .ok (.istore_n 3, 1) := by decide +kernel
theorem dX3_judgeOne_107 : decode cX3_judgeOne 107 = .ok (.iload_n 3, 1) := by decide +kernel
theorem dX3_judgeOne_108 : decode cX3_judgeOne 108 = .ok (.ifCond .eq 17, 3) := by decide +kernel
theorem dX3_judgeOne_111 : decode cX3_judgeOne 111 = .ok (.aload_n 0, 1) := by decide +kernel
theorem dX3_judgeOne_112 : decode cX3_judgeOne 112 = .ok (.getfield 12, 3) := by decide +kernel
theorem dX3_judgeOne_115 : decode cX3_judgeOne 115 = .ok (.aload_n 0, 1) := by decide +kernel
theorem dX3_judgeOne_116 : decode cX3_judgeOne 116 = .ok (.getfield 18, 3) := by decide +kernel
theorem dX3_judgeOne_119 : decode cX3_judgeOne 119 = .ok (.invokevirtual 64, 3) := by decide +kernel
theorem dX3_judgeOne_122 : decode cX3_judgeOne 122 = .ok (.ifCond .ne 37, 3) := by decide +kernel
theorem dX3_judgeOne_125 : decode cX3_judgeOne 125 = .ok (.aload_n 0, 1) := by decide +kernel
theorem dX3_judgeOne_126 : decode cX3_judgeOne 126 = .ok (.dup, 1) := by decide +kernel
theorem dX3_judgeOne_127 : decode cX3_judgeOne 127 = .ok (.getfield 25, 3) := by decide +kernel
theorem dX3_judgeOne_130 : decode cX3_judgeOne 130 = .ok (.iconst 1, 1) := by decide +kernel
theorem dX3_judgeOne_131 : decode cX3_judgeOne 131 = .ok (.iadd, 1) := by decide +kernel
theorem dX3_judgeOne_132 : decode cX3_judgeOne 132 = .ok (.putfield 25, 3) := by decide +kernel
theorem dX3_judgeOne_135 : decode cX3_judgeOne 135 = .ok (.aload_n 0, 1) := by decide +kernel
theorem dX3_judgeOne_136 : decode cX3_judgeOne 136 = .ok (.aload_n 0, 1) := by decide +kernel
theorem dX3_judgeOne_137 : decode cX3_judgeOne 137 = .ok (.getfield 28, 3) := by decide +kernel
theorem dX3_judgeOne_140 : decode cX3_judgeOne 140 = .ok (.iconst (-1), 1) := by decide +kernel
theorem dX3_judgeOne_141 : decode cX3_judgeOne 141 = .ok (.if_icmp .ne 7, 3) := by decide +kernel
theorem dX3_judgeOne_144 : decode cX3_judgeOne 144 = .ok (.iload_n 1, 1) := by decide +kernel
theorem dX3_judgeOne_145 : decode cX3_judgeOne 145 = .ok (.goto 11, 3) := by decide +kernel
theorem dX3_judgeOne_148 : decode cX3_judgeOne 148 = .ok (.aload_n 0, 1) := by decide +kernel
theorem dX3_judgeOne_149 : decode cX3_judgeOne 149 = .ok (.getfield 28, 3) := by decide +kernel
theorem dX3_judgeOne_152 : decode cX3_judgeOne 152 = .ok (.iload_n 1, 1) := by decide +kernel
theorem dX3_judgeOne_153 : decode cX3_judgeOne 153 = .ok (.invokestatic 68, 3) := by decide +kernel
theorem dX3_judgeOne_156 : decode cX3_judgeOne 156 = .ok (.putfield 28, 3) := by decide +kernel
theorem dX3_judgeOne_159 : decode cX3_judgeOne 159 = .ok (.return_, 1) := by decide +kernel
theorem dX5_init_0 : decode cX5_init 0 = .ok (.aload_n 0, 1) := by decide +kernel
theorem dX5_init_1 : decode cX5_init 1 = .ok (.invokespecial 3, 3) := by decide +kernel
theorem dX5_init_4 : decode cX5_init 4 = .ok (.aload_n 0, 1) := by decide +kernel
theorem dX5_init_5 : decode cX5_init 5 = .ok (.bipush 8, 2) := by decide +kernel
theorem dX5_init_7 : decode cX5_init 7 = .ok (.newarray .long, 2) := by decide +kernel
theorem dX5_init_9 : decode cX5_init 9 = .ok (.putfield 9, 3) := by decide +kernel
theorem dX5_init_12 : decode cX5_init 12 = .ok (.aload_n 0, 1) := by decide +kernel
theorem dX5_init_13 : decode cX5_init 13 = .ok (.iconst 2, 1) := by decide +kernel
theorem dX5_init_14 : decode cX5_init 14 = .ok (.bipush 8, 2) := by decide +kernel
theorem dX5_init_16 : decode cX5_init 16 = .ok (.multianewarray 15 2, 4) := by decide +kernel
theorem dX5_init_20 : decode cX5_init 20 = .ok (.putfield 17, 3) := by decide +kernel
theorem dX5_init_23 : decode cX5_init 23 = .ok (.aload_n 0, 1) := by decide +kernel
theorem dX5_init_24 : decode cX5_init 24 = .ok (.bipush 8, 2) := by decide +kernel
theorem dX5_init_26 : decode cX5_init 26 = .ok (.newarray .long, 2) := by decide +kernel
theorem dX5_init_28 : decode cX5_init 28 = .ok (.putfield 20, 3) := by decide +kernel
theorem dX5_init_31 : decode cX5_init 31 = .ok (.aload_n 0, 1) := by decide +kernel
theorem dX5_init_32 : decode cX5_init 32 = .ok (.bipush 8, 2) := by decide +kernel
theorem dX5_init_34 : decode cX5_init 34 = .ok (.newarray .long, 2) := by decide +kernel
theorem dX5_init_36 : decode cX5_init 36 = .ok (.putfield 23, 3) := by decide +kernel
theorem dX5_init_39 : decode cX5_init 39 = .ok (.return_, 1) := by decide +kernel
theorem dX5_covers_0 : decode cX5_covers 0 = .ok (.iload_n 0, 1) := by decide +kernel
theorem dX5_covers_1 : decode cX5_covers 1 = .ok (.iconst 1, 1) := by decide +kernel
theorem dX5_covers_2 : decode cX5_covers 2 = .ok (.if_icmp .lt 13, 3) := by decide +kernel
theorem dX5_covers_5 : decode cX5_covers 5 = .ok (.iload_n 0, 1) := by decide +kernel
theorem dX5_covers_6 : decode cX5_covers 6 = .ok (.bipush 7, 2) := by decide +kernel
theorem dX5_covers_8 : decode cX5_covers 8 = .ok (.if_icmp .gt 7, 3) := by decide +kernel
theorem dX5_covers_11 : decode cX5_covers 11 = .ok (.iconst 1, 1) := by decide +kernel
theorem dX5_covers_12 : decode cX5_covers 12 = .ok (.goto 4, 3) := by decide +kernel
theorem dX5_covers_15 : decode cX5_covers 15 = .ok (.iconst 0, 1) := by decide +kernel
theorem dX5_covers_16 : decode cX5_covers 16 = .ok (.ireturn, 1) := by decide +kernel
theorem dX5_countTrees_0 : decode cX5_countTrees 0 = .ok (.aload_n 0, 1) := by decide +kernel
theorem dX5_countTrees_1 : decode cX5_countTrees 1 = .ok (.getfield 9, 3) := by decide +kernel
theorem dX5_countTrees_4 : decode cX5_countTrees 4 = .ok (.iconst 1, 1) := by decide +kernel
theorem dX5_countTrees_5 : decode cX5_countTrees 5 = .ok (.lconst 1, 1) := by decide +kernel
theorem dX5_countTrees_6 : decode cX5_countTrees 6 = .ok (.lastore, 1) := by decide +kernel
theorem dX5_countTrees_7 : decode cX5_countTrees 7 = .ok (.iconst 2, 1) := by decide +kernel
theorem dX5_countTrees_8 : decode cX5_countTrees 8 = .ok (.istore_n 2, 1) := by decide +kernel
theorem dX5_countTrees_9 : decode cX5_countTrees 9 = .ok (.iload_n 2, 1) := by decide +kernel
theorem dX5_countTrees_10 : decode cX5_countTrees 10 = .ok (.bipush 7, 2) := by decide +kernel
theorem dX5_countTrees_12 : decode cX5_countTrees 12 = .ok (.if_icmp .gt 61, 3) := by decide +kernel
theorem dX5_countTrees_15 : decode cX5_countTrees 15 = .ok (.aload_n 0, 1) := by decide +kernel
theorem dX5_countTrees_16 : decode cX5_countTrees 16 = .ok (.getfield 9, 3) := by decide +kernel
theorem dX5_countTrees_19 : decode cX5_countTrees 19 = .ok (.iload_n 2, 1) := by decide +kernel
theorem dX5_countTrees_20 : decode cX5_countTrees 20 = .ok (.lconst 0, 1) := by decide +kernel
theorem dX5_countTrees_21 : decode cX5_countTrees 21 = .ok (.lastore, 1) := by decide +kernel
theorem dX5_countTrees_22 : decode cX5_countTrees 22 = .ok (.iconst 0, 1) := by decide +kernel
theorem dX5_countTrees_23 : decode cX5_countTrees 23 = .ok (.istore_n 3, 1) := by decide +kernel
theorem dX5_countTrees_24 : decode cX5_countTrees 24 = .ok (.iload_n 3, 1) := by decide +kernel
theorem dX5_countTrees_25 : decode cX5_countTrees 25 = .ok (.iconst 2, 1) := by decide +kernel
theorem dX5_countTrees_26 : decode cX5_countTrees 26 = .ok (.if_icmp .ge 41, 3) := by decide +kernel
theorem dX5_countTrees_29 : decode cX5_countTrees 29 = .ok (.aload_n 0, 1) := by decide +kernel
theorem dX5_countTrees_30 : decode cX5_countTrees 30 = .ok (.getfield 17, 3) := by decide +kernel
theorem dX5_countTrees_33 : decode cX5_countTrees 33 = .ok (.iload_n 3, 1) := by decide +kernel
theorem dX5_countTrees_34 : decode cX5_countTrees 34 = .ok (.aaload, 1) := by decide +kernel
theorem dX5_countTrees_35 : decode cX5_countTrees 35 = .ok (.iload_n 2, 1) := by decide +kernel
theorem dX5_countTrees_36 : decode cX5_countTrees 36 = .ok (.aload_n 0, 1) := by decide +kernel
theorem dX5_countTrees_37 : decode cX5_countTrees 37 = .ok (.iload_n 3, 1) := by decide +kernel
theorem dX5_countTrees_38 : decode cX5_countTrees 38 = .ok (.iload_n 2, 1) := by decide +kernel
theorem dX5_countTrees_39 : decode cX5_countTrees 39 = .ok (.aload_n 1, 1) := by decide +kernel
theorem dX5_countTrees_40 : decode cX5_countTrees 40 = .ok (.invokevirtual 26, 3) := by decide +kernel
theorem dX5_countTrees_43 : decode cX5_countTrees 43 = .ok (.lastore, 1) := by decide +kernel
theorem dX5_countTrees_44 : decode cX5_countTrees 44 = .ok (.aload_n 0, 1) := by decide +kernel
theorem dX5_countTrees_45 : decode cX5_countTrees 45 = .ok (.getfield 9, 3) := by decide +kernel
theorem dX5_countTrees_48 : decode cX5_countTrees 48 = .ok (.iload_n 2, 1) := by decide +kernel
theorem dX5_countTrees_49 : decode cX5_countTrees 49 = .ok (.dup2, 1) := by decide +kernel
theorem dX5_countTrees_50 : decode cX5_countTrees 50 = .ok (.laload, 1) := by decide +kernel
theorem dX5_countTrees_51 : decode cX5_countTrees 51 = .ok (.aload_n 0, 1) := by decide +kernel
theorem dX5_countTrees_52 : decode cX5_countTrees 52 = .ok (.getfield 17, 3) := by decide +kernel
theorem dX5_countTrees_55 : decode cX5_countTrees 55 = .ok (.iload_n 3, 1) := by decide +kernel
theorem dX5_countTrees_56 : decode cX5_countTrees 56 = .ok (.aaload, 1) := by decide +kernel
theorem dX5_countTrees_57 : decode cX5_countTrees 57 = .ok (.iload_n 2, 1) := by decide +kernel
theorem dX5_countTrees_58 : decode cX5_countTrees 58 = .ok (.laload, 1) := by decide +kernel
theorem dX5_countTrees_59 : decode cX5_countTrees 59 = .ok (.ladd, 1) := by decide +kernel
theorem dX5_countTrees_60 : decode cX5_countTrees 60 = .ok (.lastore, 1) := by decide +kernel
theorem dX5_countTrees_61 : decode cX5_countTrees 61 = .ok (.iinc 3 1, 3) := by decide +kernel
theorem dX5_countTrees_64 : decode cX5_countTrees 64 = .ok (.goto (-40), 3) := by decide +kernel
theorem dX5_countTrees_67 : decode cX5_countTrees 67 = .ok (.iinc 2 1, 3) := by decide +kernel
theorem dX5_countTrees_70 : decode cX5_countTrees 70 = .ok (.goto (-61), 3) := by decide +kernel
theorem dX5_countTrees_73 : decode cX5_countTrees 73 = .ok (.return_, 1) := by decide +kernel
theorem dX5_countRooted_0 : decode cX5_countRooted 0 = .ok (.lconst 0, 1) := by decide +kernel
theorem dX5_countRooted_1 : decode cX5_countRooted 1 = .ok (.lstore 4, 2) := by decide +kernel
theorem dX5_countRooted_3 : decode cX5_countRooted 3 = .ok (.iconst 1, 1) := by decide +kernel
theorem dX5_countRooted_4 : decode cX5_countRooted 4 = .ok (.istore 6, 2) := by decide +kernel
theorem dX5_countRooted_6 : decode cX5_countRooted 6 = .ok (.iload 6, 2) := by decide +kernel
theorem dX5_countRooted_8 : decode cX5_countRooted 8 = .ok (.iload_n 2, 1) := by decide +kernel
theorem dX5_countRooted_9 : decode cX5_countRooted 9 = .ok (.if_icmp .ge 35, 3) := by decide +kernel
theorem dX5_countRooted_12 : decode cX5_countRooted 12 = .ok (.lload 4, 2) := by decide +kernel
theorem dX5_countRooted_14 : decode cX5_countRooted 14 = .ok (.aload_n 0, 1) := by decide +kernel
theorem dX5_countRooted_15 : decode cX5_countRooted 15 = .ok (.iload_n 1, 1) := by decide +kernel
theorem dX5_countRooted_16 : decode cX5_countRooted 16 = .ok (.iconst 0, 1) := by decide +kernel
theorem dX5_countRooted_17 : decode cX5_countRooted 17 = .ok (.iload 6, 2) := by decide +kernel
theorem dX5_countRooted_19 : decode cX5_countRooted 19 = .ok (.aload_n 3, 1) := by decide +kernel
theorem dX5_countRooted_20 : decode cX5_countRooted 20 = .ok (.invokevirtual 30, 3) := by decide +kernel
theorem dX5_countRooted_23 : decode cX5_countRooted 23 = .ok (.aload_n 0, 1) := by decide +kernel
theorem dX5_countRooted_24 : decode cX5_countRooted 24 = .ok (.iload_n 1, 1) := by decide +kernel
theorem dX5_countRooted_25 : decode cX5_countRooted 25 = .ok (.iconst 1, 1) := by decide +kernel
theorem dX5_countRooted_26 : decode cX5_countRooted 26 = .ok (.iload_n 2, 1) := by decide +kernel
theorem dX5_countRooted_27 : decode cX5_countRooted 27 = .ok (.iload 6, 2) := by decide +kernel
theorem dX5_countRooted_29 : decode cX5_countRooted 29 = .ok (.isub, 1) := by decide +kernel
theorem dX5_countRooted_30 : decode cX5_countRooted 30 = .ok (.aload_n 3, 1) := by decide +kernel
theorem dX5_countRooted_31 : decode cX5_countRooted 31 = .ok (.invokevirtual 30, 3) := by decide +kernel
theorem dX5_countRooted_34 : decode cX5_countRooted 34 = .ok (.lmul, 1) := by decide +kernel
theorem dX5_countRooted_35 : decode cX5_countRooted 35 = .ok (.ladd, 1) := by decide +kernel
theorem dX5_countRooted_36 : decode cX5_countRooted 36 = .ok (.lstore 4, 2) := by decide +kernel
theorem dX5_countRooted_38 : decode cX5_countRooted 38 = .ok (.iinc 6 1, 3) := by decide +kernel
theorem dX5_countRooted_41 : decode cX5_countRooted 41 = .ok (.goto (-35), 3) := by decide +kernel
theorem dX5_countRooted_44 : decode cX5_countRooted 44 = .ok (.lload 4, 2) := by decide +kernel
theorem dX5_countRooted_46 : decode cX5_countRooted 46 = .ok (.lreturn, 1) := by decide +kernel
theorem dX5_countBranches_0 : decode cX5_countBranches 0 = .ok (.iload_n 3, 1) := by decide +kernel
theorem dX5_countBranches_1 : decode cX5_countBranches 1 = .ok (.iconst 1, 1) := by decide +kernel
theorem dX5_countBranches_2 : decode cX5_countBranches 2 = .ok (.if_icmp .le 9, 3) := by decide +kernel
theorem dX5_countBranches_5 : decode cX5_countBranches 5 = .ok (.iload_n 3, 1) := by decide +kernel
theorem dX5_countBranches_6 : decode cX5_countBranches 6 = .ok (.bipush 7, 2) := by decide +kernel
theorem dX5_countBranches_8 : decode cX5_countBranches 8 = .ok (.if_icmp .le 5, 3) := by decide +kernel
theorem dX5_countBranches_11 : decode cX5_countBranches 11 = .ok (.lconst 1, 1) := by decide +kernel
theorem dX5_countBranches_12 : decode cX5_countBranches 12 = .ok (.lreturn, 1) := by decide +kernel
theorem dX5_countBranches_13 : decode cX5_countBranches 13 = .ok (.lconst 0, 1) := by decide +kernel
theorem dX5_countBranches_14 : decode cX5_countBranches 14 = .ok (.lstore 5, 2) := by decide +kernel
theorem dX5_countBranches_16 : decode cX5_countBranches 16 = .ok (.iconst 0, 1) := by decide +kernel
theorem dX5_countBranches_17 : decode cX5_countBranches 17 = .ok (.istore 7, 2) := by decide +kernel
theorem dX5_countBranches_19 : decode cX5_countBranches 19 = .ok (.iload 7, 2) := by decide +kernel
theorem dX5_countBranches_21 : decode cX5_countBranches 21 = .ok (.iconst 2, 1) := by decide +kernel
theorem dX5_countBranches_22 : decode cX5_countBranches 22 = .ok (.if_icmp .ge 41, 3) := by decide +kernel
theorem dX5_countBranches_25 : decode cX5_countBranches 25 = .ok (.aload 4, 2) := by decide +kernel
theorem dX5_countBranches_27 : decode cX5_countBranches 27 = .ok (.iconst 4, 1) := by decide +kernel
theorem dX5_countBranches_28 : decode cX5_countBranches 28 = .ok (.iload_n 1, 1) := by decide +kernel
theorem dX5_countBranches_29 : decode cX5_countBranches 29 = .ok (.imul, 1) := by decide +kernel
theorem dX5_countBranches_30 : decode cX5_countBranches 30 = .ok (.iconst 2, 1) := by decide +kernel
theorem dX5_countBranches_31 : decode cX5_countBranches 31 = .ok (.iload 7, 2) := by decide +kernel
theorem dX5_countBranches_33 : decode cX5_countBranches 33 = .ok (.imul, 1) := by decide +kernel
theorem dX5_countBranches_34 : decode cX5_countBranches 34 = .ok (.iadd, 1) := by decide +kernel
theorem dX5_countBranches_35 : decode cX5_countBranches 35 = .ok (.iload_n 2, 1) := by decide +kernel
theorem dX5_countBranches_36 : decode cX5_countBranches 36 = .ok (.iadd, 1) := by decide +kernel
theorem dX5_countBranches_37 : decode cX5_countBranches 37 = .ok (.invokevirtual 34, 3) := by decide +kernel
theorem dX5_countBranches_40 : decode cX5_countBranches 40 = .ok (.ifCond .ne 17, 3) := by decide +kernel
theorem dX5_countBranches_43 : decode cX5_countBranches 43 = .ok (.lload 5, 2) := by decide +kernel
theorem dX5_countBranches_45 : decode cX5_countBranches 45 = .ok (.aload_n 0, 1) := by decide +kernel
theorem dX5_countBranches_46 : decode cX5_countBranches 46 = .ok (.getfield 17, 3) := by decide +kernel
theorem dX5_countBranches_49 : decode cX5_countBranches 49 = .ok (.iload 7, 2) := by decide +kernel
theorem dX5_countBranches_51 : decode cX5_countBranches 51 = .ok (.aaload, 1) := by decide +kernel
theorem dX5_countBranches_52 : decode cX5_countBranches 52 = .ok (.iload_n 3, 1) := by decide +kernel
theorem dX5_countBranches_53 : decode cX5_countBranches 53 = .ok (.laload, 1) := by decide +kernel
theorem dX5_countBranches_54 : decode cX5_countBranches 54 = .ok (.ladd, 1) := by decide +kernel
theorem dX5_countBranches_55 : decode cX5_countBranches 55 = .ok (.lstore 5, 2) := by decide +kernel
theorem dX5_countBranches_57 : decode cX5_countBranches 57 = .ok (.iinc 7 1, 3) := by decide +kernel
theorem dX5_countBranches_60 : decode cX5_countBranches 60 = .ok (.goto (-41), 3) := by decide +kernel
theorem dX5_countBranches_63 : decode cX5_countBranches 63 = .ok (.lload 5, 2) := by decide +kernel
theorem dX5_countBranches_65 : decode cX5_countBranches 65 = .ok (.lreturn, 1) := by decide +kernel
theorem dX5_undoTrees_0 : decode cX5_undoTrees 0 = .ok (.aload_n 0, 1) := by decide +kernel
theorem dX5_undoTrees_1 : decode cX5_undoTrees 1 = .ok (.getfield 20, 3) := by decide +kernel
theorem dX5_undoTrees_4 : decode cX5_undoTrees 4 = .ok (.lconst 0, 1) := by decide +kernel
theorem dX5_undoTrees_5 : decode cX5_undoTrees 5 = .ok (.invokestatic 40, 3) := by decide +kernel
theorem dX5_undoTrees_8 : decode cX5_undoTrees 8 = .ok (.aload_n 0, 1) := by decide +kernel
theorem dX5_undoTrees_9 : decode cX5_undoTrees 9 = .ok (.getfield 20, 3) := by decide +kernel
theorem dX5_undoTrees_12 : decode cX5_undoTrees 12 = .ok (.iconst 1, 1) := by decide +kernel
theorem dX5_undoTrees_13 : decode cX5_undoTrees 13 = .ok (.lconst 1, 1) := by decide +kernel
theorem dX5_undoTrees_14 : decode cX5_undoTrees 14 = .ok (.lastore, 1) := by decide +kernel
theorem dX5_undoTrees_15 : decode cX5_undoTrees 15 = .ok (.iconst 2, 1) := by decide +kernel
theorem dX5_undoTrees_16 : decode cX5_undoTrees 16 = .ok (.istore_n 1, 1) := by decide +kernel
theorem dX5_undoTrees_17 : decode cX5_undoTrees 17 = .ok (.iload_n 1, 1) := by decide +kernel
theorem dX5_undoTrees_18 : decode cX5_undoTrees 18 = .ok (.bipush 7, 2) := by decide +kernel
theorem dX5_undoTrees_20 : decode cX5_undoTrees 20 = .ok (.if_icmp .gt 73, 3) := by decide +kernel
theorem dX5_undoTrees_23 : decode cX5_undoTrees 23 = .ok (.aload_n 0, 1) := by decide +kernel
theorem dX5_undoTrees_24 : decode cX5_undoTrees 24 = .ok (.getfield 20, 3) := by decide +kernel
theorem dX5_undoTrees_27 : decode cX5_undoTrees 27 = .ok (.iconst 0, 1) := by decide +kernel
theorem dX5_undoTrees_28 : decode cX5_undoTrees 28 = .ok (.aload_n 0, 1) := by decide +kernel
theorem dX5_undoTrees_29 : decode cX5_undoTrees 29 = .ok (.getfield 23, 3) := by decide +kernel
theorem dX5_undoTrees_32 : decode cX5_undoTrees 32 = .ok (.iconst 0, 1) := by decide +kernel
theorem dX5_undoTrees_33 : decode cX5_undoTrees 33 = .ok (.aload_n 0, 1) := by decide +kernel
theorem dX5_undoTrees_34 : decode cX5_undoTrees 34 = .ok (.getfield 23, 3) := by decide +kernel
theorem dX5_undoTrees_37 : decode cX5_undoTrees 37 = .ok (.arraylength, 1) := by decide +kernel
theorem dX5_undoTrees_38 : decode cX5_undoTrees 38 = .ok (.invokestatic 46, 3) := by decide +kernel
theorem dX5_undoTrees_41 : decode cX5_undoTrees 41 = .ok (.lconst 0, 1) := by decide +kernel
theorem dX5_undoTrees_42 : decode cX5_undoTrees 42 = .ok (.lstore_n 2, 1) := by decide +kernel
theorem dX5_undoTrees_43 : decode cX5_undoTrees 43 = .ok (.iconst 2, 1) := by decide +kernel
theorem dX5_undoTrees_44 : decode cX5_undoTrees 44 = .ok (.istore 4, 2) := by decide +kernel
theorem dX5_undoTrees_46 : decode cX5_undoTrees 46 = .ok (.iload 4, 2) := by decide +kernel
theorem dX5_undoTrees_48 : decode cX5_undoTrees 48 = .ok (.iload_n 1, 1) := by decide +kernel
theorem dX5_undoTrees_49 : decode cX5_undoTrees 49 = .ok (.if_icmp .gt 30, 3) := by decide +kernel
theorem dX5_undoTrees_52 : decode cX5_undoTrees 52 = .ok (.aload_n 0, 1) := by decide +kernel
theorem dX5_undoTrees_53 : decode cX5_undoTrees 53 = .ok (.invokevirtual 52, 3) := by decide +kernel
theorem dX5_undoTrees_56 : decode cX5_undoTrees 56 = .ok (.lload_n 2, 1) := by decide +kernel
theorem dX5_undoTrees_57 : decode cX5_undoTrees 57 = .ok (.aload_n 0, 1) := by decide +kernel
theorem dX5_undoTrees_58 : decode cX5_undoTrees 58 = .ok (.getfield 9, 3) := by decide +kernel
theorem dX5_undoTrees_61 : decode cX5_undoTrees 61 = .ok (.iload 4, 2) := by decide +kernel
theorem dX5_undoTrees_63 : decode cX5_undoTrees 63 = .ok (.laload, 1) := by decide +kernel
theorem dX5_undoTrees_64 : decode cX5_undoTrees 64 = .ok (.aload_n 0, 1) := by decide +kernel
theorem dX5_undoTrees_65 : decode cX5_undoTrees 65 = .ok (.getfield 23, 3) := by decide +kernel
theorem dX5_undoTrees_68 : decode cX5_undoTrees 68 = .ok (.iload_n 1, 1) := by decide +kernel
theorem dX5_undoTrees_69 : decode cX5_undoTrees 69 = .ok (.laload, 1) := by decide +kernel
theorem dX5_undoTrees_70 : decode cX5_undoTrees 70 = .ok (.lmul, 1) := by decide +kernel
theorem dX5_undoTrees_71 : decode cX5_undoTrees 71 = .ok (.ladd, 1) := by decide +kernel
theorem dX5_undoTrees_72 : decode cX5_undoTrees 72 = .ok (.lstore_n 2, 1) := by decide +kernel
theorem dX5_undoTrees_73 : decode cX5_undoTrees 73 = .ok (.iinc 4 1, 3) := by decide +kernel
theorem dX5_undoTrees_76 : decode cX5_undoTrees 76 = .ok (.goto (-30), 3) := by decide +kernel
theorem dX5_undoTrees_79 : decode cX5_undoTrees 79 = .ok (.aload_n 0, 1) := by decide +kernel
theorem dX5_undoTrees_80 : decode cX5_undoTrees 80 = .ok (.getfield 20, 3) := by decide +kernel
theorem dX5_undoTrees_83 : decode cX5_undoTrees 83 = .ok (.iload_n 1, 1) := by decide +kernel
theorem dX5_undoTrees_84 : decode cX5_undoTrees 84 = .ok (.lload_n 2, 1) := by decide +kernel
theorem dX5_undoTrees_85 : decode cX5_undoTrees 85 = .ok (.lneg, 1) := by decide +kernel
theorem dX5_undoTrees_86 : decode cX5_undoTrees 86 = .ok (.lastore, 1) := by decide +kernel
theorem dX5_undoTrees_87 : decode cX5_undoTrees 87 = .ok (.iinc 1 1, 3) := by decide +kernel
theorem dX5_undoTrees_90 : decode cX5_undoTrees 90 = .ok (.goto (-73), 3) := by decide +kernel
theorem dX5_undoTrees_93 : decode cX5_undoTrees 93 = .ok (.return_, 1) := by decide +kernel
theorem dX5_raisePower_0 : decode cX5_raisePower 0 = .ok (.bipush 7, 2) := by decide +kernel
theorem dX5_raisePower_2 : decode cX5_raisePower 2 = .ok (.istore_n 1, 1) := by decide +kernel
theorem dX5_raisePower_3 : decode cX5_raisePower 3 = .ok (.iload_n 1, 1) := by decide +kernel
theorem dX5_raisePower_4 : decode cX5_raisePower 4 = .ok (.ifCond .lt 53, 3) := by decide +kernel
theorem dX5_raisePower_7 : decode cX5_raisePower 7 = .ok (.lconst 0, 1) := by decide +kernel
theorem dX5_raisePower_8 : decode cX5_raisePower 8 = .ok (.lstore_n 2, 1) := by decide +kernel
theorem dX5_raisePower_9 : decode cX5_raisePower 9 = .ok (.iconst 1, 1) := by decide +kernel
theorem dX5_raisePower_10 : decode cX5_raisePower 10 = .ok (.istore 4, 2) := by decide +kernel
theorem dX5_raisePower_12 : decode cX5_raisePower 12 = .ok (.iload 4, 2) := by decide +kernel
theorem dX5_raisePower_14 : decode cX5_raisePower 14 = .ok (.iload_n 1, 1) := by decide +kernel
theorem dX5_raisePower_15 : decode cX5_raisePower 15 = .ok (.if_icmp .gt 29, 3) := by decide +kernel
theorem dX5_raisePower_18 : decode cX5_raisePower 18 = .ok (.lload_n 2, 1) := by decide +kernel
theorem dX5_raisePower_19 : decode cX5_raisePower 19 = .ok (.aload_n 0, 1) := by decide +kernel
theorem dX5_raisePower_20 : decode cX5_raisePower 20 = .ok (.getfield 20, 3) := by decide +kernel
theorem dX5_raisePower_23 : decode cX5_raisePower 23 = .ok (.iload 4, 2) := by decide +kernel
theorem dX5_raisePower_25 : decode cX5_raisePower 25 = .ok (.laload, 1) := by decide +kernel
theorem dX5_raisePower_26 : decode cX5_raisePower 26 = .ok (.aload_n 0, 1) := by decide +kernel
theorem dX5_raisePower_27 : decode cX5_raisePower 27 = .ok (.getfield 23, 3) := by decide +kernel
theorem dX5_raisePower_30 : decode cX5_raisePower 30 = .ok (.iload_n 1, 1) := by decide +kernel
theorem dX5_raisePower_31 : decode cX5_raisePower 31 = .ok (.iload 4, 2) := by decide +kernel
theorem dX5_raisePower_33 : decode cX5_raisePower 33 = .ok (.isub, 1) := by decide +kernel
theorem dX5_raisePower_34 : decode cX5_raisePower 34 = .ok (.laload, 1) := by decide +kernel
theorem dX5_raisePower_35 : decode cX5_raisePower 35 = .ok (.lmul, 1) := by decide +kernel
theorem dX5_raisePower_36 : decode cX5_raisePower 36 = .ok (.ladd, 1) := by decide +kernel
theorem dX5_raisePower_37 : decode cX5_raisePower 37 = .ok (.lstore_n 2, 1) := by decide +kernel
theorem dX5_raisePower_38 : decode cX5_raisePower 38 = .ok (.iinc 4 1, 3) := by decide +kernel
theorem dX5_raisePower_41 : decode cX5_raisePower 41 = .ok (.goto (-29), 3) := by decide +kernel
theorem dX5_raisePower_44 : decode cX5_raisePower 44 = .ok (.aload_n 0, 1) := by decide +kernel
theorem dX5_raisePower_45 : decode cX5_raisePower 45 = .ok (.getfield 23, 3) := by decide +kernel
theorem dX5_raisePower_48 : decode cX5_raisePower 48 = .ok (.iload_n 1, 1) := by decide +kernel
theorem dX5_raisePower_49 : decode cX5_raisePower 49 = .ok (.lload_n 2, 1) := by decide +kernel
theorem dX5_raisePower_50 : decode cX5_raisePower 50 = .ok (.lastore, 1) := by decide +kernel
theorem dX5_raisePower_51 : decode cX5_raisePower 51 = .ok (.iinc 1 (-1), 3) := by decide +kernel
theorem dX5_raisePower_54 : decode cX5_raisePower 54 = .ok (.goto (-51), 3) := by decide +kernel
theorem dX5_raisePower_57 : decode cX5_raisePower 57 = .ok (.return_, 1) := by decide +kernel
theorem dJ7_fill_d0a16_0 : decode cJ7_fill_d0a16 0 = .ok (.iconst 0, 1) := by decide +kernel
theorem dJ7_fill_d0a16_1 : decode cJ7_fill_d0a16 1 = .ok (.istore_n 3, 1) := by decide +kernel
theorem dJ7_fill_d0a16_2 : decode cJ7_fill_d0a16 2 = .ok (.aload_n 0, 1) := by decide +kernel
theorem dJ7_fill_d0a16_3 : decode cJ7_fill_d0a16 3 = .ok (.arraylength, 1) := by decide +kernel
theorem dJ7_fill_d0a16_4 : decode cJ7_fill_d0a16 4 = .ok (.istore 4, 2) := by decide +kernel
theorem dJ7_fill_d0a16_6 : decode cJ7_fill_d0a16 6 = .ok (.iload_n 3, 1) := by decide +kernel
theorem dJ7_fill_d0a16_7 : decode cJ7_fill_d0a16 7 = .ok (.iload 4, 2) := by decide +kernel
theorem dJ7_fill_d0a16_9 : decode cJ7_fill_d0a16 9 = .ok (.if_icmp .ge 13, 3) := by decide +kernel
theorem dJ7_fill_d0a16_12 : decode cJ7_fill_d0a16 12 = .ok (.aload_n 0, 1) := by decide +kernel
theorem dJ7_fill_d0a16_13 : decode cJ7_fill_d0a16 13 = .ok (.iload_n 3, 1) := by decide +kernel
theorem dJ7_fill_d0a16_14 : decode cJ7_fill_d0a16 14 = .ok (.lload_n 1, 1) := by decide +kernel
theorem dJ7_fill_d0a16_15 : decode cJ7_fill_d0a16 15 = .ok (.lastore, 1) := by decide +kernel
theorem dJ7_fill_d0a16_16 : decode cJ7_fill_d0a16 16 = .ok (.iinc 3 1, 3) := by decide +kernel
theorem dJ7_fill_d0a16_19 : decode cJ7_fill_d0a16 19 = .ok (.goto (-13), 3) := by decide +kernel
theorem dJ7_fill_d0a16_22 : decode cJ7_fill_d0a16 22 = .ok (.return_, 1) := by decide +kernel
theorem dJ7_fill_53178_0 : decode cJ7_fill_53178 0 = .ok (.iconst 0, 1) := by decide +kernel
theorem dJ7_fill_53178_1 : decode cJ7_fill_53178 1 = .ok (.istore_n 2, 1) := by decide +kernel
theorem dJ7_fill_53178_2 : decode cJ7_fill_53178 2 = .ok (.aload_n 0, 1) := by decide +kernel
theorem dJ7_fill_53178_3 : decode cJ7_fill_53178 3 = .ok (.arraylength, 1) := by decide +kernel
theorem dJ7_fill_53178_4 : decode cJ7_fill_53178 4 = .ok (.istore_n 3, 1) := by decide +kernel
theorem dJ7_fill_53178_5 : decode cJ7_fill_53178 5 = .ok (.iload_n 2, 1) := by decide +kernel
theorem dJ7_fill_53178_6 : decode cJ7_fill_53178 6 = .ok (.iload_n 3, 1) := by decide +kernel
theorem dJ7_fill_53178_7 : decode cJ7_fill_53178 7 = .ok (.if_icmp .ge 13, 3) := by decide +kernel
theorem dJ7_fill_53178_10 : decode cJ7_fill_53178 10 = .ok (.aload_n 0, 1) := by decide +kernel
theorem dJ7_fill_53178_11 : decode cJ7_fill_53178 11 = .ok (.iload_n 2, 1) := by decide +kernel
theorem dJ7_fill_53178_12 : decode cJ7_fill_53178 12 = .ok (.iload_n 1, 1) := by decide +kernel
theorem dJ7_fill_53178_13 : decode cJ7_fill_53178 13 = .ok (.iastore, 1) := by decide +kernel
theorem dJ7_fill_53178_14 : decode cJ7_fill_53178 14 = .ok (.iinc 2 1, 3) := by decide +kernel
theorem dJ7_fill_53178_17 : decode cJ7_fill_53178 17 = .ok (.goto (-12), 3) := by decide +kernel
theorem dJ7_fill_53178_20 : decode cJ7_fill_53178 20 = .ok (.return_, 1) := by decide +kernel
theorem dJ9_floorMod_7cf53_0 : decode cJ9_floorMod_7cf53 0 = .ok (.iload_n 0, 1) := by decide +kernel
theorem dJ9_floorMod_7cf53_1 : decode cJ9_floorMod_7cf53 1 = .ok (.iload_n 1, 1) := by decide +kernel
theorem dJ9_floorMod_7cf53_2 : decode cJ9_floorMod_7cf53 2 = .ok (.irem, 1) := by decide +kernel
theorem dJ9_floorMod_7cf53_3 : decode cJ9_floorMod_7cf53 3 = .ok (.istore_n 2, 1) := by decide +kernel
theorem dJ9_floorMod_7cf53_4 : decode cJ9_floorMod_7cf53 4 = .ok (.iload_n 0, 1) := by decide +kernel
theorem dJ9_floorMod_7cf53_5 : decode cJ9_floorMod_7cf53 5 = .ok (.iload_n 1, 1) := by decide +kernel
theorem dJ9_floorMod_7cf53_6 : decode cJ9_floorMod_7cf53 6 = .ok (.ixor, 1) := by decide +kernel
theorem dJ9_floorMod_7cf53_7 : decode cJ9_floorMod_7cf53 7 = .ok (.ifCond .ge 11, 3) := by decide +kernel
theorem dJ9_floorMod_7cf53_10 : decode cJ9_floorMod_7cf53 10 = .ok (.iload_n 2, 1) := by decide +kernel
theorem dJ9_floorMod_7cf53_11 : decode cJ9_floorMod_7cf53 11 = .ok (.ifCond .eq 7, 3) := by decide +kernel
theorem dJ9_floorMod_7cf53_14 : decode cJ9_floorMod_7cf53 14 = .ok (.iload_n 2, 1) := by decide +kernel
theorem dJ9_floorMod_7cf53_15 : decode cJ9_floorMod_7cf53 15 = .ok (.iload_n 1, 1) := by decide +kernel
theorem dJ9_floorMod_7cf53_16 : decode cJ9_floorMod_7cf53 16 = .ok (.iadd, 1) := by decide +kernel
theorem dJ9_floorMod_7cf53_17 : decode cJ9_floorMod_7cf53 17 = .ok (.ireturn, 1) := by decide +kernel
theorem dJ9_floorMod_7cf53_18 : decode cJ9_floorMod_7cf53 18 = .ok (.iload_n 2, 1) := by decide +kernel
theorem dJ9_floorMod_7cf53_19 : decode cJ9_floorMod_7cf53 19 = .ok (.ireturn, 1) := by decide +kernel
theorem dJ9_max_7cf53_0 : decode cJ9_max_7cf53 0 = .ok (.iload_n 0, 1) := by decide +kernel
theorem dJ9_max_7cf53_1 : decode cJ9_max_7cf53 1 = .ok (.iload_n 1, 1) := by decide +kernel
theorem dJ9_max_7cf53_2 : decode cJ9_max_7cf53 2 = .ok (.if_icmp .lt 7, 3) := by decide +kernel
theorem dJ9_max_7cf53_5 : decode cJ9_max_7cf53 5 = .ok (.iload_n 0, 1) := by decide +kernel
theorem dJ9_max_7cf53_6 : decode cJ9_max_7cf53 6 = .ok (.goto 4, 3) := by decide +kernel
theorem dJ9_max_7cf53_9 : decode cJ9_max_7cf53 9 = .ok (.iload_n 1, 1) := by decide +kernel
theorem dJ9_max_7cf53_10 : decode cJ9_max_7cf53 10 = .ok (.ireturn, 1) := by decide +kernel
theorem dJ9_min_7cf53_0 : decode cJ9_min_7cf53 0 = .ok (.iload_n 0, 1) := by decide +kernel
theorem dJ9_min_7cf53_1 : decode cJ9_min_7cf53 1 = .ok (.iload_n 1, 1) := by decide +kernel
theorem dJ9_min_7cf53_2 : decode cJ9_min_7cf53 2 = .ok (.if_icmp .gt 7, 3) := by decide +kernel
theorem dJ9_min_7cf53_5 : decode cJ9_min_7cf53 5 = .ok (.iload_n 0, 1) := by decide +kernel
theorem dJ9_min_7cf53_6 : decode cJ9_min_7cf53 6 = .ok (.goto 4, 3) := by decide +kernel
theorem dJ9_min_7cf53_9 : decode cJ9_min_7cf53 9 = .ok (.iload_n 1, 1) := by decide +kernel
theorem dJ9_min_7cf53_10 : decode cJ9_min_7cf53 10 = .ok (.ireturn, 1) := by decide +kernel
theorem dX8_init_0 : decode cX8_init 0 = .ok (.aload_n 0, 1) := by decide +kernel
theorem dX8_init_1 : decode cX8_init 1 = .ok (.invokespecial 3, 3) := by decide +kernel
theorem dX8_init_4 : decode cX8_init 4 = .ok (.aload_n 0, 1) := by decide +kernel
theorem dX8_init_5 : decode cX8_init 5 = .ok (.new 9, 3) := by decide +kernel
theorem dX8_init_8 : decode cX8_init 8 = .ok (.dup, 1) := by decide +kernel
theorem dX8_init_9 : decode cX8_init 9 = .ok (.invokespecial 11, 3) := by decide +kernel
theorem dX8_init_12 : decode cX8_init 12 = .ok (.putfield 12, 3) := by decide +kernel
theorem dX8_init_15 : decode cX8_init 15 = .ok (.aload_n 0, 1) := by decide +kernel
theorem dX8_init_16 : decode cX8_init 16 = .ok (.new 16, 3) := by decide +kernel
theorem dX8_init_19 : decode cX8_init 19 = .ok (.dup, 1) := by decide +kernel
theorem dX8_init_20 : decode cX8_init 20 = .ok (.invokespecial 18, 3) := by decide +kernel
theorem dX8_init_23 : decode cX8_init 23 = .ok (.putfield 19, 3) := by decide +kernel
theorem dX8_init_26 : decode cX8_init 26 = .ok (.aload_n 0, 1) := by decide +kernel
theorem dX8_init_27 : decode cX8_init 27 = .ok (.iconst 2, 1) := by decide +kernel
theorem dX8_init_28 : decode cX8_init 28 = .ok (.anewarray 23, 3) := by decide +kernel
theorem dX8_init_31 : decode cX8_init 31 = .ok (.putfield 25, 3) := by decide +kernel
theorem dX8_init_34 : decode cX8_init 34 = .ok (.aload_n 0, 1) := by decide +kernel
theorem dX8_init_35 : decode cX8_init 35 = .ok (.new 29, 3) := by decide +kernel
theorem dX8_init_38 : decode cX8_init 38 = .ok (.dup, 1) := by decide +kernel
theorem dX8_init_39 : decode cX8_init 39 = .ok (.invokespecial 31, 3) := by decide +kernel
theorem dX8_init_42 : decode cX8_init 42 = .ok (.putfield 32, 3) := by decide +kernel
theorem dX8_init_45 : decode cX8_init 45 = .ok (.aload_n 0, 1) := by decide +kernel
theorem dX8_init_46 : decode cX8_init 46 = .ok (.new 36, 3) := by decide +kernel
theorem dX8_init_49 : decode cX8_init 49 = .ok (.dup, 1) := by decide +kernel
theorem dX8_init_50 : decode cX8_init 50 = .ok (.invokespecial 38, 3) := by decide +kernel
theorem dX8_init_53 : decode cX8_init 53 = .ok (.putfield 39, 3) := by decide +kernel
theorem dX8_init_56 : decode cX8_init 56 = .ok (.aload_n 0, 1) := by decide +kernel
theorem dX8_init_57 : decode cX8_init 57 = .ok (.new 43, 3) := by decide +kernel
theorem dX8_init_60 : decode cX8_init 60 = .ok (.dup, 1) := by decide +kernel
theorem dX8_init_61 : decode cX8_init 61 = .ok (.invokespecial 45, 3) := by decide +kernel
theorem dX8_init_64 : decode cX8_init 64 = .ok (.putfield 46, 3) := by decide +kernel
theorem dX8_init_67 : decode cX8_init 67 = .ok (.aload_n 0, 1) := by decide +kernel
theorem dX8_init_68 : decode cX8_init 68 = .ok (.new 50, 3) := by decide +kernel
theorem dX8_init_71 : decode cX8_init 71 = .ok (.dup, 1) := by decide +kernel
theorem dX8_init_72 : decode cX8_init 72 = .ok (.invokespecial 52, 3) := by decide +kernel
theorem dX8_init_75 : decode cX8_init 75 = .ok (.putfield 53, 3) := by decide +kernel
theorem dX8_init_78 : decode cX8_init 78 = .ok (.aload_n 0, 1) := by decide +kernel
theorem dX8_init_79 : decode cX8_init 79 = .ok (.new 50, 3) := by decide +kernel
theorem dX8_init_82 : decode cX8_init 82 = .ok (.dup, 1) := by decide +kernel
theorem dX8_init_83 : decode cX8_init 83 = .ok (.invokespecial 52, 3) := by decide +kernel
theorem dX8_init_86 : decode cX8_init 86 = .ok (.putfield 57, 3) := by decide +kernel
theorem dX8_init_89 : decode cX8_init 89 = .ok (.aload_n 0, 1) := by decide +kernel
theorem dX8_init_90 : decode cX8_init 90 = .ok (.bipush 30, 2) := by decide +kernel
theorem dX8_init_92 : decode cX8_init 92 = .ok (.newarray .int, 2) := by decide +kernel
theorem dX8_init_94 : decode cX8_init 94 = .ok (.putfield 60, 3) := by decide +kernel
theorem dX8_init_97 : decode cX8_init 97 = .ok (.aload_n 0, 1) := by decide +kernel
theorem dX8_init_98 : decode cX8_init 98 = .ok (.iconst 0, 1) := by decide +kernel
theorem dX8_init_99 : decode cX8_init 99 = .ok (.putfield 64, 3) := by decide +kernel
theorem dX8_init_102 : decode cX8_init 102 = .ok (.aload_n 0, 1) := by decide +kernel
theorem dX8_init_103 : decode cX8_init 103 = .ok (.iconst (-1), 1) := by decide +kernel
theorem dX8_init_104 : decode cX8_init 104 = .ok (.putfield 68, 3) := by decide +kernel
theorem dX8_init_107 : decode cX8_init 107 = .ok (.aload_n 0, 1) := by decide +kernel
theorem dX8_init_108 : decode cX8_init 108 = .ok (.iconst 0, 1) := by decide +kernel
theorem dX8_init_109 : decode cX8_init 109 = .ok (.putfield 71, 3) := by decide +kernel
theorem dX8_init_112 : decode cX8_init 112 = .ok (.iconst 0, 1) := by decide +kernel
theorem dX8_init_113 : decode cX8_init 113 = .ok (.istore_n 1, 1) := by decide +kernel
theorem dX8_init_114 : decode cX8_init 114 = .ok (.iload_n 1, 1) := by decide +kernel
theorem dX8_init_115 : decode cX8_init 115 = .ok (.iconst 2, 1) := by decide +kernel
theorem dX8_init_116 : decode cX8_init 116 = .ok (.if_icmp .ge 22, 3) := by decide +kernel
theorem dX8_init_119 : decode cX8_init 119 = .ok (.aload_n 0, 1) := by decide +kernel
theorem dX8_init_120 : decode cX8_init 120 = .ok (.getfield 25, 3) := by decide +kernel
theorem dX8_init_123 : decode cX8_init 123 = .ok (.iload_n 1, 1) := by decide +kernel
theorem dX8_init_124 : decode cX8_init 124 = .ok (.new 23, 3) := by decide +kernel
theorem dX8_init_127 : decode cX8_init 127 = .ok (.dup, 1) := by decide +kernel
theorem dX8_init_128 : decode cX8_init 128 = .ok (.invokespecial 74, 3) := by decide +kernel
theorem dX8_init_131 : decode cX8_init 131 = .ok (.aastore, 1) := by decide +kernel
theorem dX8_init_132 : decode cX8_init 132 = .ok (.iinc 1 1, 3) := by decide +kernel
theorem dX8_init_135 : decode cX8_init 135 = .ok (.goto (-21), 3) := by decide +kernel
theorem dX8_init_138 : decode cX8_init 138 = .ok (.return_, 1) := by decide +kernel
theorem dX8_feed_0 : decode cX8_feed 0 = .ok (.iload_n 1, 1) := by decide +kernel
theorem dX8_feed_1 : decode cX8_feed 1 = .ok (.ifCond .lt 10, 3) := by decide +kernel
theorem dX8_feed_4 : decode cX8_feed 4 = .ok (.iload_n 1, 1) := by decide +kernel
theorem dX8_feed_5 : decode cX8_feed 5 = .ok (.sipush 255, 3) := by decide +kernel
theorem dX8_feed_8 : decode cX8_feed 8 = .ok (.if_icmp .le 6, 3) := by decide +kernel
theorem dX8_feed_11 : decode cX8_feed 11 = .ok (.ldc 75, 2) := by decide +kernel
theorem dX8_feed_13 : decode cX8_feed 13 = .ok (.ireturn, 1) := by decide +kernel
theorem dX8_feed_14 : decode cX8_feed 14 = .ok (.aload_n 0, 1) := by decide +kernel
theorem dX8_feed_15 : decode cX8_feed 15 = .ok (.getfield 64, 3) := by decide +kernel
theorem dX8_feed_18 : decode cX8_feed 18 = .ok (.ifCond .lt 12, 3) := by decide +kernel
theorem dX8_feed_21 : decode cX8_feed 21 = .ok (.aload_n 0, 1) := by decide +kernel
theorem dX8_feed_22 : decode cX8_feed 22 = .ok (.getfield 64, 3) := by decide +kernel
theorem dX8_feed_25 : decode cX8_feed 25 = .ok (.bipush 30, 2) := by decide +kernel
theorem dX8_feed_27 : decode cX8_feed 27 = .ok (.if_icmp .lt 6, 3) := by decide +kernel
theorem dX8_feed_30 : decode cX8_feed 30 = .ok (.ldc 76, 2) := by decide +kernel
theorem dX8_feed_32 : decode cX8_feed 32 = .ok (.ireturn, 1) := by decide +kernel
theorem dX8_feed_33 : decode cX8_feed 33 = .ok (.aload_n 0, 1) := by decide +kernel
theorem dX8_feed_34 : decode cX8_feed 34 = .ok (.getfield 60, 3) := by decide +kernel
theorem dX8_feed_37 : decode cX8_feed 37 = .ok (.aload_n 0, 1) := by decide +kernel
theorem dX8_feed_38 : decode cX8_feed 38 = .ok (.getfield 64, 3) := by decide +kernel
theorem dX8_feed_41 : decode cX8_feed 41 = .ok (.iload_n 1, 1) := by decide +kernel
theorem dX8_feed_42 : decode cX8_feed 42 = .ok (.iastore, 1) := by decide +kernel
theorem dX8_feed_43 : decode cX8_feed 43 = .ok (.aload_n 0, 1) := by decide +kernel
theorem dX8_feed_44 : decode cX8_feed 44 = .ok (.dup, 1) := by decide +kernel
theorem dX8_feed_45 : decode cX8_feed 45 = .ok (.getfield 64, 3) := by decide +kernel
theorem dX8_feed_48 : decode cX8_feed 48 = .ok (.iconst 1, 1) := by decide +kernel
theorem dX8_feed_49 : decode cX8_feed 49 = .ok (.iadd, 1) := by decide +kernel
theorem dX8_feed_50 : decode cX8_feed 50 = .ok (.putfield 64, 3) := by decide +kernel
theorem dX8_feed_53 : decode cX8_feed 53 = .ok (.aload_n 0, 1) := by decide +kernel
theorem dX8_feed_54 : decode cX8_feed 54 = .ok (.getfield 64, 3) := by decide +kernel
theorem dX8_feed_57 : decode cX8_feed 57 = .ok (.ireturn, 1) := by decide +kernel
theorem dX8_tell_0 : decode cX8_tell 0 = .ok (.aload_n 0, 1) := by decide +kernel
theorem dX8_tell_1 : decode cX8_tell 1 = .ok (.getfield 12, 3) := by decide +kernel
theorem dX8_tell_4 : decode cX8_tell 4 = .ok (.invokevirtual 77, 3) := by decide +kernel
theorem dX8_tell_7 : decode cX8_tell 7 = .ok (.ifCond .eq 6, 3) := by decide +kernel
theorem dX8_tell_10 : decode cX8_tell 10 = .ok (.ldc 76, 2) := by decide +kernel
theorem dX8_tell_12 : decode cX8_tell 12 = .ok (.ireturn, 1) := by decide +kernel
theorem dX8_tell_13 : decode cX8_tell 13 = .ok (.aload_n 0, 1) := by decide +kernel
theorem dX8_tell_14 : decode cX8_tell 14 = .ok (.invokevirtual 81, 3) := by decide +kernel
theorem dX8_tell_17 : decode cX8_tell 17 = .ok (.istore_n 1, 1) := by decide +kernel
theorem dX8_tell_18 : decode cX8_tell 18 = .ok (.aload_n 0, 1) := by decide +kernel
theorem dX8_tell_19 : decode cX8_tell 19 = .ok (.iconst 0, 1) := by decide +kernel
theorem dX8_tell_20 : decode cX8_tell 20 = .ok (.putfield 64, 3) := by decide +kernel
theorem dX8_tell_23 : decode cX8_tell 23 = .ok (.iload_n 1, 1) := by decide +kernel
theorem dX8_tell_24 : decode cX8_tell 24 = .ok (.ifCond .eq 8, 3) := by decide +kernel
theorem dX8_tell_27 : decode cX8_tell 27 = .ok (.bipush (-10), 2) := by decide +kernel
theorem dX8_tell_29 : decode cX8_tell 29 = .ok (.iload_n 1, 1) := by decide +kernel
theorem dX8_tell_30 : decode cX8_tell 30 = .ok (.isub, 1) := by decide +kernel
theorem dX8_tell_31 : decode cX8_tell 31 = .ok (.ireturn, 1) := by decide +kernel
theorem dX8_tell_32 : decode cX8_tell 32 = .ok (.aload_n 0, 1) := by decide +kernel
theorem dX8_tell_33 : decode cX8_tell 33 = .ok (.getfield 19, 3) := by decide +kernel
theorem dX8_tell_36 : decode cX8_tell 36 = .ok (.aload_n 0, 1) := by decide +kernel
theorem dX8_tell_37 : decode cX8_tell 37 = .ok (.getfield 12, 3) := by decide +kernel
theorem dX8_tell_40 : decode cX8_tell 40 = .ok (.invokevirtual 85, 3) := by decide +kernel
theorem dX8_tell_43 : decode cX8_tell 43 = .ok (.aload_n 0, 1) := by decide +kernel
theorem dX8_tell_44 : decode cX8_tell 44 = .ok (.getfield 12, 3) := by decide +kernel
theorem dX8_tell_47 : decode cX8_tell 47 = .ok (.aload_n 0, 1) := by decide +kernel
theorem dX8_tell_48 : decode cX8_tell 48 = .ok (.getfield 53, 3) := by decide +kernel
theorem dX8_tell_51 : decode cX8_tell 51 = .ok (.invokevirtual 89, 3) := by decide +kernel
theorem dX8_tell_54 : decode cX8_tell 54 = .ok (.ireturn, 1) := by decide +kernel
theorem dX8_readText_0 : decode cX8_readText 0 = .ok (.aload_n 0, 1) := by decide +kernel
theorem dX8_readText_1 : decode cX8_readText 1 = .ok (.getfield 53, 3) := by decide +kernel
theorem dX8_readText_4 : decode cX8_readText 4 = .ok (.invokevirtual 93, 3) := by decide +kernel
theorem dX8_readText_7 : decode cX8_readText 7 = .ok (.iconst 1, 1) := by decide +kernel
theorem dX8_readText_8 : decode cX8_readText 8 = .ok (.istore_n 1, 1) := by decide +kernel
theorem dX8_readText_9 : decode cX8_readText 9 = .ok (.iconst 0, 1) := by decide +kernel
theorem dX8_readText_10 : decode cX8_readText 10 = .ok (.istore_n 2, 1) := by decide +kernel
theorem dX8_readText_11 : decode cX8_readText 11 = .ok (.iconst 0, 1) := by decide +kernel
theorem dX8_readText_12 : decode cX8_readText 12 = .ok (.istore_n 3, 1) := by decide +kernel
theorem dX8_readText_13 : decode cX8_readText 13 = .ok (.iload_n 3, 1) := by decide +kernel
theorem dX8_readText_14 : decode cX8_readText 14 = .ok (.aload_n 0, 1) := by decide +kernel
theorem dX8_readText_15 : decode cX8_readText 15 = .ok (.getfield 64, 3) := by decide +kernel
theorem dX8_readText_18 : decode cX8_readText 18 = .ok (.if_icmp .ge 77, 3) := by decide +kernel
theorem dX8_readText_21 : decode cX8_readText 21 = .ok (.iload_n 3, 1) := by decide +kernel
theorem dX8_readText_22 : decode cX8_readText 22 = .ok (.bipush 30, 2) := by decide +kernel
theorem dX8_readText_24 : decode cX8_readText 24 = .ok (.if_icmp .ge 71, 3) := by decide +kernel
theorem dX8_readText_27 : decode cX8_readText 27 = .ok (.aload_n 0, 1) := by decide +kernel
theorem dX8_readText_28 : decode cX8_readText 28 = .ok (.getfield 60, 3) := by decide +kernel
theorem dX8_readText_31 : decode cX8_readText 31 = .ok (.iload_n 3, 1) := by decide +kernel
theorem dX8_readText_32 : decode cX8_readText 32 = .ok (.iaload, 1) := by decide +kernel
theorem dX8_readText_33 : decode cX8_readText 33 = .ok (.invokestatic 96, 3) := by decide +kernel
theorem dX8_readText_36 : decode cX8_readText 36 = .ok (.istore 4, 2) := by decide +kernel
theorem dX8_readText_38 : decode cX8_readText 38 = .ok (.aload_n 0, 1) := by decide +kernel
theorem dX8_readText_39 : decode cX8_readText 39 = .ok (.iload_n 3, 1) := by decide +kernel
theorem dX8_readText_40 : decode cX8_readText 40 = .ok (.putfield 68, 3) := by decide +kernel
theorem dX8_readText_43 : decode cX8_readText 43 = .ok (.iload_n 1, 1) := by decide +kernel
theorem dX8_readText_44 : decode cX8_readText 44 = .ok (.ifCond .eq 9, 3) := by decide +kernel
theorem dX8_readText_47 : decode cX8_readText 47 = .ok (.iload 4, 2) := by decide +kernel
theorem dX8_readText_49 : decode cX8_readText 49 = .ok (.iconst (-1), 1) := by decide +kernel
theorem dX8_readText_50 : decode cX8_readText 50 = .ok (.if_icmp .ne 5, 3) := by decide +kernel
theorem dX8_readText_53 : decode cX8_readText 53 = .ok (.iconst 1, 1) := by decide +kernel
theorem dX8_readText_54 : decode cX8_readText 54 = .ok (.ireturn, 1) := by decide +kernel
theorem dX8_readText_55 : decode cX8_readText 55 = .ok (.iload 4, 2) := by decide +kernel
theorem dX8_readText_57 : decode cX8_readText 57 = .ok (.ifCond .ne 9, 3) := by decide +kernel
theorem dX8_readText_60 : decode cX8_readText 60 = .ok (.iinc 1 (-1), 3) := by decide +kernel
theorem dX8_readText_63 : decode cX8_readText 63 = .ok (.goto 17, 3) := by decide +kernel
theorem dX8_readText_66 : decode cX8_readText 66 = .ok (.iload_n 2, 1) := by decide +kernel
theorem dX8_readText_67 : decode cX8_readText 67 = .ok (.bipush 6, 2) := by decide +kernel
theorem dX8_readText_69 : decode cX8_readText 69 = .ok (.if_icmp .ne 5, 3) := by decide +kernel
theorem dX8_readText_72 : decode cX8_readText 72 = .ok (.iconst 2, 1) := by decide +kernel
theorem dX8_readText_73 : decode cX8_readText 73 = .ok (.ireturn, 1) := by decide +kernel
theorem dX8_readText_74 : decode cX8_readText 74 = .ok (.iinc 2 1, 3) := by decide +kernel
theorem dX8_readText_77 : decode cX8_readText 77 = .ok (.iinc 1 1, 3) := by decide +kernel
theorem dX8_readText_80 : decode cX8_readText 80 = .ok (.aload_n 0, 1) := by decide +kernel
theorem dX8_readText_81 : decode cX8_readText 81 = .ok (.getfield 53, 3) := by decide +kernel
theorem dX8_readText_84 : decode cX8_readText 84 = .ok (.iload 4, 2) := by decide +kernel
theorem dX8_readText_86 : decode cX8_readText 86 = .ok (.invokevirtual 100, 3) := by decide +kernel
theorem dX8_readText_89 : decode cX8_readText 89 = .ok (.iinc 3 1, 3) := by decide +kernel
theorem dX8_readText_92 : decode cX8_readText 92 = .ok (.goto (-79), 3) := by decide +kernel
theorem dX8_readText_95 : decode cX8_readText 95 = .ok (.aload_n 0, 1) := by decide +kernel
theorem dX8_readText_96 : decode cX8_readText 96 = .ok (.iload_n 1, 1) := by decide +kernel
theorem dX8_readText_97 : decode cX8_readText 97 = .ok (.ifCond .le 10, 3) := by decide +kernel
theorem dX8_readText_100 : decode cX8_readText 100 = .ok (.aload_n 0, 1) := by decide +kernel
theorem dX8_readText_101 : decode cX8_readText 101 = .ok (.getfield 64, 3) := by decide +kernel
theorem dX8_readText_104 : decode cX8_readText 104 = .ok (.goto 4, 3) := by decide +kernel
theorem dX8_readText_107 : decode cX8_readText 107 = .ok (.iconst (-1), 1) := by decide +kernel
theorem dX8_readText_108 : decode cX8_readText 108 = .ok (.putfield 68, 3) := by decide +kernel
theorem dX8_readText_111 : decode cX8_readText 111 = .ok (.iload_n 1, 1) := by decide +kernel
theorem dX8_readText_112 : decode cX8_readText 112 = .ok (.ifCond .le 7, 3) := by decide +kernel
theorem dX8_readText_115 : decode cX8_readText 115 = .ok (.iconst 1, 1) := by decide +kernel
theorem dX8_readText_116 : decode cX8_readText 116 = .ok (.goto 4, 3) := by decide +kernel
theorem dX8_readText_119 : decode cX8_readText 119 = .ok (.iconst 0, 1) := by decide +kernel
theorem dX8_readText_120 : decode cX8_readText 120 = .ok (.ireturn, 1) := by decide +kernel
theorem dX8_figureOf_0 : decode cX8_figureOf 0 = .ok (.iload_n 0, 1) := by decide +kernel
theorem dX8_figureOf_1 : decode cX8_figureOf 1 = .ok (.lookupswitch 41 #[(46, 35), (97, 37), (98, 39)], 35) := by decide +kernel
theorem dX8_figureOf_36 : decode cX8_figureOf 36 = .ok (.iconst 0, 1) := by decide +kernel
theorem dX8_figureOf_37 : decode cX8_figureOf 37 = .ok (.ireturn, 1) := by decide +kernel
theorem dX8_figureOf_38 : decode cX8_figureOf 38 = .ok (.iconst 1, 1) := by decide +kernel
theorem dX8_figureOf_39 : decode cX8_figureOf 39 = .ok (.ireturn, 1) := by decide +kernel
theorem dX8_figureOf_40 : decode cX8_figureOf 40 = .ok (.iconst 2, 1) := by decide +kernel
theorem dX8_figureOf_41 : decode cX8_figureOf 41 = .ok (.ireturn, 1) := by decide +kernel
theorem dX8_figureOf_42 : decode cX8_figureOf 42 = .ok (.iconst (-1), 1) := by decide +kernel
theorem dX8_figureOf_43 : decode cX8_figureOf 43 = .ok (.ireturn, 1) := by decide +kernel
theorem dX8_fault_0 : decode cX8_fault 0 = .ok (.aload_n 0, 1) := by decide +kernel
theorem dX8_fault_1 : decode cX8_fault 1 = .ok (.getfield 68, 3) := by decide +kernel
theorem dX8_fault_4 : decode cX8_fault 4 = .ok (.ireturn, 1) := by decide +kernel
theorem dX8_told_0 : decode cX8_told 0 = .ok (.iload_n 1, 1) := by decide +kernel
theorem dX8_told_1 : decode cX8_told 1 = .ok (.iconst 2, 1) := by decide +kernel
theorem dX8_told_2 : decode cX8_told 2 = .ok (.if_icmp .lt 22, 3) := by decide +kernel
theorem dX8_told_5 : decode cX8_told 5 = .ok (.iload_n 1, 1) := by decide +kernel
theorem dX8_told_6 : decode cX8_told 6 = .ok (.iconst 5, 1) := by decide +kernel
theorem dX8_told_7 : decode cX8_told 7 = .ok (.if_icmp .gt 17, 3) := by decide +kernel
theorem dX8_told_10 : decode cX8_told 10 = .ok (.aload_n 0, 1) := by decide +kernel
theorem dX8_told_11 : decode cX8_told 11 = .ok (.getfield 39, 3) := by decide +kernel
theorem dX8_told_14 : decode cX8_told 14 = .ok (.aload_n 0, 1) := by decide +kernel
theorem dX8_told_15 : decode cX8_told 15 = .ok (.getfield 12, 3) := by decide +kernel
theorem dX8_told_18 : decode cX8_told 18 = .ok (.getfield 104, 3) := by decide +kernel
theorem dX8_told_21 : decode cX8_told 21 = .ok (.invokevirtual 108, 3) := by decide +kernel
theorem dX8_told_24 : decode cX8_told 24 = .ok (.iload_n 1, 1) := by decide +kernel
theorem dX8_told_25 : decode cX8_told 25 = .ok (.tableswitch 155 0 9 #[55, 63, 68, 76, 84, 92, 108, 127, 135, 147], 55) := by decide +kernel
theorem dX8_told_80 : decode cX8_told 80 = .ok (.aload_n 0, 1) := by decide +kernel
theorem dX8_told_81 : decode cX8_told 81 = .ok (.getfield 12, 3) := by decide +kernel
theorem dX8_told_84 : decode cX8_told 84 = .ok (.getfield 112, 3) := by decide +kernel
theorem dX8_told_87 : decode cX8_told 87 = .ok (.ireturn, 1) := by decide +kernel
theorem dX8_told_88 : decode cX8_told 88 = .ok (.aload_n 0, 1) := by decide +kernel
theorem dX8_told_89 : decode cX8_told 89 = .ok (.getfield 64, 3) := by decide +kernel
theorem dX8_told_92 : decode cX8_told 92 = .ok (.ireturn, 1) := by decide +kernel
theorem dX8_told_93 : decode cX8_told 93 = .ok (.aload_n 0, 1) := by decide +kernel
theorem dX8_told_94 : decode cX8_told 94 = .ok (.getfield 39, 3) := by decide +kernel
theorem dX8_told_97 : decode cX8_told 97 = .ok (.getfield 115, 3) := by decide +kernel
theorem dX8_told_100 : decode cX8_told 100 = .ok (.ireturn, 1) := by decide +kernel
theorem dX8_told_101 : decode cX8_told 101 = .ok (.aload_n 0, 1) := by decide +kernel
theorem dX8_told_102 : decode cX8_told 102 = .ok (.getfield 39, 3) := by decide +kernel
theorem dX8_told_105 : decode cX8_told 105 = .ok (.getfield 118, 3) := by decide +kernel
theorem dX8_told_108 : decode cX8_told 108 = .ok (.ireturn, 1) := by decide +kernel
theorem dX8_told_109 : decode cX8_told 109 = .ok (.aload_n 0, 1) := by decide +kernel
theorem dX8_told_110 : decode cX8_told 110 = .ok (.getfield 39, 3) := by decide +kernel
theorem dX8_told_113 : decode cX8_told 113 = .ok (.getfield 121, 3) := by decide +kernel
theorem dX8_told_116 : decode cX8_told 116 = .ok (.ireturn, 1) := by decide +kernel
theorem dX8_told_117 : decode cX8_told 117 = .ok (.aload_n 0, 1) := by decide +kernel
theorem dX8_told_118 : decode cX8_told 118 = .ok (.getfield 39, 3) := by decide +kernel
theorem dX8_told_121 : decode cX8_told 121 = .ok (.getfield 118, 3) := by decide +kernel
theorem dX8_told_124 : decode cX8_told 124 = .ok (.ifCond .ne 7, 3) := by decide +kernel
theorem dX8_told_127 : decode cX8_told 127 = .ok (.iconst 1, 1) := by decide +kernel
theorem dX8_told_128 : decode cX8_told 128 = .ok (.goto 4, 3) := by decide +kernel
theorem dX8_told_131 : decode cX8_told 131 = .ok (.iconst 0, 1) := by decide +kernel
theorem dX8_told_132 : decode cX8_told 132 = .ok (.ireturn, 1) := by decide +kernel
theorem dX8_told_133 : decode cX8_told 133 = .ok (.aload_n 0, 1) := by decide +kernel
theorem dX8_told_134 : decode cX8_told 134 = .ok (.getfield 12, 3) := by decide +kernel
theorem dX8_told_137 : decode cX8_told 137 = .ok (.getfield 104, 3) := by decide +kernel
theorem dX8_told_140 : decode cX8_told 140 = .ok (.invokevirtual 124, 3) := by decide +kernel
theorem dX8_told_143 : decode cX8_told 143 = .ok (.ifCond .eq 7, 3) := by decide +kernel
theorem dX8_told_146 : decode cX8_told 146 = .ok (.iconst 1, 1) := by decide +kernel
theorem dX8_told_147 : decode cX8_told 147 = .ok (.goto 4, 3) := by decide +kernel
theorem dX8_told_150 : decode cX8_told 150 = .ok (.iconst 0, 1) := by decide +kernel
theorem dX8_told_151 : decode cX8_told 151 = .ok (.ireturn, 1) := by decide +kernel
theorem dX8_told_152 : decode cX8_told 152 = .ok (.aload_n 0, 1) := by decide +kernel
theorem dX8_told_153 : decode cX8_told 153 = .ok (.getfield 32, 3) := by decide +kernel
theorem dX8_told_156 : decode cX8_told 156 = .ok (.getfield 129, 3) := by decide +kernel
theorem dX8_told_159 : decode cX8_told 159 = .ok (.ireturn, 1) := by decide +kernel
theorem dX8_told_160 : decode cX8_told 160 = .ok (.aload_n 0, 1) := by decide +kernel
theorem dX8_told_161 : decode cX8_told 161 = .ok (.getfield 32, 3) := by decide +kernel
theorem dX8_told_164 : decode cX8_told 164 = .ok (.aload_n 0, 1) := by decide +kernel
theorem dX8_told_165 : decode cX8_told 165 = .ok (.getfield 12, 3) := by decide +kernel
theorem dX8_told_168 : decode cX8_told 168 = .ok (.invokevirtual 130, 3) := by decide +kernel
theorem dX8_told_171 : decode cX8_told 171 = .ok (.ireturn, 1) := by decide +kernel
theorem dX8_told_172 : decode cX8_told 172 = .ok (.aload_n 0, 1) := by decide +kernel
theorem dX8_told_173 : decode cX8_told 173 = .ok (.getfield 19, 3) := by decide +kernel
theorem dX8_told_176 : decode cX8_told 176 = .ok (.getfield 134, 3) := by decide +kernel
theorem dX8_told_179 : decode cX8_told 179 = .ok (.ireturn, 1) := by decide +kernel
theorem dX8_told_180 : decode cX8_told 180 = .ok (.ldc 75, 2) := by decide +kernel
theorem dX8_told_182 : decode cX8_told 182 = .ok (.ireturn, 1) := by decide +kernel
theorem dX8_tree_0 : decode cX8_tree 0 = .ok (.aload_n 0, 1) := by decide +kernel
theorem dX8_tree_1 : decode cX8_tree 1 = .ok (.getfield 12, 3) := by decide +kernel
theorem dX8_tree_4 : decode cX8_tree 4 = .ok (.iload_n 1, 1) := by decide +kernel
theorem dX8_tree_5 : decode cX8_tree 5 = .ok (.invokevirtual 135, 3) := by decide +kernel
theorem dX8_tree_8 : decode cX8_tree 8 = .ok (.ifCond .ne 6, 3) := by decide +kernel
theorem dX8_tree_11 : decode cX8_tree 11 = .ok (.ldc 139, 2) := by decide +kernel
theorem dX8_tree_13 : decode cX8_tree 13 = .ok (.ireturn, 1) := by decide +kernel
theorem dX8_tree_14 : decode cX8_tree 14 = .ok (.aload_n 0, 1) := by decide +kernel
theorem dX8_tree_15 : decode cX8_tree 15 = .ok (.getfield 12, 3) := by decide +kernel
theorem dX8_tree_18 : decode cX8_tree 18 = .ok (.iload_n 1, 1) := by decide +kernel
theorem dX8_tree_19 : decode cX8_tree 19 = .ok (.aload_n 0, 1) := by decide +kernel
theorem dX8_tree_20 : decode cX8_tree 20 = .ok (.getfield 53, 3) := by decide +kernel
theorem dX8_tree_23 : decode cX8_tree 23 = .ok (.invokevirtual 140, 3) := by decide +kernel
theorem dX8_tree_26 : decode cX8_tree 26 = .ok (.iload_n 2, 1) := by decide +kernel
theorem dX8_tree_27 : decode cX8_tree 27 = .ok (.tableswitch 123 0 8 #[49, 57, 67, 75, 90, 90, 90, 96, 115], 49) := by decide +kernel
theorem dX8_tree_76 : decode cX8_tree 76 = .ok (.aload_n 0, 1) := by decide +kernel
theorem dX8_tree_77 : decode cX8_tree 77 = .ok (.getfield 53, 3) := by decide +kernel
theorem dX8_tree_80 : decode cX8_tree 80 = .ok (.invokevirtual 144, 3) := by decide +kernel
theorem dX8_tree_83 : decode cX8_tree 83 = .ok (.ireturn, 1) := by decide +kernel
theorem dX8_tree_84 : decode cX8_tree 84 = .ok (.aload_n 0, 1) := by decide +kernel
theorem dX8_tree_85 : decode cX8_tree 85 = .ok (.getfield 53, 3) := by decide +kernel
theorem dX8_tree_88 : decode cX8_tree 88 = .ok (.getfield 147, 3) := by decide +kernel
theorem dX8_tree_91 : decode cX8_tree 91 = .ok (.iconst 1, 1) := by decide +kernel
theorem dX8_tree_92 : decode cX8_tree 92 = .ok (.iadd, 1) := by decide +kernel
theorem dX8_tree_93 : decode cX8_tree 93 = .ok (.ireturn, 1) := by decide +kernel
theorem dX8_tree_94 : decode cX8_tree 94 = .ok (.aload_n 0, 1) := by decide +kernel
theorem dX8_tree_95 : decode cX8_tree 95 = .ok (.getfield 53, 3) := by decide +kernel
theorem dX8_tree_98 : decode cX8_tree 98 = .ok (.invokevirtual 150, 3) := by decide +kernel
theorem dX8_tree_101 : decode cX8_tree 101 = .ok (.ireturn, 1) := by decide +kernel
theorem dX8_tree_102 : decode cX8_tree 102 = .ok (.aload_n 0, 1) := by decide +kernel
theorem dX8_tree_103 : decode cX8_tree 103 = .ok (.getfield 53, 3) := by decide +kernel
theorem dX8_tree_106 : decode cX8_tree 106 = .ok (.aload_n 0, 1) := by decide +kernel
theorem dX8_tree_107 : decode cX8_tree 107 = .ok (.getfield 12, 3) := by decide +kernel
theorem dX8_tree_110 : decode cX8_tree 110 = .ok (.getfield 104, 3) := by decide +kernel
theorem dX8_tree_113 : decode cX8_tree 113 = .ok (.invokevirtual 153, 3) := by decide +kernel
theorem dX8_tree_116 : decode cX8_tree 116 = .ok (.ireturn, 1) := by decide +kernel
theorem dX8_tree_117 : decode cX8_tree 117 = .ok (.aload_n 0, 1) := by decide +kernel
theorem dX8_tree_118 : decode cX8_tree 118 = .ok (.iload_n 2, 1) := by decide +kernel
theorem dX8_tree_119 : decode cX8_tree 119 = .ok (.invokevirtual 157, 3) := by decide +kernel
theorem dX8_tree_122 : decode cX8_tree 122 = .ok (.ireturn, 1) := by decide +kernel
theorem dX8_tree_123 : decode cX8_tree 123 = .ok (.aload_n 0, 1) := by decide +kernel
theorem dX8_tree_124 : decode cX8_tree 124 = .ok (.getfield 57, 3) := by decide +kernel
theorem dX8_tree_127 : decode cX8_tree 127 = .ok (.aload_n 0, 1) := by decide +kernel
theorem dX8_tree_128 : decode cX8_tree 128 = .ok (.getfield 53, 3) := by decide +kernel
theorem dX8_tree_131 : decode cX8_tree 131 = .ok (.invokevirtual 160, 3) := by decide +kernel
theorem dX8_tree_134 : decode cX8_tree 134 = .ok (.aload_n 0, 1) := by decide +kernel
theorem dX8_tree_135 : decode cX8_tree 135 = .ok (.getfield 57, 3) := by decide +kernel
theorem dX8_tree_138 : decode cX8_tree 138 = .ok (.invokevirtual 144, 3) := by decide +kernel
theorem dX8_tree_141 : decode cX8_tree 141 = .ok (.ireturn, 1) := by decide +kernel
theorem dX8_tree_142 : decode cX8_tree 142 = .ok (.aload_n 0, 1) := by decide +kernel
theorem dX8_tree_143 : decode cX8_tree 143 = .ok (.getfield 53, 3) := by decide +kernel
theorem dX8_tree_146 : decode cX8_tree 146 = .ok (.invokevirtual 164, 3) := by decide +kernel
theorem dX8_tree_149 : decode cX8_tree 149 = .ok (.ireturn, 1) := by decide +kernel
theorem dX8_tree_150 : decode cX8_tree 150 = .ok (.ldc 75, 2) := by decide +kernel
theorem dX8_tree_152 : decode cX8_tree 152 = .ok (.ireturn, 1) := by decide +kernel
theorem dX8_madePlain_0 : decode cX8_madePlain 0 = .ok (.aload_n 0, 1) := by decide +kernel
theorem dX8_madePlain_1 : decode cX8_madePlain 1 = .ok (.getfield 53, 3) := by decide +kernel
theorem dX8_madePlain_4 : decode cX8_madePlain 4 = .ok (.aload_n 0, 1) := by decide +kernel
theorem dX8_madePlain_5 : decode cX8_madePlain 5 = .ok (.getfield 12, 3) := by decide +kernel
theorem dX8_madePlain_8 : decode cX8_madePlain 8 = .ok (.getfield 104, 3) := by decide +kernel
theorem dX8_madePlain_11 : decode cX8_madePlain 11 = .ok (.invokevirtual 167, 3) := by decide +kernel
theorem dX8_madePlain_14 : decode cX8_madePlain 14 = .ok (.istore_n 2, 1) := by decide +kernel
theorem dX8_madePlain_15 : decode cX8_madePlain 15 = .ok (.iload_n 2, 1) := by decide +kernel
theorem dX8_madePlain_16 : decode cX8_madePlain 16 = .ok (.iconst (-1), 1) := by decide +kernel
theorem dX8_madePlain_17 : decode cX8_madePlain 17 = .ok (.if_icmp .ne 5, 3) := by decide +kernel
theorem dX8_madePlain_20 : decode cX8_madePlain 20 = .ok (.iconst (-1), 1) := by decide +kernel
theorem dX8_madePlain_21 : decode cX8_madePlain 21 = .ok (.ireturn, 1) := by decide +kernel
theorem dX8_madePlain_22 : decode cX8_madePlain 22 = .ok (.iload_n 1, 1) := by decide +kernel
theorem dX8_madePlain_23 : decode cX8_madePlain 23 = .ok (.lookupswitch 35 #[(4, 25), (5, 27)], 25) := by decide +kernel
theorem dX8_madePlain_48 : decode cX8_madePlain 48 = .ok (.iload_n 2, 1) := by decide +kernel
theorem dX8_madePlain_49 : decode cX8_madePlain 49 = .ok (.ireturn, 1) := by decide +kernel
theorem dX8_madePlain_50 : decode cX8_madePlain 50 = .ok (.aload_n 0, 1) := by decide +kernel
theorem dX8_madePlain_51 : decode cX8_madePlain 51 = .ok (.getfield 53, 3) := by decide +kernel
theorem dX8_madePlain_54 : decode cX8_madePlain 54 = .ok (.invokevirtual 144, 3) := by decide +kernel
theorem dX8_madePlain_57 : decode cX8_madePlain 57 = .ok (.ireturn, 1) := by decide +kernel
theorem dX8_madePlain_58 : decode cX8_madePlain 58 = .ok (.aload_n 0, 1) := by decide +kernel
theorem dX8_madePlain_59 : decode cX8_madePlain 59 = .ok (.getfield 53, 3) := by decide +kernel
theorem dX8_madePlain_62 : decode cX8_madePlain 62 = .ok (.getfield 147, 3) := by decide +kernel
theorem dX8_madePlain_65 : decode cX8_madePlain 65 = .ok (.iconst 1, 1) := by decide +kernel
theorem dX8_madePlain_66 : decode cX8_madePlain 66 = .ok (.iadd, 1) := by decide +kernel
theorem dX8_madePlain_67 : decode cX8_madePlain 67 = .ok (.ireturn, 1) := by decide +kernel
theorem dX8_pattern_0 : decode cX8_pattern 0 = .ok (.iload_n 1, 1) := by decide +kernel
theorem dX8_pattern_1 : decode cX8_pattern 1 = .ok (.invokestatic 170, 3) := by decide +kernel
theorem dX8_pattern_4 : decode cX8_pattern 4 = .ok (.ifCond .ne 6, 3) := by decide +kernel
theorem dX8_pattern_7 : decode cX8_pattern 7 = .ok (.ldc 139, 2) := by decide +kernel
theorem dX8_pattern_9 : decode cX8_pattern 9 = .ok (.ireturn, 1) := by decide +kernel
theorem dX8_pattern_10 : decode cX8_pattern 10 = .ok (.iload_n 2, 1) := by decide +kernel
theorem dX8_pattern_11 : decode cX8_pattern 11 = .ok (.tableswitch 61 0 2 #[25, 37, 49], 25) := by decide +kernel
theorem dX8_pattern_36 : decode cX8_pattern 36 = .ok (.aload_n 0, 1) := by decide +kernel
theorem dX8_pattern_37 : decode cX8_pattern 37 = .ok (.getfield 12, 3) := by decide +kernel
theorem dX8_pattern_40 : decode cX8_pattern 40 = .ok (.getfield 104, 3) := by decide +kernel
theorem dX8_pattern_43 : decode cX8_pattern 43 = .ok (.iload_n 1, 1) := by decide +kernel
theorem dX8_pattern_44 : decode cX8_pattern 44 = .ok (.invokevirtual 173, 3) := by decide +kernel
theorem dX8_pattern_47 : decode cX8_pattern 47 = .ok (.ireturn, 1) := by decide +kernel
theorem dX8_pattern_48 : decode cX8_pattern 48 = .ok (.aload_n 0, 1) := by decide +kernel
theorem dX8_pattern_49 : decode cX8_pattern 49 = .ok (.getfield 12, 3) := by decide +kernel
theorem dX8_pattern_52 : decode cX8_pattern 52 = .ok (.getfield 104, 3) := by decide +kernel
theorem dX8_pattern_55 : decode cX8_pattern 55 = .ok (.iload_n 1, 1) := by decide +kernel
theorem dX8_pattern_56 : decode cX8_pattern 56 = .ok (.invokevirtual 176, 3) := by decide +kernel
theorem dX8_pattern_59 : decode cX8_pattern 59 = .ok (.ireturn, 1) := by decide +kernel
theorem dX8_pattern_60 : decode cX8_pattern 60 = .ok (.aload_n 0, 1) := by decide +kernel
theorem dX8_pattern_61 : decode cX8_pattern 61 = .ok (.getfield 12, 3) := by decide +kernel
theorem dX8_pattern_64 : decode cX8_pattern 64 = .ok (.getfield 104, 3) := by decide +kernel
theorem dX8_pattern_67 : decode cX8_pattern 67 = .ok (.iload_n 1, 1) := by decide +kernel
theorem dX8_pattern_68 : decode cX8_pattern 68 = .ok (.invokevirtual 179, 3) := by decide +kernel
theorem dX8_pattern_71 : decode cX8_pattern 71 = .ok (.ireturn, 1) := by decide +kernel
theorem dX8_pattern_72 : decode cX8_pattern 72 = .ok (.ldc 75, 2) := by decide +kernel
theorem dX8_pattern_74 : decode cX8_pattern 74 = .ok (.ireturn, 1) := by decide +kernel
theorem dX8_same_0 : decode cX8_same 0 = .ok (.aload_n 0, 1) := by decide +kernel
theorem dX8_same_1 : decode cX8_same 1 = .ok (.getfield 12, 3) := by decide +kernel
theorem dX8_same_4 : decode cX8_same 4 = .ok (.iload_n 1, 1) := by decide +kernel
theorem dX8_same_5 : decode cX8_same 5 = .ok (.invokevirtual 135, 3) := by decide +kernel
theorem dX8_same_8 : decode cX8_same 8 = .ok (.ifCond .eq 14, 3) := by decide +kernel
theorem dX8_same_11 : decode cX8_same 11 = .ok (.aload_n 0, 1) := by decide +kernel
theorem dX8_same_12 : decode cX8_same 12 = .ok (.getfield 12, 3) := by decide +kernel
theorem dX8_same_15 : decode cX8_same 15 = .ok (.iload_n 2, 1) := by decide +kernel
theorem dX8_same_16 : decode cX8_same 16 = .ok (.invokevirtual 135, 3) := by decide +kernel
theorem dX8_same_19 : decode cX8_same 19 = .ok (.ifCond .ne 6, 3) := by decide +kernel
theorem dX8_same_22 : decode cX8_same 22 = .ok (.ldc 139, 2) := by decide +kernel
theorem dX8_same_24 : decode cX8_same 24 = .ok (.ireturn, 1) := by decide +kernel
theorem dX8_same_25 : decode cX8_same 25 = .ok (.aload_n 0, 1) := by decide +kernel
theorem dX8_same_26 : decode cX8_same 26 = .ok (.getfield 12, 3) := by decide +kernel
theorem dX8_same_29 : decode cX8_same 29 = .ok (.iload_n 1, 1) := by decide +kernel
theorem dX8_same_30 : decode cX8_same 30 = .ok (.aload_n 0, 1) := by decide +kernel
theorem dX8_same_31 : decode cX8_same 31 = .ok (.getfield 53, 3) := by decide +kernel
theorem dX8_same_34 : decode cX8_same 34 = .ok (.invokevirtual 140, 3) := by decide +kernel
theorem dX8_same_37 : decode cX8_same 37 = .ok (.aload_n 0, 1) := by decide +kernel
theorem dX8_same_38 : decode cX8_same 38 = .ok (.getfield 12, 3) := by decide +kernel
theorem dX8_same_41 : decode cX8_same 41 = .ok (.iload_n 2, 1) := by decide +kernel
theorem dX8_same_42 : decode cX8_same 42 = .ok (.aload_n 0, 1) := by decide +kernel
theorem dX8_same_43 : decode cX8_same 43 = .ok (.getfield 57, 3) := by decide +kernel
theorem dX8_same_46 : decode cX8_same 46 = .ok (.invokevirtual 140, 3) := by decide +kernel
theorem dX8_same_49 : decode cX8_same 49 = .ok (.aload_n 0, 1) := by decide +kernel
theorem dX8_same_50 : decode cX8_same 50 = .ok (.getfield 53, 3) := by decide +kernel
theorem dX8_same_53 : decode cX8_same 53 = .ok (.aload_n 0, 1) := by decide +kernel
theorem dX8_same_54 : decode cX8_same 54 = .ok (.getfield 12, 3) := by decide +kernel
theorem dX8_same_57 : decode cX8_same 57 = .ok (.getfield 104, 3) := by decide +kernel
theorem dX8_same_60 : decode cX8_same 60 = .ok (.invokevirtual 167, 3) := by decide +kernel
theorem dX8_same_63 : decode cX8_same 63 = .ok (.iconst (-1), 1) := by decide +kernel
theorem dX8_same_64 : decode cX8_same 64 = .ok (.if_icmp .eq 21, 3) := by decide +kernel
theorem dX8_same_67 : decode cX8_same 67 = .ok (.aload_n 0, 1) := by decide +kernel
theorem dX8_same_68 : decode cX8_same 68 = .ok (.getfield 57, 3) := by decide +kernel
theorem dX8_same_71 : decode cX8_same 71 = .ok (.aload_n 0, 1) := by decide +kernel
theorem dX8_same_72 : decode cX8_same 72 = .ok (.getfield 12, 3) := by decide +kernel
theorem dX8_same_75 : decode cX8_same 75 = .ok (.getfield 104, 3) := by decide +kernel
theorem dX8_same_78 : decode cX8_same 78 = .ok (.invokevirtual 167, 3) := by decide +kernel
theorem dX8_same_81 : decode cX8_same 81 = .ok (.iconst (-1), 1) := by decide +kernel
theorem dX8_same_82 : decode cX8_same 82 = .ok (.if_icmp .ne 5, 3) := by decide +kernel
theorem dX8_same_85 : decode cX8_same 85 = .ok (.iconst (-1), 1) := by decide +kernel
theorem dX8_same_86 : decode cX8_same 86 = .ok (.ireturn, 1) := by decide +kernel
theorem dX8_same_87 : decode cX8_same 87 = .ok (.aload_n 0, 1) := by decide +kernel
theorem dX8_same_88 : decode cX8_same 88 = .ok (.getfield 53, 3) := by decide +kernel
theorem dX8_same_91 : decode cX8_same 91 = .ok (.aload_n 0, 1) := by decide +kernel
theorem dX8_same_92 : decode cX8_same 92 = .ok (.getfield 57, 3) := by decide +kernel
theorem dX8_same_95 : decode cX8_same 95 = .ok (.invokevirtual 182, 3) := by decide +kernel
theorem dX8_same_98 : decode cX8_same 98 = .ok (.ifCond .eq 7, 3) := by decide +kernel
theorem dX8_same_101 : decode cX8_same 101 = .ok (.iconst 1, 1) := by decide +kernel
theorem dX8_same_102 : decode cX8_same 102 = .ok (.goto 4, 3) := by decide +kernel
theorem dX8_same_105 : decode cX8_same 105 = .ok (.iconst 0, 1) := by decide +kernel
theorem dX8_same_106 : decode cX8_same 106 = .ok (.ireturn, 1) := by decide +kernel
theorem dX8_count_0 : decode cX8_count 0 = .ok (.iload_n 1, 1) := by decide +kernel
theorem dX8_count_1 : decode cX8_count 1 = .ok (.invokestatic 186, 3) := by decide +kernel
theorem dX8_count_4 : decode cX8_count 4 = .ok (.ifCond .ne 7, 3) := by decide +kernel
theorem dX8_count_7 : decode cX8_count 7 = .ok (.ldc2_w 189, 3) := by decide +kernel
theorem dX8_count_10 : decode cX8_count 10 = .ok (.lreturn, 1) := by decide +kernel
theorem dX8_count_11 : decode cX8_count 11 = .ok (.aload_n 0, 1) := by decide +kernel
theorem dX8_count_12 : decode cX8_count 12 = .ok (.getfield 46, 3) := by decide +kernel
theorem dX8_count_15 : decode cX8_count 15 = .ok (.aload_n 0, 1) := by decide +kernel
theorem dX8_count_16 : decode cX8_count 16 = .ok (.getfield 12, 3) := by decide +kernel
theorem dX8_count_19 : decode cX8_count 19 = .ok (.getfield 104, 3) := by decide +kernel
theorem dX8_count_22 : decode cX8_count 22 = .ok (.invokevirtual 191, 3) := by decide +kernel
theorem dX8_count_25 : decode cX8_count 25 = .ok (.aload_n 0, 1) := by decide +kernel
theorem dX8_count_26 : decode cX8_count 26 = .ok (.getfield 46, 3) := by decide +kernel
theorem dX8_count_29 : decode cX8_count 29 = .ok (.getfield 194, 3) := by decide +kernel
theorem dX8_count_32 : decode cX8_count 32 = .ok (.iload_n 1, 1) := by decide +kernel
theorem dX8_count_33 : decode cX8_count 33 = .ok (.laload, 1) := by decide +kernel
theorem dX8_count_34 : decode cX8_count 34 = .ok (.lreturn, 1) := by decide +kernel
theorem dX8_undoneBy_0 : decode cX8_undoneBy 0 = .ok (.iload_n 1, 1) := by decide +kernel
theorem dX8_undoneBy_1 : decode cX8_undoneBy 1 = .ok (.invokestatic 186, 3) := by decide +kernel
theorem dX8_undoneBy_4 : decode cX8_undoneBy 4 = .ok (.ifCond .ne 7, 3) := by decide +kernel
theorem dX8_undoneBy_7 : decode cX8_undoneBy 7 = .ok (.ldc2_w 189, 3) := by decide +kernel
theorem dX8_undoneBy_10 : decode cX8_undoneBy 10 = .ok (.lreturn, 1) := by decide +kernel
theorem dX8_undoneBy_11 : decode cX8_undoneBy 11 = .ok (.aload_n 0, 1) := by decide +kernel
theorem dX8_undoneBy_12 : decode cX8_undoneBy 12 = .ok (.getfield 46, 3) := by decide +kernel
theorem dX8_undoneBy_15 : decode cX8_undoneBy 15 = .ok (.aload_n 0, 1) := by decide +kernel
theorem dX8_undoneBy_16 : decode cX8_undoneBy 16 = .ok (.getfield 12, 3) := by decide +kernel
theorem dX8_undoneBy_19 : decode cX8_undoneBy 19 = .ok (.getfield 104, 3) := by decide +kernel
theorem dX8_undoneBy_22 : decode cX8_undoneBy 22 = .ok (.invokevirtual 191, 3) := by decide +kernel
theorem dX8_undoneBy_25 : decode cX8_undoneBy 25 = .ok (.aload_n 0, 1) := by decide +kernel
theorem dX8_undoneBy_26 : decode cX8_undoneBy 26 = .ok (.getfield 46, 3) := by decide +kernel
theorem dX8_undoneBy_29 : decode cX8_undoneBy 29 = .ok (.invokevirtual 198, 3) := by decide +kernel
theorem dX8_undoneBy_32 : decode cX8_undoneBy 32 = .ok (.aload_n 0, 1) := by decide +kernel
theorem dX8_undoneBy_33 : decode cX8_undoneBy 33 = .ok (.getfield 46, 3) := by decide +kernel
theorem dX8_undoneBy_36 : decode cX8_undoneBy 36 = .ok (.getfield 201, 3) := by decide +kernel
theorem dX8_undoneBy_39 : decode cX8_undoneBy 39 = .ok (.iload_n 1, 1) := by decide +kernel
theorem dX8_undoneBy_40 : decode cX8_undoneBy 40 = .ok (.laload, 1) := by decide +kernel
theorem dX8_undoneBy_41 : decode cX8_undoneBy 41 = .ok (.lreturn, 1) := by decide +kernel
theorem dX8_graft_0 : decode cX8_graft 0 = .ok (.aload_n 0, 1) := by decide +kernel
theorem dX8_graft_1 : decode cX8_graft 1 = .ok (.getfield 12, 3) := by decide +kernel
theorem dX8_graft_4 : decode cX8_graft 4 = .ok (.iload_n 1, 1) := by decide +kernel
theorem dX8_graft_5 : decode cX8_graft 5 = .ok (.invokevirtual 135, 3) := by decide +kernel
theorem dX8_graft_8 : decode cX8_graft 8 = .ok (.ifCond .eq 14, 3) := by decide +kernel
theorem dX8_graft_11 : decode cX8_graft 11 = .ok (.aload_n 0, 1) := by decide +kernel
theorem dX8_graft_12 : decode cX8_graft 12 = .ok (.getfield 12, 3) := by decide +kernel
theorem dX8_graft_15 : decode cX8_graft 15 = .ok (.iload_n 3, 1) := by decide +kernel
theorem dX8_graft_16 : decode cX8_graft 16 = .ok (.invokevirtual 135, 3) := by decide +kernel
theorem dX8_graft_19 : decode cX8_graft 19 = .ok (.ifCond .ne 6, 3) := by decide +kernel
theorem dX8_graft_22 : decode cX8_graft 22 = .ok (.ldc 139, 2) := by decide +kernel
theorem dX8_graft_24 : decode cX8_graft 24 = .ok (.ireturn, 1) := by decide +kernel
theorem dX8_graft_25 : decode cX8_graft 25 = .ok (.aload_n 0, 1) := by decide +kernel
theorem dX8_graft_26 : decode cX8_graft 26 = .ok (.getfield 12, 3) := by decide +kernel
theorem dX8_graft_29 : decode cX8_graft 29 = .ok (.iload_n 1, 1) := by decide +kernel
theorem dX8_graft_30 : decode cX8_graft 30 = .ok (.aload_n 0, 1) := by decide +kernel
theorem dX8_graft_31 : decode cX8_graft 31 = .ok (.getfield 53, 3) := by decide +kernel
theorem dX8_graft_34 : decode cX8_graft 34 = .ok (.invokevirtual 140, 3) := by decide +kernel
theorem dX8_graft_37 : decode cX8_graft 37 = .ok (.aload_n 0, 1) := by decide +kernel
theorem dX8_graft_38 : decode cX8_graft 38 = .ok (.getfield 12, 3) := by decide +kernel
theorem dX8_graft_41 : decode cX8_graft 41 = .ok (.iload_n 3, 1) := by decide +kernel
theorem dX8_graft_42 : decode cX8_graft 42 = .ok (.aload_n 0, 1) := by decide +kernel
theorem dX8_graft_43 : decode cX8_graft 43 = .ok (.getfield 57, 3) := by decide +kernel
theorem dX8_graft_46 : decode cX8_graft 46 = .ok (.invokevirtual 140, 3) := by decide +kernel
theorem dX8_graft_49 : decode cX8_graft 49 = .ok (.aload_n 0, 1) := by decide +kernel
theorem dX8_graft_50 : decode cX8_graft 50 = .ok (.getfield 53, 3) := by decide +kernel
theorem dX8_graft_53 : decode cX8_graft 53 = .ok (.iload_n 2, 1) := by decide +kernel
theorem dX8_graft_54 : decode cX8_graft 54 = .ok (.invokevirtual 204, 3) := by decide +kernel
theorem dX8_graft_57 : decode cX8_graft 57 = .ok (.istore 4, 2) := by decide +kernel
theorem dX8_graft_59 : decode cX8_graft 59 = .ok (.iload 4, 2) := by decide +kernel
theorem dX8_graft_61 : decode cX8_graft 61 = .ok (.iconst (-1), 1) := by decide +kernel
theorem dX8_graft_62 : decode cX8_graft 62 = .ok (.if_icmp .ne 6, 3) := by decide +kernel
theorem dX8_graft_65 : decode cX8_graft 65 = .ok (.ldc 139, 2) := by decide +kernel
theorem dX8_graft_67 : decode cX8_graft 67 = .ok (.ireturn, 1) := by decide +kernel
theorem dX8_graft_68 : decode cX8_graft 68 = .ok (.aload_n 0, 1) := by decide +kernel
theorem dX8_graft_69 : decode cX8_graft 69 = .ok (.getfield 12, 3) := by decide +kernel
theorem dX8_graft_72 : decode cX8_graft 72 = .ok (.invokevirtual 77, 3) := by decide +kernel
theorem dX8_graft_75 : decode cX8_graft 75 = .ok (.ifCond .eq 6, 3) := by decide +kernel
theorem dX8_graft_78 : decode cX8_graft 78 = .ok (.ldc 76, 2) := by decide +kernel
theorem dX8_graft_80 : decode cX8_graft 80 = .ok (.ireturn, 1) := by decide +kernel
theorem dX8_graft_81 : decode cX8_graft 81 = .ok (.aload_n 0, 1) := by decide +kernel
theorem dX8_graft_82 : decode cX8_graft 82 = .ok (.getfield 53, 3) := by decide +kernel
theorem dX8_graft_85 : decode cX8_graft 85 = .ok (.aload_n 0, 1) := by decide +kernel
theorem dX8_graft_86 : decode cX8_graft 86 = .ok (.getfield 57, 3) := by decide +kernel
theorem dX8_graft_89 : decode cX8_graft 89 = .ok (.invokevirtual 207, 3) := by decide +kernel
theorem dX8_graft_92 : decode cX8_graft 92 = .ok (.ifCond .eq 23, 3) := by decide +kernel
theorem dX8_graft_95 : decode cX8_graft 95 = .ok (.aload_n 0, 1) := by decide +kernel
theorem dX8_graft_96 : decode cX8_graft 96 = .ok (.getfield 53, 3) := by decide +kernel
theorem dX8_graft_99 : decode cX8_graft 99 = .ok (.getfield 147, 3) := by decide +kernel
theorem dX8_graft_102 : decode cX8_graft 102 = .ok (.ifCond .eq 13, 3) := by decide +kernel
theorem dX8_graft_105 : decode cX8_graft 105 = .ok (.aload_n 0, 1) := by decide +kernel
theorem dX8_graft_106 : decode cX8_graft 106 = .ok (.getfield 57, 3) := by decide +kernel
theorem dX8_graft_109 : decode cX8_graft 109 = .ok (.getfield 147, 3) := by decide +kernel
theorem dX8_graft_112 : decode cX8_graft 112 = .ok (.ifCond .ne 6, 3) := by decide +kernel
theorem dX8_graft_115 : decode cX8_graft 115 = .ok (.ldc 210, 2) := by decide +kernel
theorem dX8_graft_117 : decode cX8_graft 117 = .ok (.ireturn, 1) := by decide +kernel
theorem dX8_graft_118 : decode cX8_graft 118 = .ok (.aload_n 0, 1) := by decide +kernel
theorem dX8_graft_119 : decode cX8_graft 119 = .ok (.getfield 53, 3) := by decide +kernel
theorem dX8_graft_122 : decode cX8_graft 122 = .ok (.iload 4, 2) := by decide +kernel
theorem dX8_graft_124 : decode cX8_graft 124 = .ok (.aload_n 0, 1) := by decide +kernel
theorem dX8_graft_125 : decode cX8_graft 125 = .ok (.getfield 57, 3) := by decide +kernel
theorem dX8_graft_128 : decode cX8_graft 128 = .ok (.invokevirtual 211, 3) := by decide +kernel
theorem dX8_graft_131 : decode cX8_graft 131 = .ok (.aload_n 0, 1) := by decide +kernel
theorem dX8_graft_132 : decode cX8_graft 132 = .ok (.getfield 53, 3) := by decide +kernel
theorem dX8_graft_135 : decode cX8_graft 135 = .ok (.dup, 1) := by decide +kernel
theorem dX8_graft_136 : decode cX8_graft 136 = .ok (.getfield 147, 3) := by decide +kernel
theorem dX8_graft_139 : decode cX8_graft 139 = .ok (.aload_n 0, 1) := by decide +kernel
theorem dX8_graft_140 : decode cX8_graft 140 = .ok (.getfield 57, 3) := by decide +kernel
theorem dX8_graft_143 : decode cX8_graft 143 = .ok (.getfield 147, 3) := by decide +kernel
theorem dX8_graft_146 : decode cX8_graft 146 = .ok (.imul, 1) := by decide +kernel
theorem dX8_graft_147 : decode cX8_graft 147 = .ok (.putfield 147, 3) := by decide +kernel
theorem dX8_graft_150 : decode cX8_graft 150 = .ok (.aload_n 0, 1) := by decide +kernel
theorem dX8_graft_151 : decode cX8_graft 151 = .ok (.getfield 19, 3) := by decide +kernel
theorem dX8_graft_154 : decode cX8_graft 154 = .ok (.aload_n 0, 1) := by decide +kernel
theorem dX8_graft_155 : decode cX8_graft 155 = .ok (.getfield 12, 3) := by decide +kernel
theorem dX8_graft_158 : decode cX8_graft 158 = .ok (.invokevirtual 85, 3) := by decide +kernel
theorem dX8_graft_161 : decode cX8_graft 161 = .ok (.aload_n 0, 1) := by decide +kernel
theorem dX8_graft_162 : decode cX8_graft 162 = .ok (.getfield 12, 3) := by decide +kernel
theorem dX8_graft_165 : decode cX8_graft 165 = .ok (.aload_n 0, 1) := by decide +kernel
theorem dX8_graft_166 : decode cX8_graft 166 = .ok (.getfield 53, 3) := by decide +kernel
theorem dX8_graft_169 : decode cX8_graft 169 = .ok (.invokevirtual 89, 3) := by decide +kernel
theorem dX8_graft_172 : decode cX8_graft 172 = .ok (.ireturn, 1) := by decide +kernel
theorem dX8_step_0 : decode cX8_step 0 = .ok (.aload_n 0, 1) := by decide +kernel
theorem dX8_step_1 : decode cX8_step 1 = .ok (.getfield 12, 3) := by decide +kernel
theorem dX8_step_4 : decode cX8_step 4 = .ok (.iload_n 1, 1) := by decide +kernel
theorem dX8_step_5 : decode cX8_step 5 = .ok (.invokevirtual 135, 3) := by decide +kernel
theorem dX8_step_8 : decode cX8_step 8 = .ok (.ifCond .ne 6, 3) := by decide +kernel
theorem dX8_step_11 : decode cX8_step 11 = .ok (.ldc 139, 2) := by decide +kernel
theorem dX8_step_13 : decode cX8_step 13 = .ok (.ireturn, 1) := by decide +kernel
theorem dX8_step_14 : decode cX8_step 14 = .ok (.aload_n 0, 1) := by decide +kernel
theorem dX8_step_15 : decode cX8_step 15 = .ok (.getfield 12, 3) := by decide +kernel
theorem dX8_step_18 : decode cX8_step 18 = .ok (.iload_n 1, 1) := by decide +kernel
theorem dX8_step_19 : decode cX8_step 19 = .ok (.aload_n 0, 1) := by decide +kernel
theorem dX8_step_20 : decode cX8_step 20 = .ok (.getfield 53, 3) := by decide +kernel
theorem dX8_step_23 : decode cX8_step 23 = .ok (.invokevirtual 140, 3) := by decide +kernel
theorem dX8_step_26 : decode cX8_step 26 = .ok (.aload_n 0, 1) := by decide +kernel
theorem dX8_step_27 : decode cX8_step 27 = .ok (.getfield 53, 3) := by decide +kernel
theorem dX8_step_30 : decode cX8_step 30 = .ok (.iload_n 2, 1) := by decide +kernel
theorem dX8_step_31 : decode cX8_step 31 = .ok (.aload_n 0, 1) := by decide +kernel
theorem dX8_step_32 : decode cX8_step 32 = .ok (.getfield 12, 3) := by decide +kernel
theorem dX8_step_35 : decode cX8_step 35 = .ok (.getfield 104, 3) := by decide +kernel
theorem dX8_step_38 : decode cX8_step 38 = .ok (.invokevirtual 214, 3) := by decide +kernel
theorem dX8_step_41 : decode cX8_step 41 = .ok (.istore_n 3, 1) := by decide +kernel
theorem dX8_step_42 : decode cX8_step 42 = .ok (.iload_n 3, 1) := by decide +kernel
theorem dX8_step_43 : decode cX8_step 43 = .ok (.iconst (-1), 1) := by decide +kernel
theorem dX8_step_44 : decode cX8_step 44 = .ok (.if_icmp .ne 6, 3) := by decide +kernel
theorem dX8_step_47 : decode cX8_step 47 = .ok (.ldc 75, 2) := by decide +kernel
theorem dX8_step_49 : decode cX8_step 49 = .ok (.ireturn, 1) := by decide +kernel
theorem dX8_step_50 : decode cX8_step 50 = .ok (.aload_n 0, 1) := by decide +kernel
theorem dX8_step_51 : decode cX8_step 51 = .ok (.getfield 53, 3) := by decide +kernel
theorem dX8_step_54 : decode cX8_step 54 = .ok (.iload_n 3, 1) := by decide +kernel
theorem dX8_step_55 : decode cX8_step 55 = .ok (.aload_n 0, 1) := by decide +kernel
theorem dX8_step_56 : decode cX8_step 56 = .ok (.getfield 12, 3) := by decide +kernel
theorem dX8_step_59 : decode cX8_step 59 = .ok (.getfield 104, 3) := by decide +kernel
theorem dX8_step_62 : decode cX8_step 62 = .ok (.invokevirtual 218, 3) := by decide +kernel
theorem dX8_step_65 : decode cX8_step 65 = .ok (.aload_n 0, 1) := by decide +kernel
theorem dX8_step_66 : decode cX8_step 66 = .ok (.getfield 19, 3) := by decide +kernel
theorem dX8_step_69 : decode cX8_step 69 = .ok (.aload_n 0, 1) := by decide +kernel
theorem dX8_step_70 : decode cX8_step 70 = .ok (.getfield 12, 3) := by decide +kernel
theorem dX8_step_73 : decode cX8_step 73 = .ok (.invokevirtual 85, 3) := by decide +kernel
theorem dX8_step_76 : decode cX8_step 76 = .ok (.aload_n 0, 1) := by decide +kernel
theorem dX8_step_77 : decode cX8_step 77 = .ok (.getfield 12, 3) := by decide +kernel
theorem dX8_step_80 : decode cX8_step 80 = .ok (.iload_n 1, 1) := by decide +kernel
theorem dX8_step_81 : decode cX8_step 81 = .ok (.aload_n 0, 1) := by decide +kernel
theorem dX8_step_82 : decode cX8_step 82 = .ok (.getfield 53, 3) := by decide +kernel
theorem dX8_step_85 : decode cX8_step 85 = .ok (.invokevirtual 222, 3) := by decide +kernel
theorem dX8_step_88 : decode cX8_step 88 = .ok (.aload_n 0, 1) := by decide +kernel
theorem dX8_step_89 : decode cX8_step 89 = .ok (.getfield 53, 3) := by decide +kernel
theorem dX8_step_92 : decode cX8_step 92 = .ok (.aload_n 0, 1) := by decide +kernel
theorem dX8_step_93 : decode cX8_step 93 = .ok (.getfield 12, 3) := by decide +kernel
theorem dX8_step_96 : decode cX8_step 96 = .ok (.getfield 104, 3) := by decide +kernel
theorem dX8_step_99 : decode cX8_step 99 = .ok (.invokevirtual 153, 3) := by decide +kernel
theorem dX8_step_102 : decode cX8_step 102 = .ok (.ireturn, 1) := by decide +kernel
theorem dX8_plain_0 : decode cX8_plain 0 = .ok (.aload_n 0, 1) := by decide +kernel
theorem dX8_plain_1 : decode cX8_plain 1 = .ok (.getfield 12, 3) := by decide +kernel
theorem dX8_plain_4 : decode cX8_plain 4 = .ok (.iload_n 1, 1) := by decide +kernel
theorem dX8_plain_5 : decode cX8_plain 5 = .ok (.invokevirtual 135, 3) := by decide +kernel
theorem dX8_plain_8 : decode cX8_plain 8 = .ok (.ifCond .ne 6, 3) := by decide +kernel
theorem dX8_plain_11 : decode cX8_plain 11 = .ok (.ldc 139, 2) := by decide +kernel
theorem dX8_plain_13 : decode cX8_plain 13 = .ok (.ireturn, 1) := by decide +kernel
theorem dX8_plain_14 : decode cX8_plain 14 = .ok (.aload_n 0, 1) := by decide +kernel
theorem dX8_plain_15 : decode cX8_plain 15 = .ok (.getfield 12, 3) := by decide +kernel
theorem dX8_plain_18 : decode cX8_plain 18 = .ok (.iload_n 1, 1) := by decide +kernel
theorem dX8_plain_19 : decode cX8_plain 19 = .ok (.aload_n 0, 1) := by decide +kernel
theorem dX8_plain_20 : decode cX8_plain 20 = .ok (.getfield 53, 3) := by decide +kernel
theorem dX8_plain_23 : decode cX8_plain 23 = .ok (.invokevirtual 140, 3) := by decide +kernel
theorem dX8_plain_26 : decode cX8_plain 26 = .ok (.aload_n 0, 1) := by decide +kernel
theorem dX8_plain_27 : decode cX8_plain 27 = .ok (.getfield 53, 3) := by decide +kernel
theorem dX8_plain_30 : decode cX8_plain 30 = .ok (.aload_n 0, 1) := by decide +kernel
theorem dX8_plain_31 : decode cX8_plain 31 = .ok (.getfield 12, 3) := by decide +kernel
theorem dX8_plain_34 : decode cX8_plain 34 = .ok (.getfield 104, 3) := by decide +kernel
theorem dX8_plain_37 : decode cX8_plain 37 = .ok (.invokevirtual 167, 3) := by decide +kernel
theorem dX8_plain_40 : decode cX8_plain 40 = .ok (.istore_n 2, 1) := by decide +kernel
theorem dX8_plain_41 : decode cX8_plain 41 = .ok (.iload_n 2, 1) := by decide +kernel
theorem dX8_plain_42 : decode cX8_plain 42 = .ok (.iconst (-1), 1) := by decide +kernel
theorem dX8_plain_43 : decode cX8_plain 43 = .ok (.if_icmp .ne 6, 3) := by decide +kernel
theorem dX8_plain_46 : decode cX8_plain 46 = .ok (.ldc 210, 2) := by decide +kernel
theorem dX8_plain_48 : decode cX8_plain 48 = .ok (.ireturn, 1) := by decide +kernel
theorem dX8_plain_49 : decode cX8_plain 49 = .ok (.aload_n 0, 1) := by decide +kernel
theorem dX8_plain_50 : decode cX8_plain 50 = .ok (.getfield 19, 3) := by decide +kernel
theorem dX8_plain_53 : decode cX8_plain 53 = .ok (.aload_n 0, 1) := by decide +kernel
theorem dX8_plain_54 : decode cX8_plain 54 = .ok (.getfield 12, 3) := by decide +kernel
theorem dX8_plain_57 : decode cX8_plain 57 = .ok (.invokevirtual 85, 3) := by decide +kernel
theorem dX8_plain_60 : decode cX8_plain 60 = .ok (.aload_n 0, 1) := by decide +kernel
theorem dX8_plain_61 : decode cX8_plain 61 = .ok (.getfield 12, 3) := by decide +kernel
theorem dX8_plain_64 : decode cX8_plain 64 = .ok (.iload_n 1, 1) := by decide +kernel
theorem dX8_plain_65 : decode cX8_plain 65 = .ok (.aload_n 0, 1) := by decide +kernel
theorem dX8_plain_66 : decode cX8_plain 66 = .ok (.getfield 53, 3) := by decide +kernel
theorem dX8_plain_69 : decode cX8_plain 69 = .ok (.invokevirtual 222, 3) := by decide +kernel
theorem dX8_plain_72 : decode cX8_plain 72 = .ok (.iload_n 2, 1) := by decide +kernel
theorem dX8_plain_73 : decode cX8_plain 73 = .ok (.ireturn, 1) := by decide +kernel
theorem dX8_mirror_0 : decode cX8_mirror 0 = .ok (.aload_n 0, 1) := by decide +kernel
theorem dX8_mirror_1 : decode cX8_mirror 1 = .ok (.getfield 12, 3) := by decide +kernel
theorem dX8_mirror_4 : decode cX8_mirror 4 = .ok (.iload_n 1, 1) := by decide +kernel
theorem dX8_mirror_5 : decode cX8_mirror 5 = .ok (.invokevirtual 135, 3) := by decide +kernel
theorem dX8_mirror_8 : decode cX8_mirror 8 = .ok (.ifCond .ne 6, 3) := by decide +kernel
theorem dX8_mirror_11 : decode cX8_mirror 11 = .ok (.ldc 139, 2) := by decide +kernel
theorem dX8_mirror_13 : decode cX8_mirror 13 = .ok (.ireturn, 1) := by decide +kernel
theorem dX8_mirror_14 : decode cX8_mirror 14 = .ok (.aload_n 0, 1) := by decide +kernel
theorem dX8_mirror_15 : decode cX8_mirror 15 = .ok (.getfield 12, 3) := by decide +kernel
theorem dX8_mirror_18 : decode cX8_mirror 18 = .ok (.iload_n 1, 1) := by decide +kernel
theorem dX8_mirror_19 : decode cX8_mirror 19 = .ok (.aload_n 0, 1) := by decide +kernel
theorem dX8_mirror_20 : decode cX8_mirror 20 = .ok (.getfield 53, 3) := by decide +kernel
theorem dX8_mirror_23 : decode cX8_mirror 23 = .ok (.invokevirtual 140, 3) := by decide +kernel
theorem dX8_mirror_26 : decode cX8_mirror 26 = .ok (.aload_n 0, 1) := by decide +kernel
theorem dX8_mirror_27 : decode cX8_mirror 27 = .ok (.getfield 57, 3) := by decide +kernel
theorem dX8_mirror_30 : decode cX8_mirror 30 = .ok (.aload_n 0, 1) := by decide +kernel
theorem dX8_mirror_31 : decode cX8_mirror 31 = .ok (.getfield 53, 3) := by decide +kernel
theorem dX8_mirror_34 : decode cX8_mirror 34 = .ok (.invokevirtual 160, 3) := by decide +kernel
theorem dX8_mirror_37 : decode cX8_mirror 37 = .ok (.aload_n 0, 1) := by decide +kernel
theorem dX8_mirror_38 : decode cX8_mirror 38 = .ok (.getfield 19, 3) := by decide +kernel
theorem dX8_mirror_41 : decode cX8_mirror 41 = .ok (.aload_n 0, 1) := by decide +kernel
theorem dX8_mirror_42 : decode cX8_mirror 42 = .ok (.getfield 12, 3) := by decide +kernel
theorem dX8_mirror_45 : decode cX8_mirror 45 = .ok (.invokevirtual 85, 3) := by decide +kernel
theorem dX8_mirror_48 : decode cX8_mirror 48 = .ok (.aload_n 0, 1) := by decide +kernel
theorem dX8_mirror_49 : decode cX8_mirror 49 = .ok (.getfield 12, 3) := by decide +kernel
theorem dX8_mirror_52 : decode cX8_mirror 52 = .ok (.iload_n 1, 1) := by decide +kernel
theorem dX8_mirror_53 : decode cX8_mirror 53 = .ok (.aload_n 0, 1) := by decide +kernel
theorem dX8_mirror_54 : decode cX8_mirror 54 = .ok (.getfield 57, 3) := by decide +kernel
theorem dX8_mirror_57 : decode cX8_mirror 57 = .ok (.invokevirtual 222, 3) := by decide +kernel
theorem dX8_mirror_60 : decode cX8_mirror 60 = .ok (.aload_n 0, 1) := by decide +kernel
theorem dX8_mirror_61 : decode cX8_mirror 61 = .ok (.getfield 12, 3) := by decide +kernel
theorem dX8_mirror_64 : decode cX8_mirror 64 = .ok (.iload_n 1, 1) := by decide +kernel
theorem dX8_mirror_65 : decode cX8_mirror 65 = .ok (.invokevirtual 225, 3) := by decide +kernel
theorem dX8_mirror_68 : decode cX8_mirror 68 = .ok (.ireturn, 1) := by decide +kernel
theorem dX8_take_0 : decode cX8_take 0 = .ok (.aload_n 0, 1) := by decide +kernel
theorem dX8_take_1 : decode cX8_take 1 = .ok (.getfield 12, 3) := by decide +kernel
theorem dX8_take_4 : decode cX8_take 4 = .ok (.iload_n 1, 1) := by decide +kernel
theorem dX8_take_5 : decode cX8_take 5 = .ok (.invokevirtual 135, 3) := by decide +kernel
theorem dX8_take_8 : decode cX8_take 8 = .ok (.ifCond .ne 6, 3) := by decide +kernel
theorem dX8_take_11 : decode cX8_take 11 = .ok (.ldc 139, 2) := by decide +kernel
theorem dX8_take_13 : decode cX8_take 13 = .ok (.ireturn, 1) := by decide +kernel
theorem dX8_take_14 : decode cX8_take 14 = .ok (.aload_n 0, 1) := by decide +kernel
theorem dX8_take_15 : decode cX8_take 15 = .ok (.getfield 19, 3) := by decide +kernel
theorem dX8_take_18 : decode cX8_take 18 = .ok (.aload_n 0, 1) := by decide +kernel
theorem dX8_take_19 : decode cX8_take 19 = .ok (.getfield 12, 3) := by decide +kernel
theorem dX8_take_22 : decode cX8_take 22 = .ok (.invokevirtual 85, 3) := by decide +kernel
theorem dX8_take_25 : decode cX8_take 25 = .ok (.aload_n 0, 1) := by decide +kernel
theorem dX8_take_26 : decode cX8_take 26 = .ok (.getfield 12, 3) := by decide +kernel
theorem dX8_take_29 : decode cX8_take 29 = .ok (.iload_n 1, 1) := by decide +kernel
theorem dX8_take_30 : decode cX8_take 30 = .ok (.invokevirtual 228, 3) := by decide +kernel
theorem dX8_take_33 : decode cX8_take 33 = .ok (.aload_n 0, 1) := by decide +kernel
theorem dX8_take_34 : decode cX8_take 34 = .ok (.getfield 12, 3) := by decide +kernel
theorem dX8_take_37 : decode cX8_take 37 = .ok (.getfield 112, 3) := by decide +kernel
theorem dX8_take_40 : decode cX8_take 40 = .ok (.ireturn, 1) := by decide +kernel
theorem dX8_fate_0 : decode cX8_fate 0 = .ok (.iload_n 2, 1) := by decide +kernel
theorem dX8_fate_1 : decode cX8_fate 1 = .ok (.iconst 2, 1) := by decide +kernel
theorem dX8_fate_2 : decode cX8_fate 2 = .ok (.if_icmp .eq 8, 3) := by decide +kernel
theorem dX8_fate_5 : decode cX8_fate 5 = .ok (.iload_n 2, 1) := by decide +kernel
theorem dX8_fate_6 : decode cX8_fate 6 = .ok (.iconst 3, 1) := by decide +kernel
theorem dX8_fate_7 : decode cX8_fate 7 = .ok (.if_icmp .ne 7, 3) := by decide +kernel
theorem dX8_fate_10 : decode cX8_fate 10 = .ok (.iconst 1, 1) := by decide +kernel
theorem dX8_fate_11 : decode cX8_fate 11 = .ok (.goto 4, 3) := by decide +kernel
theorem dX8_fate_14 : decode cX8_fate 14 = .ok (.iconst 0, 1) := by decide +kernel
theorem dX8_fate_15 : decode cX8_fate 15 = .ok (.istore 4, 2) := by decide +kernel
theorem dX8_fate_17 : decode cX8_fate 17 = .ok (.iload_n 1, 1) := by decide +kernel
theorem dX8_fate_18 : decode cX8_fate 18 = .ok (.invokestatic 170, 3) := by decide +kernel
theorem dX8_fate_21 : decode cX8_fate 21 = .ok (.ifCond .eq 15, 3) := by decide +kernel
theorem dX8_fate_24 : decode cX8_fate 24 = .ok (.iload 4, 2) := by decide +kernel
theorem dX8_fate_26 : decode cX8_fate 26 = .ok (.ifCond .eq 13, 3) := by decide +kernel
theorem dX8_fate_29 : decode cX8_fate 29 = .ok (.iload_n 3, 1) := by decide +kernel
theorem dX8_fate_30 : decode cX8_fate 30 = .ok (.invokestatic 170, 3) := by decide +kernel
theorem dX8_fate_33 : decode cX8_fate 33 = .ok (.ifCond .ne 6, 3) := by decide +kernel
theorem dX8_fate_36 : decode cX8_fate 36 = .ok (.ldc 139, 2) := by decide +kernel
theorem dX8_fate_38 : decode cX8_fate 38 = .ok (.ireturn, 1) := by decide +kernel
theorem dX8_fate_39 : decode cX8_fate 39 = .ok (.iload_n 2, 1) := by decide +kernel
theorem dX8_fate_40 : decode cX8_fate 40 = .ok (.ifCond .lt 8, 3) := by decide +kernel
theorem dX8_fate_43 : decode cX8_fate 43 = .ok (.iload_n 2, 1) := by decide +kernel
theorem dX8_fate_44 : decode cX8_fate 44 = .ok (.iconst 3, 1) := by decide +kernel
theorem dX8_fate_45 : decode cX8_fate 45 = .ok (.if_icmp .le 6, 3) := by decide +kernel
theorem dX8_fate_48 : decode cX8_fate 48 = .ok (.ldc 75, 2) := by decide +kernel
theorem dX8_fate_50 : decode cX8_fate 50 = .ok (.ireturn, 1) := by decide +kernel
theorem dX8_fate_51 : decode cX8_fate 51 = .ok (.aload_n 0, 1) := by decide +kernel
theorem dX8_fate_52 : decode cX8_fate 52 = .ok (.getfield 12, 3) := by decide +kernel
theorem dX8_fate_55 : decode cX8_fate 55 = .ok (.getfield 104, 3) := by decide +kernel
theorem dX8_fate_58 : decode cX8_fate 58 = .ok (.iload_n 1, 1) := by decide +kernel
theorem dX8_fate_59 : decode cX8_fate 59 = .ok (.iload_n 2, 1) := by decide +kernel
theorem dX8_fate_60 : decode cX8_fate 60 = .ok (.iload_n 3, 1) := by decide +kernel
theorem dX8_fate_61 : decode cX8_fate 61 = .ok (.invokevirtual 231, 3) := by decide +kernel
theorem dX8_fate_64 : decode cX8_fate 64 = .ok (.ifCond .ne 6, 3) := by decide +kernel
theorem dX8_fate_67 : decode cX8_fate 67 = .ok (.ldc 210, 2) := by decide +kernel
theorem dX8_fate_69 : decode cX8_fate 69 = .ok (.ireturn, 1) := by decide +kernel
theorem dX8_fate_70 : decode cX8_fate 70 = .ok (.aload_n 0, 1) := by decide +kernel
theorem dX8_fate_71 : decode cX8_fate 71 = .ok (.getfield 12, 3) := by decide +kernel
theorem dX8_fate_74 : decode cX8_fate 74 = .ok (.getfield 104, 3) := by decide +kernel
theorem dX8_fate_77 : decode cX8_fate 77 = .ok (.iload_n 1, 1) := by decide +kernel
theorem dX8_fate_78 : decode cX8_fate 78 = .ok (.invokevirtual 173, 3) := by decide +kernel
theorem dX8_fate_81 : decode cX8_fate 81 = .ok (.istore 5, 2) := by decide +kernel
theorem dX8_fate_83 : decode cX8_fate 83 = .ok (.aload_n 0, 1) := by decide +kernel
theorem dX8_fate_84 : decode cX8_fate 84 = .ok (.getfield 19, 3) := by decide +kernel
theorem dX8_fate_87 : decode cX8_fate 87 = .ok (.aload_n 0, 1) := by decide +kernel
theorem dX8_fate_88 : decode cX8_fate 88 = .ok (.getfield 12, 3) := by decide +kernel
theorem dX8_fate_91 : decode cX8_fate 91 = .ok (.invokevirtual 85, 3) := by decide +kernel
theorem dX8_fate_94 : decode cX8_fate 94 = .ok (.aload_n 0, 1) := by decide +kernel
theorem dX8_fate_95 : decode cX8_fate 95 = .ok (.getfield 12, 3) := by decide +kernel
theorem dX8_fate_98 : decode cX8_fate 98 = .ok (.getfield 104, 3) := by decide +kernel
theorem dX8_fate_101 : decode cX8_fate 101 = .ok (.iload_n 1, 1) := by decide +kernel
theorem dX8_fate_102 : decode cX8_fate 102 = .ok (.iload_n 2, 1) := by decide +kernel
theorem dX8_fate_103 : decode cX8_fate 103 = .ok (.iload_n 3, 1) := by decide +kernel
theorem dX8_fate_104 : decode cX8_fate 104 = .ok (.invokevirtual 235, 3) := by decide +kernel
theorem dX8_fate_107 : decode cX8_fate 107 = .ok (.iload 5, 2) := by decide +kernel
theorem dX8_fate_109 : decode cX8_fate 109 = .ok (.ireturn, 1) := by decide +kernel
theorem dX8_dual_0 : decode cX8_dual 0 = .ok (.aload_n 0, 1) := by decide +kernel
theorem dX8_dual_1 : decode cX8_dual 1 = .ok (.getfield 19, 3) := by decide +kernel
theorem dX8_dual_4 : decode cX8_dual 4 = .ok (.aload_n 0, 1) := by decide +kernel
theorem dX8_dual_5 : decode cX8_dual 5 = .ok (.getfield 12, 3) := by decide +kernel
theorem dX8_dual_8 : decode cX8_dual 8 = .ok (.invokevirtual 85, 3) := by decide +kernel
theorem dX8_dual_11 : decode cX8_dual 11 = .ok (.aload_n 0, 1) := by decide +kernel
theorem dX8_dual_12 : decode cX8_dual 12 = .ok (.getfield 12, 3) := by decide +kernel
theorem dX8_dual_15 : decode cX8_dual 15 = .ok (.getfield 104, 3) := by decide +kernel
theorem dX8_dual_18 : decode cX8_dual 18 = .ok (.invokevirtual 238, 3) := by decide +kernel
theorem dX8_dual_21 : decode cX8_dual 21 = .ok (.aload_n 0, 1) := by decide +kernel
theorem dX8_dual_22 : decode cX8_dual 22 = .ok (.getfield 39, 3) := by decide +kernel
theorem dX8_dual_25 : decode cX8_dual 25 = .ok (.aload_n 0, 1) := by decide +kernel
theorem dX8_dual_26 : decode cX8_dual 26 = .ok (.getfield 12, 3) := by decide +kernel
theorem dX8_dual_29 : decode cX8_dual 29 = .ok (.getfield 104, 3) := by decide +kernel
theorem dX8_dual_32 : decode cX8_dual 32 = .ok (.invokevirtual 108, 3) := by decide +kernel
theorem dX8_dual_35 : decode cX8_dual 35 = .ok (.aload_n 0, 1) := by decide +kernel
theorem dX8_dual_36 : decode cX8_dual 36 = .ok (.getfield 39, 3) := by decide +kernel
theorem dX8_dual_39 : decode cX8_dual 39 = .ok (.getfield 118, 3) := by decide +kernel
theorem dX8_dual_42 : decode cX8_dual 42 = .ok (.ireturn, 1) := by decide +kernel
theorem dX8_clear_0 : decode cX8_clear 0 = .ok (.aload_n 0, 1) := by decide +kernel
theorem dX8_clear_1 : decode cX8_clear 1 = .ok (.getfield 12, 3) := by decide +kernel
theorem dX8_clear_4 : decode cX8_clear 4 = .ok (.getfield 104, 3) := by decide +kernel
theorem dX8_clear_7 : decode cX8_clear 7 = .ok (.invokevirtual 241, 3) := by decide +kernel
theorem dX8_clear_10 : decode cX8_clear 10 = .ok (.istore_n 1, 1) := by decide +kernel
theorem dX8_clear_11 : decode cX8_clear 11 = .ok (.aload_n 0, 1) := by decide +kernel
theorem dX8_clear_12 : decode cX8_clear 12 = .ok (.getfield 19, 3) := by decide +kernel
theorem dX8_clear_15 : decode cX8_clear 15 = .ok (.aload_n 0, 1) := by decide +kernel
theorem dX8_clear_16 : decode cX8_clear 16 = .ok (.getfield 12, 3) := by decide +kernel
theorem dX8_clear_19 : decode cX8_clear 19 = .ok (.invokevirtual 85, 3) := by decide +kernel
theorem dX8_clear_22 : decode cX8_clear 22 = .ok (.aload_n 0, 1) := by decide +kernel
theorem dX8_clear_23 : decode cX8_clear 23 = .ok (.getfield 12, 3) := by decide +kernel
theorem dX8_clear_26 : decode cX8_clear 26 = .ok (.getfield 104, 3) := by decide +kernel
theorem dX8_clear_29 : decode cX8_clear 29 = .ok (.invokevirtual 244, 3) := by decide +kernel
theorem dX8_clear_32 : decode cX8_clear 32 = .ok (.iload_n 1, 1) := by decide +kernel
theorem dX8_clear_33 : decode cX8_clear 33 = .ok (.ireturn, 1) := by decide +kernel
theorem dX8_drift_0 : decode cX8_drift 0 = .ok (.iload_n 1, 1) := by decide +kernel
theorem dX8_drift_1 : decode cX8_drift 1 = .ok (.iconst 1, 1) := by decide +kernel
theorem dX8_drift_2 : decode cX8_drift 2 = .ok (.if_icmp .lt 9, 3) := by decide +kernel
theorem dX8_drift_5 : decode cX8_drift 5 = .ok (.iload_n 1, 1) := by decide +kernel
theorem dX8_drift_6 : decode cX8_drift 6 = .ok (.bipush 8, 2) := by decide +kernel
theorem dX8_drift_8 : decode cX8_drift 8 = .ok (.if_icmp .le 6, 3) := by decide +kernel
theorem dX8_drift_11 : decode cX8_drift 11 = .ok (.ldc 75, 2) := by decide +kernel
theorem dX8_drift_13 : decode cX8_drift 13 = .ok (.ireturn, 1) := by decide +kernel
theorem dX8_drift_14 : decode cX8_drift 14 = .ok (.iconst 0, 1) := by decide +kernel
theorem dX8_drift_15 : decode cX8_drift 15 = .ok (.istore_n 2, 1) := by decide +kernel
theorem dX8_drift_16 : decode cX8_drift 16 = .ok (.iload_n 2, 1) := by decide +kernel
theorem dX8_drift_17 : decode cX8_drift 17 = .ok (.iload_n 1, 1) := by decide +kernel
theorem dX8_drift_18 : decode cX8_drift 18 = .ok (.if_icmp .ge 46, 3) := by decide +kernel
theorem dX8_drift_21 : decode cX8_drift 21 = .ok (.aload_n 0, 1) := by decide +kernel
theorem dX8_drift_22 : decode cX8_drift 22 = .ok (.getfield 12, 3) := by decide +kernel
theorem dX8_drift_25 : decode cX8_drift 25 = .ok (.invokevirtual 77, 3) := by decide +kernel
theorem dX8_drift_28 : decode cX8_drift 28 = .ok (.ifCond .ne 36, 3) := by decide +kernel
theorem dX8_drift_31 : decode cX8_drift 31 = .ok (.aload_n 0, 1) := by decide +kernel
theorem dX8_drift_32 : decode cX8_drift 32 = .ok (.invokevirtual 247, 3) := by decide +kernel
theorem dX8_drift_35 : decode cX8_drift 35 = .ok (.aload_n 0, 1) := by decide +kernel
theorem dX8_drift_36 : decode cX8_drift 36 = .ok (.getfield 19, 3) := by decide +kernel
theorem dX8_drift_39 : decode cX8_drift 39 = .ok (.aload_n 0, 1) := by decide +kernel
theorem dX8_drift_40 : decode cX8_drift 40 = .ok (.getfield 12, 3) := by decide +kernel
theorem dX8_drift_43 : decode cX8_drift 43 = .ok (.invokevirtual 85, 3) := by decide +kernel
theorem dX8_drift_46 : decode cX8_drift 46 = .ok (.aload_n 0, 1) := by decide +kernel
theorem dX8_drift_47 : decode cX8_drift 47 = .ok (.getfield 12, 3) := by decide +kernel
theorem dX8_drift_50 : decode cX8_drift 50 = .ok (.aload_n 0, 1) := by decide +kernel
theorem dX8_drift_51 : decode cX8_drift 51 = .ok (.getfield 53, 3) := by decide +kernel
theorem dX8_drift_54 : decode cX8_drift 54 = .ok (.invokevirtual 89, 3) := by decide +kernel
theorem dX8_drift_57 : decode cX8_drift 57 = .ok (.pop, 1) := by decide +kernel
theorem dX8_drift_58 : decode cX8_drift 58 = .ok (.iinc 2 1, 3) := by decide +kernel
theorem dX8_drift_61 : decode cX8_drift 61 = .ok (.goto (-45), 3) := by decide +kernel
theorem dX8_drift_64 : decode cX8_drift 64 = .ok (.aload_n 0, 1) := by decide +kernel
theorem dX8_drift_65 : decode cX8_drift 65 = .ok (.getfield 12, 3) := by decide +kernel
theorem dX8_drift_68 : decode cX8_drift 68 = .ok (.getfield 112, 3) := by decide +kernel
theorem dX8_drift_71 : decode cX8_drift 71 = .ok (.ireturn, 1) := by decide +kernel
theorem dX8_drawTree_0 : decode cX8_drawTree 0 = .ok (.aload_n 0, 1) := by decide +kernel
theorem dX8_drawTree_1 : decode cX8_drawTree 1 = .ok (.iconst 5, 1) := by decide +kernel
theorem dX8_drawTree_2 : decode cX8_drawTree 2 = .ok (.invokevirtual 250, 3) := by decide +kernel
theorem dX8_drawTree_5 : decode cX8_drawTree 5 = .ok (.iconst 1, 1) := by decide +kernel
theorem dX8_drawTree_6 : decode cX8_drawTree 6 = .ok (.iadd, 1) := by decide +kernel
theorem dX8_drawTree_7 : decode cX8_drawTree 7 = .ok (.istore_n 1, 1) := by decide +kernel
theorem dX8_drawTree_8 : decode cX8_drawTree 8 = .ok (.aload_n 0, 1) := by decide +kernel
theorem dX8_drawTree_9 : decode cX8_drawTree 9 = .ok (.getfield 53, 3) := by decide +kernel
theorem dX8_drawTree_12 : decode cX8_drawTree 12 = .ok (.aload_n 0, 1) := by decide +kernel
theorem dX8_drawTree_13 : decode cX8_drawTree 13 = .ok (.iconst 2, 1) := by decide +kernel
theorem dX8_drawTree_14 : decode cX8_drawTree 14 = .ok (.invokevirtual 250, 3) := by decide +kernel
theorem dX8_drawTree_17 : decode cX8_drawTree 17 = .ok (.invokevirtual 253, 3) := by decide +kernel
theorem dX8_drawTree_20 : decode cX8_drawTree 20 = .ok (.iconst 1, 1) := by decide +kernel
theorem dX8_drawTree_21 : decode cX8_drawTree 21 = .ok (.istore_n 2, 1) := by decide +kernel
theorem dX8_drawTree_22 : decode cX8_drawTree 22 = .ok (.iload_n 2, 1) := by decide +kernel
theorem dX8_drawTree_23 : decode cX8_drawTree 23 = .ok (.iload_n 1, 1) := by decide +kernel
theorem dX8_drawTree_24 : decode cX8_drawTree 24 = .ok (.if_icmp .ge 57, 3) := by decide +kernel
theorem dX8_drawTree_27 : decode cX8_drawTree 27 = .ok (.iload_n 2, 1) := by decide +kernel
theorem dX8_drawTree_28 : decode cX8_drawTree 28 = .ok (.iconst 5, 1) := by decide +kernel
theorem dX8_drawTree_29 : decode cX8_drawTree 29 = .ok (.if_icmp .ge 52, 3) := by decide +kernel
theorem dX8_drawTree_32 : decode cX8_drawTree 32 = .ok (.aload_n 0, 1) := by decide +kernel
theorem dX8_drawTree_33 : decode cX8_drawTree 33 = .ok (.getfield 53, 3) := by decide +kernel
theorem dX8_drawTree_36 : decode cX8_drawTree 36 = .ok (.aload_n 0, 1) := by decide +kernel
theorem dX8_drawTree_37 : decode cX8_drawTree 37 = .ok (.aload_n 0, 1) := by decide +kernel
theorem dX8_drawTree_38 : decode cX8_drawTree 38 = .ok (.getfield 53, 3) := by decide +kernel
theorem dX8_drawTree_41 : decode cX8_drawTree 41 = .ok (.invokevirtual 256, 3) := by decide +kernel
theorem dX8_drawTree_44 : decode cX8_drawTree 44 = .ok (.invokevirtual 250, 3) := by decide +kernel
theorem dX8_drawTree_47 : decode cX8_drawTree 47 = .ok (.invokevirtual 204, 3) := by decide +kernel
theorem dX8_drawTree_50 : decode cX8_drawTree 50 = .ok (.istore_n 3, 1) := by decide +kernel
theorem dX8_drawTree_51 : decode cX8_drawTree 51 = .ok (.aload_n 0, 1) := by decide +kernel
theorem dX8_drawTree_52 : decode cX8_drawTree 52 = .ok (.getfield 57, 3) := by decide +kernel
theorem dX8_drawTree_55 : decode cX8_drawTree 55 = .ok (.aload_n 0, 1) := by decide +kernel
theorem dX8_drawTree_56 : decode cX8_drawTree 56 = .ok (.iconst 2, 1) := by decide +kernel
theorem dX8_drawTree_57 : decode cX8_drawTree 57 = .ok (.invokevirtual 250, 3) := by decide +kernel
theorem dX8_drawTree_60 : decode cX8_drawTree 60 = .ok (.invokevirtual 253, 3) := by decide +kernel
theorem dX8_drawTree_63 : decode cX8_drawTree 63 = .ok (.aload_n 0, 1) := by decide +kernel
theorem dX8_drawTree_64 : decode cX8_drawTree 64 = .ok (.getfield 53, 3) := by decide +kernel
theorem dX8_drawTree_67 : decode cX8_drawTree 67 = .ok (.iload_n 3, 1) := by decide +kernel
theorem dX8_drawTree_68 : decode cX8_drawTree 68 = .ok (.aload_n 0, 1) := by decide +kernel
theorem dX8_drawTree_69 : decode cX8_drawTree 69 = .ok (.getfield 57, 3) := by decide +kernel
theorem dX8_drawTree_72 : decode cX8_drawTree 72 = .ok (.invokevirtual 211, 3) := by decide +kernel
theorem dX8_drawTree_75 : decode cX8_drawTree 75 = .ok (.iinc 2 1, 3) := by decide +kernel
theorem dX8_drawTree_78 : decode cX8_drawTree 78 = .ok (.goto (-56), 3) := by decide +kernel
theorem dX8_drawTree_81 : decode cX8_drawTree 81 = .ok (.return_, 1) := by decide +kernel
theorem dX8_draw_0 : decode cX8_draw 0 = .ok (.aload_n 0, 1) := by decide +kernel
theorem dX8_draw_1 : decode cX8_draw 1 = .ok (.aload_n 0, 1) := by decide +kernel
theorem dX8_draw_2 : decode cX8_draw 2 = .ok (.getfield 71, 3) := by decide +kernel
theorem dX8_draw_5 : decode cX8_draw 5 = .ok (.i2l, 1) := by decide +kernel
theorem dX8_draw_6 : decode cX8_draw 6 = .ok (.ldc2_w 259, 3) := by decide +kernel
theorem dX8_draw_9 : decode cX8_draw 9 = .ok (.lmul, 1) := by decide +kernel
theorem dX8_draw_10 : decode cX8_draw 10 = .ok (.ldc2_w 261, 3) := by decide +kernel
theorem dX8_draw_13 : decode cX8_draw 13 = .ok (.ladd, 1) := by decide +kernel
theorem dX8_draw_14 : decode cX8_draw 14 = .ok (.ldc2_w 263, 3) := by decide +kernel
theorem dX8_draw_17 : decode cX8_draw 17 = .ok (.land, 1) := by decide +kernel
theorem dX8_draw_18 : decode cX8_draw 18 = .ok (.l2i, 1) := by decide +kernel
theorem dX8_draw_19 : decode cX8_draw 19 = .ok (.putfield 71, 3) := by decide +kernel
theorem dX8_draw_22 : decode cX8_draw 22 = .ok (.iload_n 1, 1) := by decide +kernel
theorem dX8_draw_23 : decode cX8_draw 23 = .ok (.iconst 1, 1) := by decide +kernel
theorem dX8_draw_24 : decode cX8_draw 24 = .ok (.if_icmp .ge 7, 3) := by decide +kernel
theorem dX8_draw_27 : decode cX8_draw 27 = .ok (.iconst 0, 1) := by decide +kernel
theorem dX8_draw_28 : decode cX8_draw 28 = .ok (.goto 12, 3) := by decide +kernel
theorem dX8_draw_31 : decode cX8_draw 31 = .ok (.aload_n 0, 1) := by decide +kernel
theorem dX8_draw_32 : decode cX8_draw 32 = .ok (.getfield 71, 3) := by decide +kernel
theorem dX8_draw_35 : decode cX8_draw 35 = .ok (.bipush 16, 2) := by decide +kernel
theorem dX8_draw_37 : decode cX8_draw 37 = .ok (.ishr, 1) := by decide +kernel
theorem dX8_draw_38 : decode cX8_draw 38 = .ok (.iload_n 1, 1) := by decide +kernel
theorem dX8_draw_39 : decode cX8_draw 39 = .ok (.irem, 1) := by decide +kernel
theorem dX8_draw_40 : decode cX8_draw 40 = .ok (.ireturn, 1) := by decide +kernel
theorem dX8_undo_0 : decode cX8_undo 0 = .ok (.iload_n 1, 1) := by decide +kernel
theorem dX8_undo_1 : decode cX8_undo 1 = .ok (.iconst 1, 1) := by decide +kernel
theorem dX8_undo_2 : decode cX8_undo 2 = .ok (.if_icmp .lt 9, 3) := by decide +kernel
theorem dX8_undo_5 : decode cX8_undo 5 = .ok (.iload_n 1, 1) := by decide +kernel
theorem dX8_undo_6 : decode cX8_undo 6 = .ok (.bipush 20, 2) := by decide +kernel
theorem dX8_undo_8 : decode cX8_undo 8 = .ok (.if_icmp .le 6, 3) := by decide +kernel
theorem dX8_undo_11 : decode cX8_undo 11 = .ok (.ldc 75, 2) := by decide +kernel
theorem dX8_undo_13 : decode cX8_undo 13 = .ok (.ireturn, 1) := by decide +kernel
theorem dX8_undo_14 : decode cX8_undo 14 = .ok (.iload_n 1, 1) := by decide +kernel
theorem dX8_undo_15 : decode cX8_undo 15 = .ok (.aload_n 0, 1) := by decide +kernel
theorem dX8_undo_16 : decode cX8_undo 16 = .ok (.getfield 19, 3) := by decide +kernel
theorem dX8_undo_19 : decode cX8_undo 19 = .ok (.getfield 134, 3) := by decide +kernel
theorem dX8_undo_22 : decode cX8_undo 22 = .ok (.if_icmp .le 6, 3) := by decide +kernel
theorem dX8_undo_25 : decode cX8_undo 25 = .ok (.ldc 210, 2) := by decide +kernel
theorem dX8_undo_27 : decode cX8_undo 27 = .ok (.ireturn, 1) := by decide +kernel
theorem dX8_undo_28 : decode cX8_undo 28 = .ok (.aload_n 0, 1) := by decide +kernel
theorem dX8_undo_29 : decode cX8_undo 29 = .ok (.getfield 19, 3) := by decide +kernel
theorem dX8_undo_32 : decode cX8_undo 32 = .ok (.iload_n 1, 1) := by decide +kernel
theorem dX8_undo_33 : decode cX8_undo 33 = .ok (.aload_n 0, 1) := by decide +kernel
theorem dX8_undo_34 : decode cX8_undo 34 = .ok (.getfield 12, 3) := by decide +kernel
theorem dX8_undo_37 : decode cX8_undo 37 = .ok (.invokevirtual 265, 3) := by decide +kernel
theorem dX8_undo_40 : decode cX8_undo 40 = .ok (.aload_n 0, 1) := by decide +kernel
theorem dX8_undo_41 : decode cX8_undo 41 = .ok (.getfield 12, 3) := by decide +kernel
theorem dX8_undo_44 : decode cX8_undo 44 = .ok (.getfield 112, 3) := by decide +kernel
theorem dX8_undo_47 : decode cX8_undo 47 = .ok (.ireturn, 1) := by decide +kernel
theorem dX8_write_0 : decode cX8_write 0 = .ok (.aload_n 0, 1) := by decide +kernel
theorem dX8_write_1 : decode cX8_write 1 = .ok (.getfield 12, 3) := by decide +kernel
theorem dX8_write_4 : decode cX8_write 4 = .ok (.iload_n 1, 1) := by decide +kernel
theorem dX8_write_5 : decode cX8_write 5 = .ok (.invokevirtual 135, 3) := by decide +kernel
theorem dX8_write_8 : decode cX8_write 8 = .ok (.ifCond .ne 6, 3) := by decide +kernel
theorem dX8_write_11 : decode cX8_write 11 = .ok (.ldc 139, 2) := by decide +kernel
theorem dX8_write_13 : decode cX8_write 13 = .ok (.ireturn, 1) := by decide +kernel
theorem dX8_write_14 : decode cX8_write 14 = .ok (.aload_n 0, 1) := by decide +kernel
theorem dX8_write_15 : decode cX8_write 15 = .ok (.getfield 32, 3) := by decide +kernel
theorem dX8_write_18 : decode cX8_write 18 = .ok (.invokevirtual 269, 3) := by decide +kernel
theorem dX8_write_21 : decode cX8_write 21 = .ok (.ifCond .eq 6, 3) := by decide +kernel
theorem dX8_write_24 : decode cX8_write 24 = .ok (.ldc 76, 2) := by decide +kernel
theorem dX8_write_26 : decode cX8_write 26 = .ok (.ireturn, 1) := by decide +kernel
theorem dX8_write_27 : decode cX8_write 27 = .ok (.aload_n 0, 1) := by decide +kernel
theorem dX8_write_28 : decode cX8_write 28 = .ok (.getfield 32, 3) := by decide +kernel
theorem dX8_write_31 : decode cX8_write 31 = .ok (.iload_n 1, 1) := by decide +kernel
theorem dX8_write_32 : decode cX8_write 32 = .ok (.iload_n 2, 1) := by decide +kernel
theorem dX8_write_33 : decode cX8_write 33 = .ok (.invokevirtual 270, 3) := by decide +kernel
theorem dX8_write_36 : decode cX8_write 36 = .ok (.aload_n 0, 1) := by decide +kernel
theorem dX8_write_37 : decode cX8_write 37 = .ok (.getfield 32, 3) := by decide +kernel
theorem dX8_write_40 : decode cX8_write 40 = .ok (.getfield 129, 3) := by decide +kernel
theorem dX8_write_43 : decode cX8_write 43 = .ok (.ireturn, 1) := by decide +kernel
theorem dX8_tear_0 : decode cX8_tear 0 = .ok (.aload_n 0, 1) := by decide +kernel
theorem dX8_tear_1 : decode cX8_tear 1 = .ok (.getfield 32, 3) := by decide +kernel
theorem dX8_tear_4 : decode cX8_tear 4 = .ok (.getfield 129, 3) := by decide +kernel
theorem dX8_tear_7 : decode cX8_tear 7 = .ok (.istore_n 1, 1) := by decide +kernel
theorem dX8_tear_8 : decode cX8_tear 8 = .ok (.aload_n 0, 1) := by decide +kernel
theorem dX8_tear_9 : decode cX8_tear 9 = .ok (.getfield 32, 3) := by decide +kernel
theorem dX8_tear_12 : decode cX8_tear 12 = .ok (.iconst 0, 1) := by decide +kernel
theorem dX8_tear_13 : decode cX8_tear 13 = .ok (.putfield 129, 3) := by decide +kernel
theorem dX8_tear_16 : decode cX8_tear 16 = .ok (.iload_n 1, 1) := by decide +kernel
theorem dX8_tear_17 : decode cX8_tear 17 = .ok (.ireturn, 1) := by decide +kernel
theorem dX8_seed_0 : decode cX8_seed 0 = .ok (.iload_n 1, 1) := by decide +kernel
theorem dX8_seed_1 : decode cX8_seed 1 = .ok (.ifCond .ge 6, 3) := by decide +kernel
theorem dX8_seed_4 : decode cX8_seed 4 = .ok (.ldc 75, 2) := by decide +kernel
theorem dX8_seed_6 : decode cX8_seed 6 = .ok (.ireturn, 1) := by decide +kernel
theorem dX8_seed_7 : decode cX8_seed 7 = .ok (.aload_n 0, 1) := by decide +kernel
theorem dX8_seed_8 : decode cX8_seed 8 = .ok (.getfield 71, 3) := by decide +kernel
theorem dX8_seed_11 : decode cX8_seed 11 = .ok (.istore_n 2, 1) := by decide +kernel
theorem dX8_seed_12 : decode cX8_seed 12 = .ok (.aload_n 0, 1) := by decide +kernel
theorem dX8_seed_13 : decode cX8_seed 13 = .ok (.iload_n 1, 1) := by decide +kernel
theorem dX8_seed_14 : decode cX8_seed 14 = .ok (.putfield 71, 3) := by decide +kernel
theorem dX8_seed_17 : decode cX8_seed 17 = .ok (.iload_n 2, 1) := by decide +kernel
theorem dX8_seed_18 : decode cX8_seed 18 = .ok (.ireturn, 1) := by decide +kernel
theorem dX8_imageAt_0 : decode cX8_imageAt 0 = .ok (.iload_n 1, 1) := by decide +kernel
theorem dX8_imageAt_1 : decode cX8_imageAt 1 = .ok (.ifCond .lt 21, 3) := by decide +kernel
theorem dX8_imageAt_4 : decode cX8_imageAt 4 = .ok (.iload_n 1, 1) := by decide +kernel
theorem dX8_imageAt_5 : decode cX8_imageAt 5 = .ok (.aload_n 0, 1) := by decide +kernel
theorem dX8_imageAt_6 : decode cX8_imageAt 6 = .ok (.getfield 25, 3) := by decide +kernel
theorem dX8_imageAt_9 : decode cX8_imageAt 9 = .ok (.arraylength, 1) := by decide +kernel
theorem dX8_imageAt_10 : decode cX8_imageAt 10 = .ok (.if_icmp .ge 12, 3) := by decide +kernel
theorem dX8_imageAt_13 : decode cX8_imageAt 13 = .ok (.aload_n 0, 1) := by decide +kernel
theorem dX8_imageAt_14 : decode cX8_imageAt 14 = .ok (.getfield 25, 3) := by decide +kernel
theorem dX8_imageAt_17 : decode cX8_imageAt 17 = .ok (.iload_n 1, 1) := by decide +kernel
theorem dX8_imageAt_18 : decode cX8_imageAt 18 = .ok (.aaload, 1) := by decide +kernel
theorem dX8_imageAt_19 : decode cX8_imageAt 19 = .ok (.goto 4, 3) := by decide +kernel
theorem dX8_imageAt_22 : decode cX8_imageAt 22 = .ok (.aconst_null, 1) := by decide +kernel
theorem dX8_imageAt_23 : decode cX8_imageAt 23 = .ok (.areturn, 1) := by decide +kernel
theorem dX8_keep_0 : decode cX8_keep 0 = .ok (.aload_n 0, 1) := by decide +kernel
theorem dX8_keep_1 : decode cX8_keep 1 = .ok (.iload_n 1, 1) := by decide +kernel
theorem dX8_keep_2 : decode cX8_keep 2 = .ok (.invokevirtual 273, 3) := by decide +kernel
theorem dX8_keep_5 : decode cX8_keep 5 = .ok (.astore_n 2, 1) := by decide +kernel
theorem dX8_keep_6 : decode cX8_keep 6 = .ok (.aload_n 2, 1) := by decide +kernel
theorem dX8_keep_7 : decode cX8_keep 7 = .ok (.ifnonnull 6, 3) := by decide +kernel
theorem dX8_keep_10 : decode cX8_keep 10 = .ok (.ldc 139, 2) := by decide +kernel
theorem dX8_keep_12 : decode cX8_keep 12 = .ok (.ireturn, 1) := by decide +kernel
theorem dX8_keep_13 : decode cX8_keep 13 = .ok (.aload_n 2, 1) := by decide +kernel
theorem dX8_keep_14 : decode cX8_keep 14 = .ok (.getfield 277, 3) := by decide +kernel
theorem dX8_keep_17 : decode cX8_keep 17 = .ok (.aload_n 0, 1) := by decide +kernel
theorem dX8_keep_18 : decode cX8_keep 18 = .ok (.getfield 12, 3) := by decide +kernel
theorem dX8_keep_21 : decode cX8_keep 21 = .ok (.invokevirtual 280, 3) := by decide +kernel
theorem dX8_keep_24 : decode cX8_keep 24 = .ok (.aload_n 2, 1) := by decide +kernel
theorem dX8_keep_25 : decode cX8_keep 25 = .ok (.aload_n 0, 1) := by decide +kernel
theorem dX8_keep_26 : decode cX8_keep 26 = .ok (.getfield 71, 3) := by decide +kernel
theorem dX8_keep_29 : decode cX8_keep 29 = .ok (.putfield 283, 3) := by decide +kernel
theorem dX8_keep_32 : decode cX8_keep 32 = .ok (.aload_n 2, 1) := by decide +kernel
theorem dX8_keep_33 : decode cX8_keep 33 = .ok (.iconst 1, 1) := by decide +kernel
theorem dX8_keep_34 : decode cX8_keep 34 = .ok (.putfield 286, 3) := by decide +kernel
theorem dX8_keep_37 : decode cX8_keep 37 = .ok (.aload_n 0, 1) := by decide +kernel
theorem dX8_keep_38 : decode cX8_keep 38 = .ok (.getfield 19, 3) := by decide +kernel
theorem dX8_keep_41 : decode cX8_keep 41 = .ok (.invokevirtual 290, 3) := by decide +kernel
theorem dX8_keep_44 : decode cX8_keep 44 = .ok (.iconst 1, 1) := by decide +kernel
theorem dX8_keep_45 : decode cX8_keep 45 = .ok (.ireturn, 1) := by decide +kernel
theorem dX8_goBack_0 : decode cX8_goBack 0 = .ok (.aload_n 0, 1) := by decide +kernel
theorem dX8_goBack_1 : decode cX8_goBack 1 = .ok (.iload_n 1, 1) := by decide +kernel
theorem dX8_goBack_2 : decode cX8_goBack 2 = .ok (.invokevirtual 273, 3) := by decide +kernel
theorem dX8_goBack_5 : decode cX8_goBack 5 = .ok (.astore_n 2, 1) := by decide +kernel
theorem dX8_goBack_6 : decode cX8_goBack 6 = .ok (.aload_n 2, 1) := by decide +kernel
theorem dX8_goBack_7 : decode cX8_goBack 7 = .ok (.ifnonnull 6, 3) := by decide +kernel
theorem dX8_goBack_10 : decode cX8_goBack 10 = .ok (.ldc 139, 2) := by decide +kernel
theorem dX8_goBack_12 : decode cX8_goBack 12 = .ok (.ireturn, 1) := by decide +kernel
theorem dX8_goBack_13 : decode cX8_goBack 13 = .ok (.aload_n 2, 1) := by decide +kernel
theorem dX8_goBack_14 : decode cX8_goBack 14 = .ok (.getfield 286, 3) := by decide +kernel
theorem dX8_goBack_17 : decode cX8_goBack 17 = .ok (.ifCond .ne 6, 3) := by decide +kernel
theorem dX8_goBack_20 : decode cX8_goBack 20 = .ok (.ldc 210, 2) := by decide +kernel
theorem dX8_goBack_22 : decode cX8_goBack 22 = .ok (.ireturn, 1) := by decide +kernel
theorem dX8_goBack_23 : decode cX8_goBack 23 = .ok (.aload_n 0, 1) := by decide +kernel
theorem dX8_goBack_24 : decode cX8_goBack 24 = .ok (.getfield 12, 3) := by decide +kernel
theorem dX8_goBack_27 : decode cX8_goBack 27 = .ok (.aload_n 2, 1) := by decide +kernel
theorem dX8_goBack_28 : decode cX8_goBack 28 = .ok (.getfield 277, 3) := by decide +kernel
theorem dX8_goBack_31 : decode cX8_goBack 31 = .ok (.invokevirtual 280, 3) := by decide +kernel
theorem dX8_goBack_34 : decode cX8_goBack 34 = .ok (.aload_n 0, 1) := by decide +kernel
theorem dX8_goBack_35 : decode cX8_goBack 35 = .ok (.aload_n 2, 1) := by decide +kernel
theorem dX8_goBack_36 : decode cX8_goBack 36 = .ok (.getfield 283, 3) := by decide +kernel
theorem dX8_goBack_39 : decode cX8_goBack 39 = .ok (.putfield 71, 3) := by decide +kernel
theorem dX8_goBack_42 : decode cX8_goBack 42 = .ok (.aload_n 0, 1) := by decide +kernel
theorem dX8_goBack_43 : decode cX8_goBack 43 = .ok (.getfield 19, 3) := by decide +kernel
theorem dX8_goBack_46 : decode cX8_goBack 46 = .ok (.invokevirtual 290, 3) := by decide +kernel
theorem dX8_goBack_49 : decode cX8_goBack 49 = .ok (.iconst 1, 1) := by decide +kernel
theorem dX8_goBack_50 : decode cX8_goBack 50 = .ok (.ireturn, 1) := by decide +kernel
end
section
theorem dX9_init_0 : decode cX9_init 0 = .ok (.aload_n 0, 1) := by decide +kernel
theorem dX9_init_1 : decode cX9_init 1 = .ok (.invokespecial 1, 3) := by decide +kernel
theorem dX9_init_4 : decode cX9_init 4 = .ok (.aload_n 0, 1) := by decide +kernel
theorem dX9_init_5 : decode cX9_init 5 = .ok (.sipush 782, 3) := by decide +kernel
theorem dX9_init_8 : decode cX9_init 8 = .ok (.newarray .int, 2) := by decide +kernel
theorem dX9_init_10 : decode cX9_init 10 = .ok (.putfield 7, 3) := by decide +kernel
theorem dX9_init_13 : decode cX9_init 13 = .ok (.aload_n 0, 1) := by decide +kernel
theorem dX9_init_14 : decode cX9_init 14 = .ok (.iconst 2, 1) := by decide +kernel
theorem dX9_init_15 : decode cX9_init 15 = .ok (.newarray .int, 2) := by decide +kernel
theorem dX9_init_17 : decode cX9_init 17 = .ok (.putfield 13, 3) := by decide +kernel
theorem dX9_init_20 : decode cX9_init 20 = .ok (.aload_n 0, 1) := by decide +kernel
theorem dX9_init_21 : decode cX9_init 21 = .ok (.bipush 30, 2) := by decide +kernel
theorem dX9_init_23 : decode cX9_init 23 = .ok (.newarray .int, 2) := by decide +kernel
theorem dX9_init_25 : decode cX9_init 25 = .ok (.putfield 16, 3) := by decide +kernel
theorem dX9_init_28 : decode cX9_init 28 = .ok (.aload_n 0, 1) := by decide +kernel
theorem dX9_init_29 : decode cX9_init 29 = .ok (.iconst (-1), 1) := by decide +kernel
theorem dX9_init_30 : decode cX9_init 30 = .ok (.putfield 19, 3) := by decide +kernel
theorem dX9_init_33 : decode cX9_init 33 = .ok (.aload_n 0, 1) := by decide +kernel
theorem dX9_init_34 : decode cX9_init 34 = .ok (.bipush 20, 2) := by decide +kernel
theorem dX9_init_36 : decode cX9_init 36 = .ok (.newarray .int, 2) := by decide +kernel
theorem dX9_init_38 : decode cX9_init 38 = .ok (.putfield 23, 3) := by decide +kernel
theorem dX9_init_41 : decode cX9_init 41 = .ok (.aload_n 0, 1) := by decide +kernel
theorem dX9_init_42 : decode cX9_init 42 = .ok (.bipush 20, 2) := by decide +kernel
theorem dX9_init_44 : decode cX9_init 44 = .ok (.newarray .int, 2) := by decide +kernel
theorem dX9_init_46 : decode cX9_init 46 = .ok (.putfield 26, 3) := by decide +kernel
theorem dX9_init_49 : decode cX9_init 49 = .ok (.aload_n 0, 1) := by decide +kernel
theorem dX9_init_50 : decode cX9_init 50 = .ok (.bipush 16, 2) := by decide +kernel
theorem dX9_init_52 : decode cX9_init 52 = .ok (.newarray .int, 2) := by decide +kernel
theorem dX9_init_54 : decode cX9_init 54 = .ok (.putfield 29, 3) := by decide +kernel
theorem dX9_init_57 : decode cX9_init 57 = .ok (.aload_n 0, 1) := by decide +kernel
theorem dX9_init_58 : decode cX9_init 58 = .ok (.bipush 16, 2) := by decide +kernel
theorem dX9_init_60 : decode cX9_init 60 = .ok (.newarray .int, 2) := by decide +kernel
theorem dX9_init_62 : decode cX9_init 62 = .ok (.putfield 32, 3) := by decide +kernel
theorem dX9_init_65 : decode cX9_init 65 = .ok (.aload_n 0, 1) := by decide +kernel
theorem dX9_init_66 : decode cX9_init 66 = .ok (.bipush 16, 2) := by decide +kernel
theorem dX9_init_68 : decode cX9_init 68 = .ok (.newarray .int, 2) := by decide +kernel
theorem dX9_init_70 : decode cX9_init 70 = .ok (.putfield 35, 3) := by decide +kernel
theorem dX9_init_73 : decode cX9_init 73 = .ok (.aload_n 0, 1) := by decide +kernel
theorem dX9_init_74 : decode cX9_init 74 = .ok (.bipush 24, 2) := by decide +kernel
theorem dX9_init_76 : decode cX9_init 76 = .ok (.newarray .long, 2) := by decide +kernel
theorem dX9_init_78 : decode cX9_init 78 = .ok (.putfield 38, 3) := by decide +kernel
theorem dX9_init_81 : decode cX9_init 81 = .ok (.aload_n 0, 1) := by decide +kernel
theorem dX9_init_82 : decode cX9_init 82 = .ok (.bipush 8, 2) := by decide +kernel
theorem dX9_init_84 : decode cX9_init 84 = .ok (.newarray .long, 2) := by decide +kernel
theorem dX9_init_86 : decode cX9_init 86 = .ok (.putfield 42, 3) := by decide +kernel
theorem dX9_init_89 : decode cX9_init 89 = .ok (.aload_n 0, 1) := by decide +kernel
theorem dX9_init_90 : decode cX9_init 90 = .ok (.bipush 8, 2) := by decide +kernel
theorem dX9_init_92 : decode cX9_init 92 = .ok (.newarray .long, 2) := by decide +kernel
theorem dX9_init_94 : decode cX9_init 94 = .ok (.putfield 45, 3) := by decide +kernel
theorem dX9_init_97 : decode cX9_init 97 = .ok (.aload_n 0, 1) := by decide +kernel
theorem dX9_init_98 : decode cX9_init 98 = .ok (.bipush 8, 2) := by decide +kernel
theorem dX9_init_100 : decode cX9_init 100 = .ok (.newarray .long, 2) := by decide +kernel
theorem dX9_init_102 : decode cX9_init 102 = .ok (.putfield 48, 3) := by decide +kernel
theorem dX9_init_105 : decode cX9_init 105 = .ok (.aload_n 0, 1) := by decide +kernel
theorem dX9_init_106 : decode cX9_init 106 = .ok (.bipush 8, 2) := by decide +kernel
theorem dX9_init_108 : decode cX9_init 108 = .ok (.newarray .int, 2) := by decide +kernel
theorem dX9_init_110 : decode cX9_init 110 = .ok (.putfield 51, 3) := by decide +kernel
theorem dX9_init_113 : decode cX9_init 113 = .ok (.iconst 0, 1) := by decide +kernel
theorem dX9_init_114 : decode cX9_init 114 = .ok (.istore_n 1, 1) := by decide +kernel
theorem dX9_init_115 : decode cX9_init 115 = .ok (.iload_n 1, 1) := by decide +kernel
theorem dX9_init_116 : decode cX9_init 116 = .ok (.bipush 8, 2) := by decide +kernel
theorem dX9_init_118 : decode cX9_init 118 = .ok (.if_icmp .ge 19, 3) := by decide +kernel
theorem dX9_init_121 : decode cX9_init 121 = .ok (.aload_n 0, 1) := by decide +kernel
theorem dX9_init_122 : decode cX9_init 122 = .ok (.getfield 7, 3) := by decide +kernel
theorem dX9_init_125 : decode cX9_init 125 = .ok (.bipush 25, 2) := by decide +kernel
theorem dX9_init_127 : decode cX9_init 127 = .ok (.iload_n 1, 1) := by decide +kernel
theorem dX9_init_128 : decode cX9_init 128 = .ok (.iadd, 1) := by decide +kernel
theorem dX9_init_129 : decode cX9_init 129 = .ok (.iconst (-1), 1) := by decide +kernel
theorem dX9_init_130 : decode cX9_init 130 = .ok (.iastore, 1) := by decide +kernel
theorem dX9_init_131 : decode cX9_init 131 = .ok (.iinc 1 1, 3) := by decide +kernel
theorem dX9_init_134 : decode cX9_init 134 = .ok (.goto (-19), 3) := by decide +kernel
theorem dX9_init_137 : decode cX9_init 137 = .ok (.return_, 1) := by decide +kernel
theorem dX9_in_0 : decode cX9_in 0 = .ok (.iload_n 0, 1) := by decide +kernel
theorem dX9_in_1 : decode cX9_in 1 = .ok (.iload_n 1, 1) := by decide +kernel
theorem dX9_in_2 : decode cX9_in 2 = .ok (.if_icmp .lt 12, 3) := by decide +kernel
theorem dX9_in_5 : decode cX9_in 5 = .ok (.iload_n 0, 1) := by decide +kernel
theorem dX9_in_6 : decode cX9_in 6 = .ok (.iload_n 2, 1) := by decide +kernel
theorem dX9_in_7 : decode cX9_in 7 = .ok (.if_icmp .gt 7, 3) := by decide +kernel
theorem dX9_in_10 : decode cX9_in 10 = .ok (.iconst 1, 1) := by decide +kernel
theorem dX9_in_11 : decode cX9_in 11 = .ok (.goto 4, 3) := by decide +kernel
theorem dX9_in_14 : decode cX9_in 14 = .ok (.iconst 0, 1) := by decide +kernel
theorem dX9_in_15 : decode cX9_in 15 = .ok (.ireturn, 1) := by decide +kernel
theorem dX9_copyRow_0 : decode cX9_copyRow 0 = .ok (.iconst 0, 1) := by decide +kernel
theorem dX9_copyRow_1 : decode cX9_copyRow 1 = .ok (.istore_n 3, 1) := by decide +kernel
theorem dX9_copyRow_2 : decode cX9_copyRow 2 = .ok (.iload_n 3, 1) := by decide +kernel
theorem dX9_copyRow_3 : decode cX9_copyRow 3 = .ok (.bipush 34, 2) := by decide +kernel
theorem dX9_copyRow_5 : decode cX9_copyRow 5 = .ok (.if_icmp .ge 25, 3) := by decide +kernel
theorem dX9_copyRow_8 : decode cX9_copyRow 8 = .ok (.aload_n 0, 1) := by decide +kernel
theorem dX9_copyRow_9 : decode cX9_copyRow 9 = .ok (.getfield 7, 3) := by decide +kernel
theorem dX9_copyRow_12 : decode cX9_copyRow 12 = .ok (.iload_n 2, 1) := by decide +kernel
theorem dX9_copyRow_13 : decode cX9_copyRow 13 = .ok (.iload_n 3, 1) := by decide +kernel
theorem dX9_copyRow_14 : decode cX9_copyRow 14 = .ok (.iadd, 1) := by decide +kernel
theorem dX9_copyRow_15 : decode cX9_copyRow 15 = .ok (.aload_n 0, 1) := by decide +kernel
theorem dX9_copyRow_16 : decode cX9_copyRow 16 = .ok (.getfield 7, 3) := by decide +kernel
theorem dX9_copyRow_19 : decode cX9_copyRow 19 = .ok (.iload_n 1, 1) := by decide +kernel
theorem dX9_copyRow_20 : decode cX9_copyRow 20 = .ok (.iload_n 3, 1) := by decide +kernel
theorem dX9_copyRow_21 : decode cX9_copyRow 21 = .ok (.iadd, 1) := by decide +kernel
theorem dX9_copyRow_22 : decode cX9_copyRow 22 = .ok (.iaload, 1) := by decide +kernel
theorem dX9_copyRow_23 : decode cX9_copyRow 23 = .ok (.iastore, 1) := by decide +kernel
theorem dX9_copyRow_24 : decode cX9_copyRow 24 = .ok (.iinc 3 1, 3) := by decide +kernel
theorem dX9_copyRow_27 : decode cX9_copyRow 27 = .ok (.goto (-25), 3) := by decide +kernel
theorem dX9_copyRow_30 : decode cX9_copyRow 30 = .ok (.return_, 1) := by decide +kernel
theorem dX9_isTree_0 : decode cX9_isTree 0 = .ok (.iload_n 1, 1) := by decide +kernel
theorem dX9_isTree_1 : decode cX9_isTree 1 = .ok (.iconst 0, 1) := by decide +kernel
theorem dX9_isTree_2 : decode cX9_isTree 2 = .ok (.aload_n 0, 1) := by decide +kernel
theorem dX9_isTree_3 : decode cX9_isTree 3 = .ok (.getfield 7, 3) := by decide +kernel
theorem dX9_isTree_6 : decode cX9_isTree 6 = .ok (.iconst 0, 1) := by decide +kernel
theorem dX9_isTree_7 : decode cX9_isTree 7 = .ok (.iaload, 1) := by decide +kernel
theorem dX9_isTree_8 : decode cX9_isTree 8 = .ok (.iconst 1, 1) := by decide +kernel
theorem dX9_isTree_9 : decode cX9_isTree 9 = .ok (.isub, 1) := by decide +kernel
theorem dX9_isTree_10 : decode cX9_isTree 10 = .ok (.invokestatic 54, 3) := by decide +kernel
theorem dX9_isTree_13 : decode cX9_isTree 13 = .ok (.ireturn, 1) := by decide +kernel
theorem dX9_open_0 : decode cX9_open 0 = .ok (.iconst 1, 1) := by decide +kernel
theorem dX9_open_1 : decode cX9_open 1 = .ok (.istore_n 3, 1) := by decide +kernel
theorem dX9_open_2 : decode cX9_open 2 = .ok (.iload_n 1, 1) := by decide +kernel
theorem dX9_open_3 : decode cX9_open 3 = .ok (.istore 4, 2) := by decide +kernel
theorem dX9_open_5 : decode cX9_open 5 = .ok (.iload 4, 2) := by decide +kernel
theorem dX9_open_7 : decode cX9_open 7 = .ok (.iconst 3, 1) := by decide +kernel
theorem dX9_open_8 : decode cX9_open 8 = .ok (.if_icmp .lt 15, 3) := by decide +kernel
theorem dX9_open_11 : decode cX9_open 11 = .ok (.iload 4, 2) := by decide +kernel
theorem dX9_open_13 : decode cX9_open 13 = .ok (.iconst 3, 1) := by decide +kernel
theorem dX9_open_14 : decode cX9_open 14 = .ok (.idiv, 1) := by decide +kernel
theorem dX9_open_15 : decode cX9_open 15 = .ok (.istore 4, 2) := by decide +kernel
theorem dX9_open_17 : decode cX9_open 17 = .ok (.iinc 3 1, 3) := by decide +kernel
theorem dX9_open_20 : decode cX9_open 20 = .ok (.goto (-15), 3) := by decide +kernel
theorem dX9_open_23 : decode cX9_open 23 = .ok (.aload_n 0, 1) := by decide +kernel
theorem dX9_open_24 : decode cX9_open 24 = .ok (.iload_n 3, 1) := by decide +kernel
theorem dX9_open_25 : decode cX9_open 25 = .ok (.putfield 58, 3) := by decide +kernel
theorem dX9_open_28 : decode cX9_open 28 = .ok (.aload_n 0, 1) := by decide +kernel
theorem dX9_open_29 : decode cX9_open 29 = .ok (.iload_n 2, 1) := by decide +kernel
theorem dX9_open_30 : decode cX9_open 30 = .ok (.putfield 61, 3) := by decide +kernel
theorem dX9_open_33 : decode cX9_open 33 = .ok (.iload_n 1, 1) := by decide +kernel
theorem dX9_open_34 : decode cX9_open 34 = .ok (.istore 4, 2) := by decide +kernel
theorem dX9_open_36 : decode cX9_open 36 = .ok (.iload_n 3, 1) := by decide +kernel
theorem dX9_open_37 : decode cX9_open 37 = .ok (.iconst 1, 1) := by decide +kernel
theorem dX9_open_38 : decode cX9_open 38 = .ok (.isub, 1) := by decide +kernel
theorem dX9_open_39 : decode cX9_open 39 = .ok (.istore 5, 2) := by decide +kernel
theorem dX9_open_41 : decode cX9_open 41 = .ok (.iload 5, 2) := by decide +kernel
theorem dX9_open_43 : decode cX9_open 43 = .ok (.ifCond .lt 26, 3) := by decide +kernel
theorem dX9_open_46 : decode cX9_open 46 = .ok (.aload_n 0, 1) := by decide +kernel
theorem dX9_open_47 : decode cX9_open 47 = .ok (.getfield 29, 3) := by decide +kernel
theorem dX9_open_50 : decode cX9_open 50 = .ok (.iload 5, 2) := by decide +kernel
theorem dX9_open_52 : decode cX9_open 52 = .ok (.iload 4, 2) := by decide +kernel
theorem dX9_open_54 : decode cX9_open 54 = .ok (.iconst 3, 1) := by decide +kernel
theorem dX9_open_55 : decode cX9_open 55 = .ok (.irem, 1) := by decide +kernel
theorem dX9_open_56 : decode cX9_open 56 = .ok (.iastore, 1) := by decide +kernel
theorem dX9_open_57 : decode cX9_open 57 = .ok (.iload 4, 2) := by decide +kernel
theorem dX9_open_59 : decode cX9_open 59 = .ok (.iconst 3, 1) := by decide +kernel
theorem dX9_open_60 : decode cX9_open 60 = .ok (.idiv, 1) := by decide +kernel
theorem dX9_open_61 : decode cX9_open 61 = .ok (.istore 4, 2) := by decide +kernel
theorem dX9_open_63 : decode cX9_open 63 = .ok (.iinc 5 (-1), 3) := by decide +kernel
theorem dX9_open_66 : decode cX9_open 66 = .ok (.goto (-25), 3) := by decide +kernel
theorem dX9_open_69 : decode cX9_open 69 = .ok (.return_, 1) := by decide +kernel
theorem dX9_openTree_0 : decode cX9_openTree 0 = .ok (.aload_n 0, 1) := by decide +kernel
theorem dX9_openTree_1 : decode cX9_openTree 1 = .ok (.aload_n 0, 1) := by decide +kernel
theorem dX9_openTree_2 : decode cX9_openTree 2 = .ok (.getfield 7, 3) := by decide +kernel
theorem dX9_openTree_5 : decode cX9_openTree 5 = .ok (.iconst 1, 1) := by decide +kernel
theorem dX9_openTree_6 : decode cX9_openTree 6 = .ok (.iload_n 1, 1) := by decide +kernel
theorem dX9_openTree_7 : decode cX9_openTree 7 = .ok (.iadd, 1) := by decide +kernel
theorem dX9_openTree_8 : decode cX9_openTree 8 = .ok (.iaload, 1) := by decide +kernel
theorem dX9_openTree_9 : decode cX9_openTree 9 = .ok (.aload_n 0, 1) := by decide +kernel
theorem dX9_openTree_10 : decode cX9_openTree 10 = .ok (.getfield 7, 3) := by decide +kernel
theorem dX9_openTree_13 : decode cX9_openTree 13 = .ok (.bipush 9, 2) := by decide +kernel
theorem dX9_openTree_15 : decode cX9_openTree 15 = .ok (.iload_n 1, 1) := by decide +kernel
theorem dX9_openTree_16 : decode cX9_openTree 16 = .ok (.iadd, 1) := by decide +kernel
theorem dX9_openTree_17 : decode cX9_openTree 17 = .ok (.iaload, 1) := by decide +kernel
theorem dX9_openTree_18 : decode cX9_openTree 18 = .ok (.invokevirtual 64, 3) := by decide +kernel
theorem dX9_openTree_21 : decode cX9_openTree 21 = .ok (.return_, 1) := by decide +kernel
theorem dX9_code_0 : decode cX9_code 0 = .ok (.iconst 0, 1) := by decide +kernel
theorem dX9_code_1 : decode cX9_code 1 = .ok (.istore_n 1, 1) := by decide +kernel
theorem dX9_code_2 : decode cX9_code 2 = .ok (.iconst 0, 1) := by decide +kernel
theorem dX9_code_3 : decode cX9_code 3 = .ok (.istore_n 2, 1) := by decide +kernel
theorem dX9_code_4 : decode cX9_code 4 = .ok (.iload_n 2, 1) := by decide +kernel
theorem dX9_code_5 : decode cX9_code 5 = .ok (.aload_n 0, 1) := by decide +kernel
theorem dX9_code_6 : decode cX9_code 6 = .ok (.getfield 58, 3) := by decide +kernel
theorem dX9_code_9 : decode cX9_code 9 = .ok (.if_icmp .ge 20, 3) := by decide +kernel
theorem dX9_code_12 : decode cX9_code 12 = .ok (.iconst 3, 1) := by decide +kernel
theorem dX9_code_13 : decode cX9_code 13 = .ok (.iload_n 1, 1) := by decide +kernel
theorem dX9_code_14 : decode cX9_code 14 = .ok (.imul, 1) := by decide +kernel
theorem dX9_code_15 : decode cX9_code 15 = .ok (.aload_n 0, 1) := by decide +kernel
theorem dX9_code_16 : decode cX9_code 16 = .ok (.getfield 29, 3) := by decide +kernel
theorem dX9_code_19 : decode cX9_code 19 = .ok (.iload_n 2, 1) := by decide +kernel
theorem dX9_code_20 : decode cX9_code 20 = .ok (.iaload, 1) := by decide +kernel
theorem dX9_code_21 : decode cX9_code 21 = .ok (.iadd, 1) := by decide +kernel
theorem dX9_code_22 : decode cX9_code 22 = .ok (.istore_n 1, 1) := by decide +kernel
theorem dX9_code_23 : decode cX9_code 23 = .ok (.iinc 2 1, 3) := by decide +kernel
theorem dX9_code_26 : decode cX9_code 26 = .ok (.goto (-22), 3) := by decide +kernel
theorem dX9_code_29 : decode cX9_code 29 = .ok (.iload_n 1, 1) := by decide +kernel
theorem dX9_code_30 : decode cX9_code 30 = .ok (.ireturn, 1) := by decide +kernel
theorem dX9_nodes_0 : decode cX9_nodes 0 = .ok (.aload_n 0, 1) := by decide +kernel
theorem dX9_nodes_1 : decode cX9_nodes 1 = .ok (.getfield 58, 3) := by decide +kernel
theorem dX9_nodes_4 : decode cX9_nodes 4 = .ok (.iconst 2, 1) := by decide +kernel
theorem dX9_nodes_5 : decode cX9_nodes 5 = .ok (.idiv, 1) := by decide +kernel
theorem dX9_nodes_6 : decode cX9_nodes 6 = .ok (.ireturn, 1) := by decide +kernel
theorem dX9_behind_0 : decode cX9_behind 0 = .ok (.iconst 1, 1) := by decide +kernel
theorem dX9_behind_1 : decode cX9_behind 1 = .ok (.istore_n 2, 1) := by decide +kernel
theorem dX9_behind_2 : decode cX9_behind 2 = .ok (.iload_n 1, 1) := by decide +kernel
theorem dX9_behind_3 : decode cX9_behind 3 = .ok (.istore_n 3, 1) := by decide +kernel
theorem dX9_behind_4 : decode cX9_behind 4 = .ok (.iload_n 2, 1) := by decide +kernel
theorem dX9_behind_5 : decode cX9_behind 5 = .ok (.ifCond .le 26, 3) := by decide +kernel
theorem dX9_behind_8 : decode cX9_behind 8 = .ok (.iload_n 2, 1) := by decide +kernel
theorem dX9_behind_9 : decode cX9_behind 9 = .ok (.aload_n 0, 1) := by decide +kernel
theorem dX9_behind_10 : decode cX9_behind 10 = .ok (.getfield 29, 3) := by decide +kernel
theorem dX9_behind_13 : decode cX9_behind 13 = .ok (.iload_n 3, 1) := by decide +kernel
theorem dX9_behind_14 : decode cX9_behind 14 = .ok (.iaload, 1) := by decide +kernel
theorem dX9_behind_15 : decode cX9_behind 15 = .ok (.ifCond .ne 7, 3) := by decide +kernel
theorem dX9_behind_18 : decode cX9_behind 18 = .ok (.iconst (-1), 1) := by decide +kernel
theorem dX9_behind_19 : decode cX9_behind 19 = .ok (.goto 4, 3) := by decide +kernel
theorem dX9_behind_22 : decode cX9_behind 22 = .ok (.iconst 1, 1) := by decide +kernel
theorem dX9_behind_23 : decode cX9_behind 23 = .ok (.iadd, 1) := by decide +kernel
theorem dX9_behind_24 : decode cX9_behind 24 = .ok (.istore_n 2, 1) := by decide +kernel
theorem dX9_behind_25 : decode cX9_behind 25 = .ok (.iinc 3 1, 3) := by decide +kernel
theorem dX9_behind_28 : decode cX9_behind 28 = .ok (.goto (-24), 3) := by decide +kernel
theorem dX9_behind_31 : decode cX9_behind 31 = .ok (.iload_n 3, 1) := by decide +kernel
theorem dX9_behind_32 : decode cX9_behind 32 = .ok (.ireturn, 1) := by decide +kernel
theorem dX9_branchOf_0 : decode cX9_branchOf 0 = .ok (.iload_n 2, 1) := by decide +kernel
theorem dX9_branchOf_1 : decode cX9_branchOf 1 = .ok (.ifCond .ne 9, 3) := by decide +kernel
theorem dX9_branchOf_4 : decode cX9_branchOf 4 = .ok (.iload_n 1, 1) := by decide +kernel
theorem dX9_branchOf_5 : decode cX9_branchOf 5 = .ok (.iconst 1, 1) := by decide +kernel
theorem dX9_branchOf_6 : decode cX9_branchOf 6 = .ok (.iadd, 1) := by decide +kernel
theorem dX9_branchOf_7 : decode cX9_branchOf 7 = .ok (.goto 10, 3) := by decide +kernel
theorem dX9_branchOf_10 : decode cX9_branchOf 10 = .ok (.aload_n 0, 1) := by decide +kernel
theorem dX9_branchOf_11 : decode cX9_branchOf 11 = .ok (.iload_n 1, 1) := by decide +kernel
theorem dX9_branchOf_12 : decode cX9_branchOf 12 = .ok (.iconst 1, 1) := by decide +kernel
theorem dX9_branchOf_13 : decode cX9_branchOf 13 = .ok (.iadd, 1) := by decide +kernel
theorem dX9_branchOf_14 : decode cX9_branchOf 14 = .ok (.invokevirtual 68, 3) := by decide +kernel
theorem dX9_branchOf_17 : decode cX9_branchOf 17 = .ok (.ireturn, 1) := by decide +kernel
theorem dX9_patternAt_0 : decode cX9_patternAt 0 = .ok (.aload_n 0, 1) := by decide +kernel
theorem dX9_patternAt_1 : decode cX9_patternAt 1 = .ok (.getfield 29, 3) := by decide +kernel
theorem dX9_patternAt_4 : decode cX9_patternAt 4 = .ok (.iload_n 1, 1) := by decide +kernel
theorem dX9_patternAt_5 : decode cX9_patternAt 5 = .ok (.iaload, 1) := by decide +kernel
theorem dX9_patternAt_6 : decode cX9_patternAt 6 = .ok (.ifCond .ne 5, 3) := by decide +kernel
theorem dX9_patternAt_9 : decode cX9_patternAt 9 = .ok (.iconst (-1), 1) := by decide +kernel
theorem dX9_patternAt_10 : decode cX9_patternAt 10 = .ok (.ireturn, 1) := by decide +kernel
theorem dX9_patternAt_11 : decode cX9_patternAt 11 = .ok (.aload_n 0, 1) := by decide +kernel
theorem dX9_patternAt_12 : decode cX9_patternAt 12 = .ok (.getfield 29, 3) := by decide +kernel
theorem dX9_patternAt_15 : decode cX9_patternAt 15 = .ok (.aload_n 0, 1) := by decide +kernel
theorem dX9_patternAt_16 : decode cX9_patternAt 16 = .ok (.iload_n 1, 1) := by decide +kernel
theorem dX9_patternAt_17 : decode cX9_patternAt 17 = .ok (.iload_n 2, 1) := by decide +kernel
theorem dX9_patternAt_18 : decode cX9_patternAt 18 = .ok (.invokevirtual 72, 3) := by decide +kernel
theorem dX9_patternAt_21 : decode cX9_patternAt 21 = .ok (.iaload, 1) := by decide +kernel
theorem dX9_patternAt_22 : decode cX9_patternAt 22 = .ok (.istore_n 3, 1) := by decide +kernel
theorem dX9_patternAt_23 : decode cX9_patternAt 23 = .ok (.iload_n 3, 1) := by decide +kernel
theorem dX9_patternAt_24 : decode cX9_patternAt 24 = .ok (.ifCond .ne 7, 3) := by decide +kernel
theorem dX9_patternAt_27 : decode cX9_patternAt 27 = .ok (.iconst (-1), 1) := by decide +kernel
theorem dX9_patternAt_28 : decode cX9_patternAt 28 = .ok (.goto 21, 3) := by decide +kernel
theorem dX9_patternAt_31 : decode cX9_patternAt 31 = .ok (.iconst 4, 1) := by decide +kernel
theorem dX9_patternAt_32 : decode cX9_patternAt 32 = .ok (.aload_n 0, 1) := by decide +kernel
theorem dX9_patternAt_33 : decode cX9_patternAt 33 = .ok (.getfield 29, 3) := by decide +kernel
theorem dX9_patternAt_36 : decode cX9_patternAt 36 = .ok (.iload_n 1, 1) := by decide +kernel
theorem dX9_patternAt_37 : decode cX9_patternAt 37 = .ok (.iaload, 1) := by decide +kernel
theorem dX9_patternAt_38 : decode cX9_patternAt 38 = .ok (.iconst 1, 1) := by decide +kernel
theorem dX9_patternAt_39 : decode cX9_patternAt 39 = .ok (.isub, 1) := by decide +kernel
theorem dX9_patternAt_40 : decode cX9_patternAt 40 = .ok (.imul, 1) := by decide +kernel
theorem dX9_patternAt_41 : decode cX9_patternAt 41 = .ok (.iconst 2, 1) := by decide +kernel
theorem dX9_patternAt_42 : decode cX9_patternAt 42 = .ok (.iload_n 3, 1) := by decide +kernel
theorem dX9_patternAt_43 : decode cX9_patternAt 43 = .ok (.iconst 1, 1) := by decide +kernel
theorem dX9_patternAt_44 : decode cX9_patternAt 44 = .ok (.isub, 1) := by decide +kernel
theorem dX9_patternAt_45 : decode cX9_patternAt 45 = .ok (.imul, 1) := by decide +kernel
theorem dX9_patternAt_46 : decode cX9_patternAt 46 = .ok (.iadd, 1) := by decide +kernel
theorem dX9_patternAt_47 : decode cX9_patternAt 47 = .ok (.iload_n 2, 1) := by decide +kernel
theorem dX9_patternAt_48 : decode cX9_patternAt 48 = .ok (.iadd, 1) := by decide +kernel
theorem dX9_patternAt_49 : decode cX9_patternAt 49 = .ok (.ireturn, 1) := by decide +kernel
theorem dX9_isPlace_0 : decode cX9_isPlace 0 = .ok (.aload_n 0, 1) := by decide +kernel
theorem dX9_isPlace_1 : decode cX9_isPlace 1 = .ok (.iload_n 1, 1) := by decide +kernel
theorem dX9_isPlace_2 : decode cX9_isPlace 2 = .ok (.iload_n 2, 1) := by decide +kernel
theorem dX9_isPlace_3 : decode cX9_isPlace 3 = .ok (.invokevirtual 76, 3) := by decide +kernel
theorem dX9_isPlace_6 : decode cX9_isPlace 6 = .ok (.istore_n 3, 1) := by decide +kernel
theorem dX9_isPlace_7 : decode cX9_isPlace 7 = .ok (.iload_n 3, 1) := by decide +kernel
theorem dX9_isPlace_8 : decode cX9_isPlace 8 = .ok (.iconst (-1), 1) := by decide +kernel
theorem dX9_isPlace_9 : decode cX9_isPlace 9 = .ok (.if_icmp .eq 19, 3) := by decide +kernel
theorem dX9_isPlace_12 : decode cX9_isPlace 12 = .ok (.aload_n 0, 1) := by decide +kernel
theorem dX9_isPlace_13 : decode cX9_isPlace 13 = .ok (.getfield 7, 3) := by decide +kernel
theorem dX9_isPlace_16 : decode cX9_isPlace 16 = .ok (.bipush 17, 2) := by decide +kernel
theorem dX9_isPlace_18 : decode cX9_isPlace 18 = .ok (.iload_n 3, 1) := by decide +kernel
theorem dX9_isPlace_19 : decode cX9_isPlace 19 = .ok (.iadd, 1) := by decide +kernel
theorem dX9_isPlace_20 : decode cX9_isPlace 20 = .ok (.iaload, 1) := by decide +kernel
theorem dX9_isPlace_21 : decode cX9_isPlace 21 = .ok (.ifCond .eq 7, 3) := by decide +kernel
theorem dX9_isPlace_24 : decode cX9_isPlace 24 = .ok (.iconst 1, 1) := by decide +kernel
theorem dX9_isPlace_25 : decode cX9_isPlace 25 = .ok (.goto 4, 3) := by decide +kernel
theorem dX9_isPlace_28 : decode cX9_isPlace 28 = .ok (.iconst 0, 1) := by decide +kernel
theorem dX9_isPlace_29 : decode cX9_isPlace 29 = .ok (.ireturn, 1) := by decide +kernel
theorem dX9_places_0 : decode cX9_places 0 = .ok (.iconst 0, 1) := by decide +kernel
theorem dX9_places_1 : decode cX9_places 1 = .ok (.istore_n 1, 1) := by decide +kernel
theorem dX9_places_2 : decode cX9_places 2 = .ok (.iconst 0, 1) := by decide +kernel
theorem dX9_places_3 : decode cX9_places 3 = .ok (.istore_n 2, 1) := by decide +kernel
theorem dX9_places_4 : decode cX9_places 4 = .ok (.iload_n 2, 1) := by decide +kernel
theorem dX9_places_5 : decode cX9_places 5 = .ok (.iconst 2, 1) := by decide +kernel
theorem dX9_places_6 : decode cX9_places 6 = .ok (.aload_n 0, 1) := by decide +kernel
theorem dX9_places_7 : decode cX9_places 7 = .ok (.getfield 58, 3) := by decide +kernel
theorem dX9_places_10 : decode cX9_places 10 = .ok (.imul, 1) := by decide +kernel
theorem dX9_places_11 : decode cX9_places 11 = .ok (.if_icmp .ge 30, 3) := by decide +kernel
theorem dX9_places_14 : decode cX9_places 14 = .ok (.iload_n 1, 1) := by decide +kernel
theorem dX9_places_15 : decode cX9_places 15 = .ok (.aload_n 0, 1) := by decide +kernel
theorem dX9_places_16 : decode cX9_places 16 = .ok (.iload_n 2, 1) := by decide +kernel
theorem dX9_places_17 : decode cX9_places 17 = .ok (.iconst 2, 1) := by decide +kernel
theorem dX9_places_18 : decode cX9_places 18 = .ok (.idiv, 1) := by decide +kernel
theorem dX9_places_19 : decode cX9_places 19 = .ok (.iload_n 2, 1) := by decide +kernel
theorem dX9_places_20 : decode cX9_places 20 = .ok (.iconst 2, 1) := by decide +kernel
theorem dX9_places_21 : decode cX9_places 21 = .ok (.irem, 1) := by decide +kernel
theorem dX9_places_22 : decode cX9_places 22 = .ok (.invokevirtual 79, 3) := by decide +kernel
theorem dX9_places_25 : decode cX9_places 25 = .ok (.ifCond .eq 7, 3) := by decide +kernel
theorem dX9_places_28 : decode cX9_places 28 = .ok (.iconst 1, 1) := by decide +kernel
theorem dX9_places_29 : decode cX9_places 29 = .ok (.goto 4, 3) := by decide +kernel
theorem dX9_places_32 : decode cX9_places 32 = .ok (.iconst 0, 1) := by decide +kernel
theorem dX9_places_33 : decode cX9_places 33 = .ok (.iadd, 1) := by decide +kernel
theorem dX9_places_34 : decode cX9_places 34 = .ok (.istore_n 1, 1) := by decide +kernel
theorem dX9_places_35 : decode cX9_places 35 = .ok (.iinc 2 1, 3) := by decide +kernel
theorem dX9_places_38 : decode cX9_places 38 = .ok (.goto (-34), 3) := by decide +kernel
theorem dX9_places_41 : decode cX9_places 41 = .ok (.iload_n 1, 1) := by decide +kernel
theorem dX9_places_42 : decode cX9_places 42 = .ok (.ireturn, 1) := by decide +kernel
theorem dX9_placeAt_0 : decode cX9_placeAt 0 = .ok (.iconst 0, 1) := by decide +kernel
theorem dX9_placeAt_1 : decode cX9_placeAt 1 = .ok (.istore_n 2, 1) := by decide +kernel
theorem dX9_placeAt_2 : decode cX9_placeAt 2 = .ok (.iconst 0, 1) := by decide +kernel
theorem dX9_placeAt_3 : decode cX9_placeAt 3 = .ok (.istore_n 3, 1) := by decide +kernel
theorem dX9_placeAt_4 : decode cX9_placeAt 4 = .ok (.iload_n 3, 1) := by decide +kernel
theorem dX9_placeAt_5 : decode cX9_placeAt 5 = .ok (.iconst 2, 1) := by decide +kernel
theorem dX9_placeAt_6 : decode cX9_placeAt 6 = .ok (.aload_n 0, 1) := by decide +kernel
theorem dX9_placeAt_7 : decode cX9_placeAt 7 = .ok (.getfield 58, 3) := by decide +kernel
theorem dX9_placeAt_10 : decode cX9_placeAt 10 = .ok (.imul, 1) := by decide +kernel
theorem dX9_placeAt_11 : decode cX9_placeAt 11 = .ok (.if_icmp .ge 32, 3) := by decide +kernel
theorem dX9_placeAt_14 : decode cX9_placeAt 14 = .ok (.aload_n 0, 1) := by decide +kernel
theorem dX9_placeAt_15 : decode cX9_placeAt 15 = .ok (.iload_n 3, 1) := by decide +kernel
theorem dX9_placeAt_16 : decode cX9_placeAt 16 = .ok (.iconst 2, 1) := by decide +kernel
theorem dX9_placeAt_17 : decode cX9_placeAt 17 = .ok (.idiv, 1) := by decide +kernel
theorem dX9_placeAt_18 : decode cX9_placeAt 18 = .ok (.iload_n 3, 1) := by decide +kernel
theorem dX9_placeAt_19 : decode cX9_placeAt 19 = .ok (.iconst 2, 1) := by decide +kernel
theorem dX9_placeAt_20 : decode cX9_placeAt 20 = .ok (.irem, 1) := by decide +kernel
theorem dX9_placeAt_21 : decode cX9_placeAt 21 = .ok (.invokevirtual 79, 3) := by decide +kernel
theorem dX9_placeAt_24 : decode cX9_placeAt 24 = .ok (.ifCond .eq 13, 3) := by decide +kernel
theorem dX9_placeAt_27 : decode cX9_placeAt 27 = .ok (.iload_n 2, 1) := by decide +kernel
theorem dX9_placeAt_28 : decode cX9_placeAt 28 = .ok (.iload_n 1, 1) := by decide +kernel
theorem dX9_placeAt_29 : decode cX9_placeAt 29 = .ok (.if_icmp .ne 5, 3) := by decide +kernel
theorem dX9_placeAt_32 : decode cX9_placeAt 32 = .ok (.iload_n 3, 1) := by decide +kernel
theorem dX9_placeAt_33 : decode cX9_placeAt 33 = .ok (.ireturn, 1) := by decide +kernel
theorem dX9_placeAt_34 : decode cX9_placeAt 34 = .ok (.iinc 2 1, 3) := by decide +kernel
theorem dX9_placeAt_37 : decode cX9_placeAt 37 = .ok (.iinc 3 1, 3) := by decide +kernel
theorem dX9_placeAt_40 : decode cX9_placeAt 40 = .ok (.goto (-36), 3) := by decide +kernel
theorem dX9_placeAt_43 : decode cX9_placeAt 43 = .ok (.iconst (-1), 1) := by decide +kernel
theorem dX9_placeAt_44 : decode cX9_placeAt 44 = .ok (.ireturn, 1) := by decide +kernel
theorem dX9_copyOther_0 : decode cX9_copyOther 0 = .ok (.iload_n 1, 1) := by decide +kernel
theorem dX9_copyOther_1 : decode cX9_copyOther 1 = .ok (.istore_n 3, 1) := by decide +kernel
theorem dX9_copyOther_2 : decode cX9_copyOther 2 = .ok (.iload_n 3, 1) := by decide +kernel
theorem dX9_copyOther_3 : decode cX9_copyOther 3 = .ok (.iload_n 2, 1) := by decide +kernel
theorem dX9_copyOther_4 : decode cX9_copyOther 4 = .ok (.if_icmp .ge 34, 3) := by decide +kernel
theorem dX9_copyOther_7 : decode cX9_copyOther 7 = .ok (.aload_n 0, 1) := by decide +kernel
theorem dX9_copyOther_8 : decode cX9_copyOther 8 = .ok (.getfield 32, 3) := by decide +kernel
theorem dX9_copyOther_11 : decode cX9_copyOther 11 = .ok (.aload_n 0, 1) := by decide +kernel
theorem dX9_copyOther_12 : decode cX9_copyOther 12 = .ok (.getfield 83, 3) := by decide +kernel
theorem dX9_copyOther_15 : decode cX9_copyOther 15 = .ok (.aload_n 0, 1) := by decide +kernel
theorem dX9_copyOther_16 : decode cX9_copyOther 16 = .ok (.getfield 29, 3) := by decide +kernel
theorem dX9_copyOther_19 : decode cX9_copyOther 19 = .ok (.iload_n 3, 1) := by decide +kernel
theorem dX9_copyOther_20 : decode cX9_copyOther 20 = .ok (.iaload, 1) := by decide +kernel
theorem dX9_copyOther_21 : decode cX9_copyOther 21 = .ok (.iastore, 1) := by decide +kernel
theorem dX9_copyOther_22 : decode cX9_copyOther 22 = .ok (.aload_n 0, 1) := by decide +kernel
theorem dX9_copyOther_23 : decode cX9_copyOther 23 = .ok (.dup, 1) := by decide +kernel
theorem dX9_copyOther_24 : decode cX9_copyOther 24 = .ok (.getfield 83, 3) := by decide +kernel
theorem dX9_copyOther_27 : decode cX9_copyOther 27 = .ok (.iconst 1, 1) := by decide +kernel
theorem dX9_copyOther_28 : decode cX9_copyOther 28 = .ok (.iadd, 1) := by decide +kernel
theorem dX9_copyOther_29 : decode cX9_copyOther 29 = .ok (.putfield 83, 3) := by decide +kernel
theorem dX9_copyOther_32 : decode cX9_copyOther 32 = .ok (.iinc 3 1, 3) := by decide +kernel
theorem dX9_copyOther_35 : decode cX9_copyOther 35 = .ok (.goto (-33), 3) := by decide +kernel
theorem dX9_copyOther_38 : decode cX9_copyOther 38 = .ok (.return_, 1) := by decide +kernel
theorem dX9_addOther_0 : decode cX9_addOther 0 = .ok (.aload_n 0, 1) := by decide +kernel
theorem dX9_addOther_1 : decode cX9_addOther 1 = .ok (.getfield 32, 3) := by decide +kernel
theorem dX9_addOther_4 : decode cX9_addOther 4 = .ok (.aload_n 0, 1) := by decide +kernel
theorem dX9_addOther_5 : decode cX9_addOther 5 = .ok (.getfield 83, 3) := by decide +kernel
theorem dX9_addOther_8 : decode cX9_addOther 8 = .ok (.iload_n 1, 1) := by decide +kernel
theorem dX9_addOther_9 : decode cX9_addOther 9 = .ok (.iastore, 1) := by decide +kernel
theorem dX9_addOther_10 : decode cX9_addOther 10 = .ok (.aload_n 0, 1) := by decide +kernel
theorem dX9_addOther_11 : decode cX9_addOther 11 = .ok (.dup, 1) := by decide +kernel
theorem dX9_addOther_12 : decode cX9_addOther 12 = .ok (.getfield 83, 3) := by decide +kernel
theorem dX9_addOther_15 : decode cX9_addOther 15 = .ok (.iconst 1, 1) := by decide +kernel
theorem dX9_addOther_16 : decode cX9_addOther 16 = .ok (.iadd, 1) := by decide +kernel
theorem dX9_addOther_17 : decode cX9_addOther 17 = .ok (.putfield 83, 3) := by decide +kernel
theorem dX9_addOther_20 : decode cX9_addOther 20 = .ok (.return_, 1) := by decide +kernel
theorem dX9_takeOther_0 : decode cX9_takeOther 0 = .ok (.aload_n 0, 1) := by decide +kernel
theorem dX9_takeOther_1 : decode cX9_takeOther 1 = .ok (.aload_n 0, 1) := by decide +kernel
theorem dX9_takeOther_2 : decode cX9_takeOther 2 = .ok (.getfield 83, 3) := by decide +kernel
theorem dX9_takeOther_5 : decode cX9_takeOther 5 = .ok (.putfield 58, 3) := by decide +kernel
theorem dX9_takeOther_8 : decode cX9_takeOther 8 = .ok (.iconst 0, 1) := by decide +kernel
theorem dX9_takeOther_9 : decode cX9_takeOther 9 = .ok (.istore_n 1, 1) := by decide +kernel
theorem dX9_takeOther_10 : decode cX9_takeOther 10 = .ok (.iload_n 1, 1) := by decide +kernel
theorem dX9_takeOther_11 : decode cX9_takeOther 11 = .ok (.aload_n 0, 1) := by decide +kernel
theorem dX9_takeOther_12 : decode cX9_takeOther 12 = .ok (.getfield 83, 3) := by decide +kernel
theorem dX9_takeOther_15 : decode cX9_takeOther 15 = .ok (.if_icmp .ge 21, 3) := by decide +kernel
theorem dX9_takeOther_18 : decode cX9_takeOther 18 = .ok (.aload_n 0, 1) := by decide +kernel
theorem dX9_takeOther_19 : decode cX9_takeOther 19 = .ok (.getfield 29, 3) := by decide +kernel
theorem dX9_takeOther_22 : decode cX9_takeOther 22 = .ok (.iload_n 1, 1) := by decide +kernel
theorem dX9_takeOther_23 : decode cX9_takeOther 23 = .ok (.aload_n 0, 1) := by decide +kernel
theorem dX9_takeOther_24 : decode cX9_takeOther 24 = .ok (.getfield 32, 3) := by decide +kernel
theorem dX9_takeOther_27 : decode cX9_takeOther 27 = .ok (.iload_n 1, 1) := by decide +kernel
theorem dX9_takeOther_28 : decode cX9_takeOther 28 = .ok (.iaload, 1) := by decide +kernel
theorem dX9_takeOther_29 : decode cX9_takeOther 29 = .ok (.iastore, 1) := by decide +kernel
theorem dX9_takeOther_30 : decode cX9_takeOther 30 = .ok (.iinc 1 1, 3) := by decide +kernel
theorem dX9_takeOther_33 : decode cX9_takeOther 33 = .ok (.goto (-23), 3) := by decide +kernel
theorem dX9_takeOther_36 : decode cX9_takeOther 36 = .ok (.return_, 1) := by decide +kernel
theorem dX9_stepAt_0 : decode cX9_stepAt 0 = .ok (.iload_n 1, 1) := by decide +kernel
theorem dX9_stepAt_1 : decode cX9_stepAt 1 = .ok (.iconst 2, 1) := by decide +kernel
theorem dX9_stepAt_2 : decode cX9_stepAt 2 = .ok (.idiv, 1) := by decide +kernel
theorem dX9_stepAt_3 : decode cX9_stepAt 3 = .ok (.istore_n 2, 1) := by decide +kernel
theorem dX9_stepAt_4 : decode cX9_stepAt 4 = .ok (.aload_n 0, 1) := by decide +kernel
theorem dX9_stepAt_5 : decode cX9_stepAt 5 = .ok (.iload_n 2, 1) := by decide +kernel
theorem dX9_stepAt_6 : decode cX9_stepAt 6 = .ok (.iload_n 1, 1) := by decide +kernel
theorem dX9_stepAt_7 : decode cX9_stepAt 7 = .ok (.iconst 2, 1) := by decide +kernel
theorem dX9_stepAt_8 : decode cX9_stepAt 8 = .ok (.irem, 1) := by decide +kernel
theorem dX9_stepAt_9 : decode cX9_stepAt 9 = .ok (.invokevirtual 76, 3) := by decide +kernel
theorem dX9_stepAt_12 : decode cX9_stepAt 12 = .ok (.istore_n 3, 1) := by decide +kernel
theorem dX9_stepAt_13 : decode cX9_stepAt 13 = .ok (.aload_n 0, 1) := by decide +kernel
theorem dX9_stepAt_14 : decode cX9_stepAt 14 = .ok (.getfield 7, 3) := by decide +kernel
theorem dX9_stepAt_17 : decode cX9_stepAt 17 = .ok (.bipush 17, 2) := by decide +kernel
theorem dX9_stepAt_19 : decode cX9_stepAt 19 = .ok (.iload_n 3, 1) := by decide +kernel
theorem dX9_stepAt_20 : decode cX9_stepAt 20 = .ok (.iadd, 1) := by decide +kernel
theorem dX9_stepAt_21 : decode cX9_stepAt 21 = .ok (.iaload, 1) := by decide +kernel
theorem dX9_stepAt_22 : decode cX9_stepAt 22 = .ok (.istore 4, 2) := by decide +kernel
theorem dX9_stepAt_24 : decode cX9_stepAt 24 = .ok (.iload 4, 2) := by decide +kernel
theorem dX9_stepAt_26 : decode cX9_stepAt 26 = .ok (.iconst 1, 1) := by decide +kernel
theorem dX9_stepAt_27 : decode cX9_stepAt 27 = .ok (.if_icmp .ne 10, 3) := by decide +kernel
theorem dX9_stepAt_30 : decode cX9_stepAt 30 = .ok (.aload_n 0, 1) := by decide +kernel
theorem dX9_stepAt_31 : decode cX9_stepAt 31 = .ok (.iconst 0, 1) := by decide +kernel
theorem dX9_stepAt_32 : decode cX9_stepAt 32 = .ok (.iconst 0, 1) := by decide +kernel
theorem dX9_stepAt_33 : decode cX9_stepAt 33 = .ok (.invokevirtual 64, 3) := by decide +kernel
theorem dX9_stepAt_36 : decode cX9_stepAt 36 = .ok (.return_, 1) := by decide +kernel
theorem dX9_stepAt_37 : decode cX9_stepAt 37 = .ok (.aload_n 0, 1) := by decide +kernel
theorem dX9_stepAt_38 : decode cX9_stepAt 38 = .ok (.getfield 7, 3) := by decide +kernel
theorem dX9_stepAt_41 : decode cX9_stepAt 41 = .ok (.bipush 25, 2) := by decide +kernel
theorem dX9_stepAt_43 : decode cX9_stepAt 43 = .ok (.iload_n 3, 1) := by decide +kernel
theorem dX9_stepAt_44 : decode cX9_stepAt 44 = .ok (.iadd, 1) := by decide +kernel
theorem dX9_stepAt_45 : decode cX9_stepAt 45 = .ok (.iaload, 1) := by decide +kernel
theorem dX9_stepAt_46 : decode cX9_stepAt 46 = .ok (.istore 5, 2) := by decide +kernel
theorem dX9_stepAt_48 : decode cX9_stepAt 48 = .ok (.aload_n 0, 1) := by decide +kernel
theorem dX9_stepAt_49 : decode cX9_stepAt 49 = .ok (.iload_n 2, 1) := by decide +kernel
theorem dX9_stepAt_50 : decode cX9_stepAt 50 = .ok (.invokevirtual 68, 3) := by decide +kernel
theorem dX9_stepAt_53 : decode cX9_stepAt 53 = .ok (.istore 6, 2) := by decide +kernel
theorem dX9_stepAt_55 : decode cX9_stepAt 55 = .ok (.aload_n 0, 1) := by decide +kernel
theorem dX9_stepAt_56 : decode cX9_stepAt 56 = .ok (.iload_n 2, 1) := by decide +kernel
theorem dX9_stepAt_57 : decode cX9_stepAt 57 = .ok (.iconst 1, 1) := by decide +kernel
theorem dX9_stepAt_58 : decode cX9_stepAt 58 = .ok (.invokevirtual 72, 3) := by decide +kernel
theorem dX9_stepAt_61 : decode cX9_stepAt 61 = .ok (.istore 7, 2) := by decide +kernel
theorem dX9_stepAt_63 : decode cX9_stepAt 63 = .ok (.iload_n 1, 1) := by decide +kernel
theorem dX9_stepAt_64 : decode cX9_stepAt 64 = .ok (.iconst 2, 1) := by decide +kernel
theorem dX9_stepAt_65 : decode cX9_stepAt 65 = .ok (.irem, 1) := by decide +kernel
theorem dX9_stepAt_66 : decode cX9_stepAt 66 = .ok (.ifCond .ne 9, 3) := by decide +kernel
theorem dX9_stepAt_69 : decode cX9_stepAt 69 = .ok (.iload_n 2, 1) := by decide +kernel
theorem dX9_stepAt_70 : decode cX9_stepAt 70 = .ok (.iconst 2, 1) := by decide +kernel
theorem dX9_stepAt_71 : decode cX9_stepAt 71 = .ok (.iadd, 1) := by decide +kernel
theorem dX9_stepAt_72 : decode cX9_stepAt 72 = .ok (.goto 6, 3) := by decide +kernel
theorem dX9_stepAt_75 : decode cX9_stepAt 75 = .ok (.iload_n 2, 1) := by decide +kernel
theorem dX9_stepAt_76 : decode cX9_stepAt 76 = .ok (.iconst 1, 1) := by decide +kernel
theorem dX9_stepAt_77 : decode cX9_stepAt 77 = .ok (.iadd, 1) := by decide +kernel
theorem dX9_stepAt_78 : decode cX9_stepAt 78 = .ok (.istore 8, 2) := by decide +kernel
theorem dX9_stepAt_80 : decode cX9_stepAt 80 = .ok (.iload_n 1, 1) := by decide +kernel
theorem dX9_stepAt_81 : decode cX9_stepAt 81 = .ok (.iconst 2, 1) := by decide +kernel
theorem dX9_stepAt_82 : decode cX9_stepAt 82 = .ok (.irem, 1) := by decide +kernel
theorem dX9_stepAt_83 : decode cX9_stepAt 83 = .ok (.ifCond .ne 13, 3) := by decide +kernel
theorem dX9_stepAt_86 : decode cX9_stepAt 86 = .ok (.aload_n 0, 1) := by decide +kernel
theorem dX9_stepAt_87 : decode cX9_stepAt 87 = .ok (.iload_n 2, 1) := by decide +kernel
theorem dX9_stepAt_88 : decode cX9_stepAt 88 = .ok (.iconst 2, 1) := by decide +kernel
theorem dX9_stepAt_89 : decode cX9_stepAt 89 = .ok (.iadd, 1) := by decide +kernel
theorem dX9_stepAt_90 : decode cX9_stepAt 90 = .ok (.invokevirtual 68, 3) := by decide +kernel
theorem dX9_stepAt_93 : decode cX9_stepAt 93 = .ok (.goto 7, 3) := by decide +kernel
theorem dX9_stepAt_96 : decode cX9_stepAt 96 = .ok (.iload 7, 2) := by decide +kernel
theorem dX9_stepAt_98 : decode cX9_stepAt 98 = .ok (.iconst 1, 1) := by decide +kernel
theorem dX9_stepAt_99 : decode cX9_stepAt 99 = .ok (.iadd, 1) := by decide +kernel
theorem dX9_stepAt_100 : decode cX9_stepAt 100 = .ok (.istore 9, 2) := by decide +kernel
theorem dX9_stepAt_102 : decode cX9_stepAt 102 = .ok (.iload_n 1, 1) := by decide +kernel
theorem dX9_stepAt_103 : decode cX9_stepAt 103 = .ok (.iconst 2, 1) := by decide +kernel
theorem dX9_stepAt_104 : decode cX9_stepAt 104 = .ok (.irem, 1) := by decide +kernel
theorem dX9_stepAt_105 : decode cX9_stepAt 105 = .ok (.ifCond .ne 8, 3) := by decide +kernel
theorem dX9_stepAt_108 : decode cX9_stepAt 108 = .ok (.iload 7, 2) := by decide +kernel
theorem dX9_stepAt_110 : decode cX9_stepAt 110 = .ok (.goto 11, 3) := by decide +kernel
theorem dX9_stepAt_113 : decode cX9_stepAt 113 = .ok (.aload_n 0, 1) := by decide +kernel
theorem dX9_stepAt_114 : decode cX9_stepAt 114 = .ok (.iload 7, 2) := by decide +kernel
theorem dX9_stepAt_116 : decode cX9_stepAt 116 = .ok (.iconst 1, 1) := by decide +kernel
theorem dX9_stepAt_117 : decode cX9_stepAt 117 = .ok (.iadd, 1) := by decide +kernel
theorem dX9_stepAt_118 : decode cX9_stepAt 118 = .ok (.invokevirtual 68, 3) := by decide +kernel
theorem dX9_stepAt_121 : decode cX9_stepAt 121 = .ok (.istore 10, 2) := by decide +kernel
theorem dX9_stepAt_123 : decode cX9_stepAt 123 = .ok (.iload_n 1, 1) := by decide +kernel
theorem dX9_stepAt_124 : decode cX9_stepAt 124 = .ok (.iconst 2, 1) := by decide +kernel
theorem dX9_stepAt_125 : decode cX9_stepAt 125 = .ok (.irem, 1) := by decide +kernel
theorem dX9_stepAt_126 : decode cX9_stepAt 126 = .ok (.ifCond .ne 8, 3) := by decide +kernel
theorem dX9_stepAt_129 : decode cX9_stepAt 129 = .ok (.iload 9, 2) := by decide +kernel
theorem dX9_stepAt_131 : decode cX9_stepAt 131 = .ok (.goto 5, 3) := by decide +kernel
theorem dX9_stepAt_134 : decode cX9_stepAt 134 = .ok (.iload 7, 2) := by decide +kernel
theorem dX9_stepAt_136 : decode cX9_stepAt 136 = .ok (.istore 11, 2) := by decide +kernel
theorem dX9_stepAt_138 : decode cX9_stepAt 138 = .ok (.aload_n 0, 1) := by decide +kernel
theorem dX9_stepAt_139 : decode cX9_stepAt 139 = .ok (.iconst 0, 1) := by decide +kernel
theorem dX9_stepAt_140 : decode cX9_stepAt 140 = .ok (.putfield 83, 3) := by decide +kernel
theorem dX9_stepAt_143 : decode cX9_stepAt 143 = .ok (.aload_n 0, 1) := by decide +kernel
theorem dX9_stepAt_144 : decode cX9_stepAt 144 = .ok (.iconst 0, 1) := by decide +kernel
theorem dX9_stepAt_145 : decode cX9_stepAt 145 = .ok (.iload_n 2, 1) := by decide +kernel
theorem dX9_stepAt_146 : decode cX9_stepAt 146 = .ok (.invokevirtual 86, 3) := by decide +kernel
theorem dX9_stepAt_149 : decode cX9_stepAt 149 = .ok (.aload_n 0, 1) := by decide +kernel
theorem dX9_stepAt_150 : decode cX9_stepAt 150 = .ok (.iconst 1, 1) := by decide +kernel
theorem dX9_stepAt_151 : decode cX9_stepAt 151 = .ok (.iload 5, 2) := by decide +kernel
theorem dX9_stepAt_153 : decode cX9_stepAt 153 = .ok (.iconst 4, 1) := by decide +kernel
theorem dX9_stepAt_154 : decode cX9_stepAt 154 = .ok (.idiv, 1) := by decide +kernel
theorem dX9_stepAt_155 : decode cX9_stepAt 155 = .ok (.iadd, 1) := by decide +kernel
theorem dX9_stepAt_156 : decode cX9_stepAt 156 = .ok (.invokevirtual 89, 3) := by decide +kernel
theorem dX9_stepAt_159 : decode cX9_stepAt 159 = .ok (.iload 5, 2) := by decide +kernel
theorem dX9_stepAt_161 : decode cX9_stepAt 161 = .ok (.iconst 2, 1) := by decide +kernel
theorem dX9_stepAt_162 : decode cX9_stepAt 162 = .ok (.irem, 1) := by decide +kernel
theorem dX9_stepAt_163 : decode cX9_stepAt 163 = .ok (.ifCond .ne 15, 3) := by decide +kernel
theorem dX9_stepAt_166 : decode cX9_stepAt 166 = .ok (.aload_n 0, 1) := by decide +kernel
theorem dX9_stepAt_167 : decode cX9_stepAt 167 = .ok (.iconst 1, 1) := by decide +kernel
theorem dX9_stepAt_168 : decode cX9_stepAt 168 = .ok (.iload 5, 2) := by decide +kernel
theorem dX9_stepAt_170 : decode cX9_stepAt 170 = .ok (.iconst 2, 1) := by decide +kernel
theorem dX9_stepAt_171 : decode cX9_stepAt 171 = .ok (.idiv, 1) := by decide +kernel
theorem dX9_stepAt_172 : decode cX9_stepAt 172 = .ok (.iconst 2, 1) := by decide +kernel
theorem dX9_stepAt_173 : decode cX9_stepAt 173 = .ok (.irem, 1) := by decide +kernel
theorem dX9_stepAt_174 : decode cX9_stepAt 174 = .ok (.iadd, 1) := by decide +kernel
theorem dX9_stepAt_175 : decode cX9_stepAt 175 = .ok (.invokevirtual 89, 3) := by decide +kernel
theorem dX9_stepAt_178 : decode cX9_stepAt 178 = .ok (.aload_n 0, 1) := by decide +kernel
theorem dX9_stepAt_179 : decode cX9_stepAt 179 = .ok (.iload 8, 2) := by decide +kernel
theorem dX9_stepAt_181 : decode cX9_stepAt 181 = .ok (.iload 11, 2) := by decide +kernel
theorem dX9_stepAt_183 : decode cX9_stepAt 183 = .ok (.invokevirtual 86, 3) := by decide +kernel
theorem dX9_stepAt_186 : decode cX9_stepAt 186 = .ok (.iload 5, 2) := by decide +kernel
theorem dX9_stepAt_188 : decode cX9_stepAt 188 = .ok (.iconst 2, 1) := by decide +kernel
theorem dX9_stepAt_189 : decode cX9_stepAt 189 = .ok (.irem, 1) := by decide +kernel
theorem dX9_stepAt_190 : decode cX9_stepAt 190 = .ok (.iconst 1, 1) := by decide +kernel
theorem dX9_stepAt_191 : decode cX9_stepAt 191 = .ok (.if_icmp .ne 15, 3) := by decide +kernel
theorem dX9_stepAt_194 : decode cX9_stepAt 194 = .ok (.aload_n 0, 1) := by decide +kernel
theorem dX9_stepAt_195 : decode cX9_stepAt 195 = .ok (.iconst 1, 1) := by decide +kernel
theorem dX9_stepAt_196 : decode cX9_stepAt 196 = .ok (.iload 5, 2) := by decide +kernel
theorem dX9_stepAt_198 : decode cX9_stepAt 198 = .ok (.iconst 2, 1) := by decide +kernel
theorem dX9_stepAt_199 : decode cX9_stepAt 199 = .ok (.idiv, 1) := by decide +kernel
theorem dX9_stepAt_200 : decode cX9_stepAt 200 = .ok (.iconst 2, 1) := by decide +kernel
theorem dX9_stepAt_201 : decode cX9_stepAt 201 = .ok (.irem, 1) := by decide +kernel
theorem dX9_stepAt_202 : decode cX9_stepAt 202 = .ok (.iadd, 1) := by decide +kernel
theorem dX9_stepAt_203 : decode cX9_stepAt 203 = .ok (.invokevirtual 89, 3) := by decide +kernel
theorem dX9_stepAt_206 : decode cX9_stepAt 206 = .ok (.aload_n 0, 1) := by decide +kernel
theorem dX9_stepAt_207 : decode cX9_stepAt 207 = .ok (.iload 9, 2) := by decide +kernel
theorem dX9_stepAt_209 : decode cX9_stepAt 209 = .ok (.iload 10, 2) := by decide +kernel
theorem dX9_stepAt_211 : decode cX9_stepAt 211 = .ok (.invokevirtual 86, 3) := by decide +kernel
theorem dX9_stepAt_214 : decode cX9_stepAt 214 = .ok (.aload_n 0, 1) := by decide +kernel
theorem dX9_stepAt_215 : decode cX9_stepAt 215 = .ok (.iload 10, 2) := by decide +kernel
theorem dX9_stepAt_217 : decode cX9_stepAt 217 = .ok (.iload 6, 2) := by decide +kernel
theorem dX9_stepAt_219 : decode cX9_stepAt 219 = .ok (.invokevirtual 86, 3) := by decide +kernel
theorem dX9_stepAt_222 : decode cX9_stepAt 222 = .ok (.aload_n 0, 1) := by decide +kernel
theorem dX9_stepAt_223 : decode cX9_stepAt 223 = .ok (.iload 6, 2) := by decide +kernel
theorem dX9_stepAt_225 : decode cX9_stepAt 225 = .ok (.aload_n 0, 1) := by decide +kernel
theorem dX9_stepAt_226 : decode cX9_stepAt 226 = .ok (.getfield 58, 3) := by decide +kernel
theorem dX9_stepAt_229 : decode cX9_stepAt 229 = .ok (.invokevirtual 86, 3) := by decide +kernel
theorem dX9_stepAt_232 : decode cX9_stepAt 232 = .ok (.aload_n 0, 1) := by decide +kernel
theorem dX9_stepAt_233 : decode cX9_stepAt 233 = .ok (.invokevirtual 93, 3) := by decide +kernel
theorem dX9_stepAt_236 : decode cX9_stepAt 236 = .ok (.aload_n 0, 1) := by decide +kernel
theorem dX9_stepAt_237 : decode cX9_stepAt 237 = .ok (.iload 4, 2) := by decide +kernel
theorem dX9_stepAt_239 : decode cX9_stepAt 239 = .ok (.iconst 3, 1) := by decide +kernel
theorem dX9_stepAt_240 : decode cX9_stepAt 240 = .ok (.if_icmp .ne 11, 3) := by decide +kernel
theorem dX9_stepAt_243 : decode cX9_stepAt 243 = .ok (.aload_n 0, 1) := by decide +kernel
theorem dX9_stepAt_244 : decode cX9_stepAt 244 = .ok (.getfield 61, 3) := by decide +kernel
theorem dX9_stepAt_247 : decode cX9_stepAt 247 = .ok (.ineg, 1) := by decide +kernel
theorem dX9_stepAt_248 : decode cX9_stepAt 248 = .ok (.goto 7, 3) := by decide +kernel
theorem dX9_stepAt_251 : decode cX9_stepAt 251 = .ok (.aload_n 0, 1) := by decide +kernel
theorem dX9_stepAt_252 : decode cX9_stepAt 252 = .ok (.getfield 61, 3) := by decide +kernel
theorem dX9_stepAt_255 : decode cX9_stepAt 255 = .ok (.putfield 61, 3) := by decide +kernel
theorem dX9_stepAt_258 : decode cX9_stepAt 258 = .ok (.return_, 1) := by decide +kernel
theorem dX9_makePlain_0 : decode cX9_makePlain 0 = .ok (.iconst 0, 1) := by decide +kernel
theorem dX9_makePlain_1 : decode cX9_makePlain 1 = .ok (.istore_n 1, 1) := by decide +kernel
theorem dX9_makePlain_2 : decode cX9_makePlain 2 = .ok (.iload_n 1, 1) := by decide +kernel
theorem dX9_makePlain_3 : decode cX9_makePlain 3 = .ok (.bipush 60, 2) := by decide +kernel
theorem dX9_makePlain_5 : decode cX9_makePlain 5 = .ok (.if_icmp .gt 33, 3) := by decide +kernel
theorem dX9_makePlain_8 : decode cX9_makePlain 8 = .ok (.aload_n 0, 1) := by decide +kernel
theorem dX9_makePlain_9 : decode cX9_makePlain 9 = .ok (.iconst 0, 1) := by decide +kernel
theorem dX9_makePlain_10 : decode cX9_makePlain 10 = .ok (.invokevirtual 96, 3) := by decide +kernel
theorem dX9_makePlain_13 : decode cX9_makePlain 13 = .ok (.istore_n 2, 1) := by decide +kernel
theorem dX9_makePlain_14 : decode cX9_makePlain 14 = .ok (.iload_n 2, 1) := by decide +kernel
theorem dX9_makePlain_15 : decode cX9_makePlain 15 = .ok (.iconst (-1), 1) := by decide +kernel
theorem dX9_makePlain_16 : decode cX9_makePlain 16 = .ok (.if_icmp .ne 5, 3) := by decide +kernel
theorem dX9_makePlain_19 : decode cX9_makePlain 19 = .ok (.iload_n 1, 1) := by decide +kernel
theorem dX9_makePlain_20 : decode cX9_makePlain 20 = .ok (.ireturn, 1) := by decide +kernel
theorem dX9_makePlain_21 : decode cX9_makePlain 21 = .ok (.iload_n 1, 1) := by decide +kernel
theorem dX9_makePlain_22 : decode cX9_makePlain 22 = .ok (.bipush 60, 2) := by decide +kernel
theorem dX9_makePlain_24 : decode cX9_makePlain 24 = .ok (.if_icmp .ge 8, 3) := by decide +kernel
theorem dX9_makePlain_27 : decode cX9_makePlain 27 = .ok (.aload_n 0, 1) := by decide +kernel
theorem dX9_makePlain_28 : decode cX9_makePlain 28 = .ok (.iload_n 2, 1) := by decide +kernel
theorem dX9_makePlain_29 : decode cX9_makePlain 29 = .ok (.invokevirtual 99, 3) := by decide +kernel
theorem dX9_makePlain_32 : decode cX9_makePlain 32 = .ok (.iinc 1 1, 3) := by decide +kernel
theorem dX9_makePlain_35 : decode cX9_makePlain 35 = .ok (.goto (-33), 3) := by decide +kernel
theorem dX9_makePlain_38 : decode cX9_makePlain 38 = .ok (.iconst (-1), 1) := by decide +kernel
theorem dX9_makePlain_39 : decode cX9_makePlain 39 = .ok (.ireturn, 1) := by decide +kernel
theorem dX9_turn_0 : decode cX9_turn 0 = .ok (.iconst 1, 1) := by decide +kernel
theorem dX9_turn_1 : decode cX9_turn 1 = .ok (.istore_n 1, 1) := by decide +kernel
theorem dX9_turn_2 : decode cX9_turn 2 = .ok (.aload_n 0, 1) := by decide +kernel
theorem dX9_turn_3 : decode cX9_turn 3 = .ok (.getfield 35, 3) := by decide +kernel
theorem dX9_turn_6 : decode cX9_turn 6 = .ok (.iconst 0, 1) := by decide +kernel
theorem dX9_turn_7 : decode cX9_turn 7 = .ok (.iconst 0, 1) := by decide +kernel
theorem dX9_turn_8 : decode cX9_turn 8 = .ok (.iastore, 1) := by decide +kernel
theorem dX9_turn_9 : decode cX9_turn 9 = .ok (.aload_n 0, 1) := by decide +kernel
theorem dX9_turn_10 : decode cX9_turn 10 = .ok (.iconst 0, 1) := by decide +kernel
theorem dX9_turn_11 : decode cX9_turn 11 = .ok (.putfield 83, 3) := by decide +kernel
theorem dX9_turn_14 : decode cX9_turn 14 = .ok (.iload_n 1, 1) := by decide +kernel
theorem dX9_turn_15 : decode cX9_turn 15 = .ok (.ifCond .le 62, 3) := by decide +kernel
theorem dX9_turn_18 : decode cX9_turn 18 = .ok (.iinc 1 (-1), 3) := by decide +kernel
theorem dX9_turn_21 : decode cX9_turn 21 = .ok (.aload_n 0, 1) := by decide +kernel
theorem dX9_turn_22 : decode cX9_turn 22 = .ok (.getfield 35, 3) := by decide +kernel
theorem dX9_turn_25 : decode cX9_turn 25 = .ok (.iload_n 1, 1) := by decide +kernel
theorem dX9_turn_26 : decode cX9_turn 26 = .ok (.iaload, 1) := by decide +kernel
theorem dX9_turn_27 : decode cX9_turn 27 = .ok (.istore_n 2, 1) := by decide +kernel
theorem dX9_turn_28 : decode cX9_turn 28 = .ok (.aload_n 0, 1) := by decide +kernel
theorem dX9_turn_29 : decode cX9_turn 29 = .ok (.aload_n 0, 1) := by decide +kernel
theorem dX9_turn_30 : decode cX9_turn 30 = .ok (.getfield 29, 3) := by decide +kernel
theorem dX9_turn_33 : decode cX9_turn 33 = .ok (.iload_n 2, 1) := by decide +kernel
theorem dX9_turn_34 : decode cX9_turn 34 = .ok (.iaload, 1) := by decide +kernel
theorem dX9_turn_35 : decode cX9_turn 35 = .ok (.invokevirtual 89, 3) := by decide +kernel
theorem dX9_turn_38 : decode cX9_turn 38 = .ok (.aload_n 0, 1) := by decide +kernel
theorem dX9_turn_39 : decode cX9_turn 39 = .ok (.getfield 29, 3) := by decide +kernel
theorem dX9_turn_42 : decode cX9_turn 42 = .ok (.iload_n 2, 1) := by decide +kernel
theorem dX9_turn_43 : decode cX9_turn 43 = .ok (.iaload, 1) := by decide +kernel
theorem dX9_turn_44 : decode cX9_turn 44 = .ok (.ifCond .eq 30, 3) := by decide +kernel
theorem dX9_turn_47 : decode cX9_turn 47 = .ok (.aload_n 0, 1) := by decide +kernel
theorem dX9_turn_48 : decode cX9_turn 48 = .ok (.getfield 35, 3) := by decide +kernel
theorem dX9_turn_51 : decode cX9_turn 51 = .ok (.iload_n 1, 1) := by decide +kernel
theorem dX9_turn_52 : decode cX9_turn 52 = .ok (.iload_n 2, 1) := by decide +kernel
theorem dX9_turn_53 : decode cX9_turn 53 = .ok (.iconst 1, 1) := by decide +kernel
theorem dX9_turn_54 : decode cX9_turn 54 = .ok (.iadd, 1) := by decide +kernel
theorem dX9_turn_55 : decode cX9_turn 55 = .ok (.iastore, 1) := by decide +kernel
theorem dX9_turn_56 : decode cX9_turn 56 = .ok (.aload_n 0, 1) := by decide +kernel
theorem dX9_turn_57 : decode cX9_turn 57 = .ok (.getfield 35, 3) := by decide +kernel
theorem dX9_turn_60 : decode cX9_turn 60 = .ok (.iload_n 1, 1) := by decide +kernel
theorem dX9_turn_61 : decode cX9_turn 61 = .ok (.iconst 1, 1) := by decide +kernel
theorem dX9_turn_62 : decode cX9_turn 62 = .ok (.iadd, 1) := by decide +kernel
theorem dX9_turn_63 : decode cX9_turn 63 = .ok (.aload_n 0, 1) := by decide +kernel
theorem dX9_turn_64 : decode cX9_turn 64 = .ok (.iload_n 2, 1) := by decide +kernel
theorem dX9_turn_65 : decode cX9_turn 65 = .ok (.iconst 1, 1) := by decide +kernel
theorem dX9_turn_66 : decode cX9_turn 66 = .ok (.iadd, 1) := by decide +kernel
theorem dX9_turn_67 : decode cX9_turn 67 = .ok (.invokevirtual 68, 3) := by decide +kernel
theorem dX9_turn_70 : decode cX9_turn 70 = .ok (.iastore, 1) := by decide +kernel
theorem dX9_turn_71 : decode cX9_turn 71 = .ok (.iinc 1 2, 3) := by decide +kernel
theorem dX9_turn_74 : decode cX9_turn 74 = .ok (.goto (-60), 3) := by decide +kernel
theorem dX9_turn_77 : decode cX9_turn 77 = .ok (.aload_n 0, 1) := by decide +kernel
theorem dX9_turn_78 : decode cX9_turn 78 = .ok (.invokevirtual 93, 3) := by decide +kernel
theorem dX9_turn_81 : decode cX9_turn 81 = .ok (.return_, 1) := by decide +kernel
theorem dX9_height_0 : decode cX9_height 0 = .ok (.iconst 0, 1) := by decide +kernel
theorem dX9_height_1 : decode cX9_height 1 = .ok (.istore_n 1, 1) := by decide +kernel
theorem dX9_height_2 : decode cX9_height 2 = .ok (.iconst 0, 1) := by decide +kernel
theorem dX9_height_3 : decode cX9_height 3 = .ok (.istore_n 2, 1) := by decide +kernel
theorem dX9_height_4 : decode cX9_height 4 = .ok (.iload_n 2, 1) := by decide +kernel
theorem dX9_height_5 : decode cX9_height 5 = .ok (.aload_n 0, 1) := by decide +kernel
theorem dX9_height_6 : decode cX9_height 6 = .ok (.getfield 58, 3) := by decide +kernel
theorem dX9_height_9 : decode cX9_height 9 = .ok (.if_icmp .ge 74, 3) := by decide +kernel
theorem dX9_height_12 : decode cX9_height 12 = .ok (.iconst 0, 1) := by decide +kernel
theorem dX9_height_13 : decode cX9_height 13 = .ok (.istore_n 3, 1) := by decide +kernel
theorem dX9_height_14 : decode cX9_height 14 = .ok (.iconst 0, 1) := by decide +kernel
theorem dX9_height_15 : decode cX9_height 15 = .ok (.istore 4, 2) := by decide +kernel
theorem dX9_height_17 : decode cX9_height 17 = .ok (.iload 4, 2) := by decide +kernel
theorem dX9_height_19 : decode cX9_height 19 = .ok (.iload_n 2, 1) := by decide +kernel
theorem dX9_height_20 : decode cX9_height 20 = .ok (.if_icmp .gt 46, 3) := by decide +kernel
theorem dX9_height_23 : decode cX9_height 23 = .ok (.aload_n 0, 1) := by decide +kernel
theorem dX9_height_24 : decode cX9_height 24 = .ok (.getfield 29, 3) := by decide +kernel
theorem dX9_height_27 : decode cX9_height 27 = .ok (.iload_n 2, 1) := by decide +kernel
theorem dX9_height_28 : decode cX9_height 28 = .ok (.iaload, 1) := by decide +kernel
theorem dX9_height_29 : decode cX9_height 29 = .ok (.ifCond .eq 37, 3) := by decide +kernel
theorem dX9_height_32 : decode cX9_height 32 = .ok (.iload_n 3, 1) := by decide +kernel
theorem dX9_height_33 : decode cX9_height 33 = .ok (.aload_n 0, 1) := by decide +kernel
theorem dX9_height_34 : decode cX9_height 34 = .ok (.getfield 29, 3) := by decide +kernel
theorem dX9_height_37 : decode cX9_height 37 = .ok (.iload 4, 2) := by decide +kernel
theorem dX9_height_39 : decode cX9_height 39 = .ok (.iaload, 1) := by decide +kernel
theorem dX9_height_40 : decode cX9_height 40 = .ok (.ifCond .eq 17, 3) := by decide +kernel
theorem dX9_height_43 : decode cX9_height 43 = .ok (.aload_n 0, 1) := by decide +kernel
theorem dX9_height_44 : decode cX9_height 44 = .ok (.iload 4, 2) := by decide +kernel
theorem dX9_height_46 : decode cX9_height 46 = .ok (.invokevirtual 68, 3) := by decide +kernel
theorem dX9_height_49 : decode cX9_height 49 = .ok (.iload_n 2, 1) := by decide +kernel
theorem dX9_height_50 : decode cX9_height 50 = .ok (.if_icmp .le 7, 3) := by decide +kernel
theorem dX9_height_53 : decode cX9_height 53 = .ok (.iconst 1, 1) := by decide +kernel
theorem dX9_height_54 : decode cX9_height 54 = .ok (.goto 4, 3) := by decide +kernel
theorem dX9_height_57 : decode cX9_height 57 = .ok (.iconst 0, 1) := by decide +kernel
theorem dX9_height_58 : decode cX9_height 58 = .ok (.iadd, 1) := by decide +kernel
theorem dX9_height_59 : decode cX9_height 59 = .ok (.istore_n 3, 1) := by decide +kernel
theorem dX9_height_60 : decode cX9_height 60 = .ok (.iinc 4 1, 3) := by decide +kernel
theorem dX9_height_63 : decode cX9_height 63 = .ok (.goto (-46), 3) := by decide +kernel
theorem dX9_height_66 : decode cX9_height 66 = .ok (.iload_n 3, 1) := by decide +kernel
theorem dX9_height_67 : decode cX9_height 67 = .ok (.iload_n 1, 1) := by decide +kernel
theorem dX9_height_68 : decode cX9_height 68 = .ok (.if_icmp .le 7, 3) := by decide +kernel
theorem dX9_height_71 : decode cX9_height 71 = .ok (.iload_n 3, 1) := by decide +kernel
theorem dX9_height_72 : decode cX9_height 72 = .ok (.goto 4, 3) := by decide +kernel
theorem dX9_height_75 : decode cX9_height 75 = .ok (.iload_n 1, 1) := by decide +kernel
theorem dX9_height_76 : decode cX9_height 76 = .ok (.istore_n 1, 1) := by decide +kernel
theorem dX9_height_77 : decode cX9_height 77 = .ok (.iinc 2 1, 3) := by decide +kernel
theorem dX9_height_80 : decode cX9_height 80 = .ok (.goto (-76), 3) := by decide +kernel
theorem dX9_height_83 : decode cX9_height 83 = .ok (.iload_n 1, 1) := by decide +kernel
theorem dX9_height_84 : decode cX9_height 84 = .ok (.ireturn, 1) := by decide +kernel
theorem dX9_leafAt_0 : decode cX9_leafAt 0 = .ok (.iconst 0, 1) := by decide +kernel
theorem dX9_leafAt_1 : decode cX9_leafAt 1 = .ok (.istore_n 2, 1) := by decide +kernel
theorem dX9_leafAt_2 : decode cX9_leafAt 2 = .ok (.iconst 0, 1) := by decide +kernel
theorem dX9_leafAt_3 : decode cX9_leafAt 3 = .ok (.istore_n 3, 1) := by decide +kernel
theorem dX9_leafAt_4 : decode cX9_leafAt 4 = .ok (.iload_n 3, 1) := by decide +kernel
theorem dX9_leafAt_5 : decode cX9_leafAt 5 = .ok (.aload_n 0, 1) := by decide +kernel
theorem dX9_leafAt_6 : decode cX9_leafAt 6 = .ok (.getfield 58, 3) := by decide +kernel
theorem dX9_leafAt_9 : decode cX9_leafAt 9 = .ok (.if_icmp .ge 28, 3) := by decide +kernel
theorem dX9_leafAt_12 : decode cX9_leafAt 12 = .ok (.aload_n 0, 1) := by decide +kernel
theorem dX9_leafAt_13 : decode cX9_leafAt 13 = .ok (.getfield 29, 3) := by decide +kernel
theorem dX9_leafAt_16 : decode cX9_leafAt 16 = .ok (.iload_n 3, 1) := by decide +kernel
theorem dX9_leafAt_17 : decode cX9_leafAt 17 = .ok (.iaload, 1) := by decide +kernel
theorem dX9_leafAt_18 : decode cX9_leafAt 18 = .ok (.ifCond .ne 13, 3) := by decide +kernel
theorem dX9_leafAt_21 : decode cX9_leafAt 21 = .ok (.iload_n 2, 1) := by decide +kernel
theorem dX9_leafAt_22 : decode cX9_leafAt 22 = .ok (.iload_n 1, 1) := by decide +kernel
theorem dX9_leafAt_23 : decode cX9_leafAt 23 = .ok (.if_icmp .ne 5, 3) := by decide +kernel
theorem dX9_leafAt_26 : decode cX9_leafAt 26 = .ok (.iload_n 3, 1) := by decide +kernel
theorem dX9_leafAt_27 : decode cX9_leafAt 27 = .ok (.ireturn, 1) := by decide +kernel
theorem dX9_leafAt_28 : decode cX9_leafAt 28 = .ok (.iinc 2 1, 3) := by decide +kernel
theorem dX9_leafAt_31 : decode cX9_leafAt 31 = .ok (.iinc 3 1, 3) := by decide +kernel
theorem dX9_leafAt_34 : decode cX9_leafAt 34 = .ok (.goto (-30), 3) := by decide +kernel
theorem dX9_leafAt_37 : decode cX9_leafAt 37 = .ok (.iconst (-1), 1) := by decide +kernel
theorem dX9_leafAt_38 : decode cX9_leafAt 38 = .ok (.ireturn, 1) := by decide +kernel
theorem dX9_isTreeWord_0 : decode cX9_isTreeWord 0 = .ok (.iconst 1, 1) := by decide +kernel
theorem dX9_isTreeWord_1 : decode cX9_isTreeWord 1 = .ok (.istore_n 1, 1) := by decide +kernel
theorem dX9_isTreeWord_2 : decode cX9_isTreeWord 2 = .ok (.iconst 0, 1) := by decide +kernel
theorem dX9_isTreeWord_3 : decode cX9_isTreeWord 3 = .ok (.istore_n 2, 1) := by decide +kernel
theorem dX9_isTreeWord_4 : decode cX9_isTreeWord 4 = .ok (.iload_n 2, 1) := by decide +kernel
theorem dX9_isTreeWord_5 : decode cX9_isTreeWord 5 = .ok (.aload_n 0, 1) := by decide +kernel
theorem dX9_isTreeWord_6 : decode cX9_isTreeWord 6 = .ok (.getfield 58, 3) := by decide +kernel
theorem dX9_isTreeWord_9 : decode cX9_isTreeWord 9 = .ok (.if_icmp .ge 32, 3) := by decide +kernel
theorem dX9_isTreeWord_12 : decode cX9_isTreeWord 12 = .ok (.iload_n 1, 1) := by decide +kernel
theorem dX9_isTreeWord_13 : decode cX9_isTreeWord 13 = .ok (.ifCond .ne 5, 3) := by decide +kernel
theorem dX9_isTreeWord_16 : decode cX9_isTreeWord 16 = .ok (.iconst 0, 1) := by decide +kernel
theorem dX9_isTreeWord_17 : decode cX9_isTreeWord 17 = .ok (.ireturn, 1) := by decide +kernel
theorem dX9_isTreeWord_18 : decode cX9_isTreeWord 18 = .ok (.iload_n 1, 1) := by decide +kernel
theorem dX9_isTreeWord_19 : decode cX9_isTreeWord 19 = .ok (.aload_n 0, 1) := by decide +kernel
theorem dX9_isTreeWord_20 : decode cX9_isTreeWord 20 = .ok (.getfield 29, 3) := by decide +kernel
theorem dX9_isTreeWord_23 : decode cX9_isTreeWord 23 = .ok (.iload_n 2, 1) := by decide +kernel
theorem dX9_isTreeWord_24 : decode cX9_isTreeWord 24 = .ok (.iaload, 1) := by decide +kernel
theorem dX9_isTreeWord_25 : decode cX9_isTreeWord 25 = .ok (.ifCond .ne 7, 3) := by decide +kernel
theorem dX9_isTreeWord_28 : decode cX9_isTreeWord 28 = .ok (.iconst (-1), 1) := by decide +kernel
theorem dX9_isTreeWord_29 : decode cX9_isTreeWord 29 = .ok (.goto 4, 3) := by decide +kernel
theorem dX9_isTreeWord_32 : decode cX9_isTreeWord 32 = .ok (.iconst 1, 1) := by decide +kernel
theorem dX9_isTreeWord_33 : decode cX9_isTreeWord 33 = .ok (.iadd, 1) := by decide +kernel
theorem dX9_isTreeWord_34 : decode cX9_isTreeWord 34 = .ok (.istore_n 1, 1) := by decide +kernel
theorem dX9_isTreeWord_35 : decode cX9_isTreeWord 35 = .ok (.iinc 2 1, 3) := by decide +kernel
theorem dX9_isTreeWord_38 : decode cX9_isTreeWord 38 = .ok (.goto (-34), 3) := by decide +kernel
theorem dX9_isTreeWord_41 : decode cX9_isTreeWord 41 = .ok (.iload_n 1, 1) := by decide +kernel
theorem dX9_isTreeWord_42 : decode cX9_isTreeWord 42 = .ok (.ifCond .ne 7, 3) := by decide +kernel
theorem dX9_isTreeWord_45 : decode cX9_isTreeWord 45 = .ok (.iconst 1, 1) := by decide +kernel
theorem dX9_isTreeWord_46 : decode cX9_isTreeWord 46 = .ok (.goto 4, 3) := by decide +kernel
theorem dX9_isTreeWord_49 : decode cX9_isTreeWord 49 = .ok (.iconst 0, 1) := by decide +kernel
theorem dX9_isTreeWord_50 : decode cX9_isTreeWord 50 = .ok (.ireturn, 1) := by decide +kernel
theorem dX9_isCritical_0 : decode cX9_isCritical 0 = .ok (.aload_n 0, 1) := by decide +kernel
theorem dX9_isCritical_1 : decode cX9_isCritical 1 = .ok (.iload_n 1, 1) := by decide +kernel
theorem dX9_isCritical_2 : decode cX9_isCritical 2 = .ok (.iconst 1, 1) := by decide +kernel
theorem dX9_isCritical_3 : decode cX9_isCritical 3 = .ok (.invokevirtual 64, 3) := by decide +kernel
theorem dX9_isCritical_6 : decode cX9_isCritical 6 = .ok (.aload_n 0, 1) := by decide +kernel
theorem dX9_isCritical_7 : decode cX9_isCritical 7 = .ok (.getfield 58, 3) := by decide +kernel
theorem dX9_isCritical_10 : decode cX9_isCritical 10 = .ok (.bipush 7, 2) := by decide +kernel
theorem dX9_isCritical_12 : decode cX9_isCritical 12 = .ok (.if_icmp .ne 22, 3) := by decide +kernel
theorem dX9_isCritical_15 : decode cX9_isCritical 15 = .ok (.aload_n 0, 1) := by decide +kernel
theorem dX9_isCritical_16 : decode cX9_isCritical 16 = .ok (.invokevirtual 102, 3) := by decide +kernel
theorem dX9_isCritical_19 : decode cX9_isCritical 19 = .ok (.ifCond .eq 15, 3) := by decide +kernel
theorem dX9_isCritical_22 : decode cX9_isCritical 22 = .ok (.aload_n 0, 1) := by decide +kernel
theorem dX9_isCritical_23 : decode cX9_isCritical 23 = .ok (.invokevirtual 106, 3) := by decide +kernel
theorem dX9_isCritical_26 : decode cX9_isCritical 26 = .ok (.iconst 2, 1) := by decide +kernel
theorem dX9_isCritical_27 : decode cX9_isCritical 27 = .ok (.if_icmp .ne 7, 3) := by decide +kernel
theorem dX9_isCritical_30 : decode cX9_isCritical 30 = .ok (.iconst 1, 1) := by decide +kernel
theorem dX9_isCritical_31 : decode cX9_isCritical 31 = .ok (.goto 4, 3) := by decide +kernel
theorem dX9_isCritical_34 : decode cX9_isCritical 34 = .ok (.iconst 0, 1) := by decide +kernel
theorem dX9_isCritical_35 : decode cX9_isCritical 35 = .ok (.ireturn, 1) := by decide +kernel
theorem dX9_isBad_0 : decode cX9_isBad 0 = .ok (.aload_n 0, 1) := by decide +kernel
theorem dX9_isBad_1 : decode cX9_isBad 1 = .ok (.iload_n 1, 1) := by decide +kernel
theorem dX9_isBad_2 : decode cX9_isBad 2 = .ok (.invokevirtual 110, 3) := by decide +kernel
theorem dX9_isBad_5 : decode cX9_isBad 5 = .ok (.ifCond .ne 5, 3) := by decide +kernel
theorem dX9_isBad_8 : decode cX9_isBad 8 = .ok (.iconst 0, 1) := by decide +kernel
theorem dX9_isBad_9 : decode cX9_isBad 9 = .ok (.ireturn, 1) := by decide +kernel
theorem dX9_isBad_10 : decode cX9_isBad 10 = .ok (.aload_n 0, 1) := by decide +kernel
theorem dX9_isBad_11 : decode cX9_isBad 11 = .ok (.aload_n 0, 1) := by decide +kernel
theorem dX9_isBad_12 : decode cX9_isBad 12 = .ok (.iconst 0, 1) := by decide +kernel
theorem dX9_isBad_13 : decode cX9_isBad 13 = .ok (.invokevirtual 96, 3) := by decide +kernel
theorem dX9_isBad_16 : decode cX9_isBad 16 = .ok (.invokevirtual 99, 3) := by decide +kernel
theorem dX9_isBad_19 : decode cX9_isBad 19 = .ok (.aload_n 0, 1) := by decide +kernel
theorem dX9_isBad_20 : decode cX9_isBad 20 = .ok (.invokevirtual 114, 3) := by decide +kernel
theorem dX9_isBad_23 : decode cX9_isBad 23 = .ok (.iconst (-1), 1) := by decide +kernel
theorem dX9_isBad_24 : decode cX9_isBad 24 = .ok (.if_icmp .ne 7, 3) := by decide +kernel
theorem dX9_isBad_27 : decode cX9_isBad 27 = .ok (.iconst (-1), 1) := by decide +kernel
theorem dX9_isBad_28 : decode cX9_isBad 28 = .ok (.goto 16, 3) := by decide +kernel
theorem dX9_isBad_31 : decode cX9_isBad 31 = .ok (.iconst 3, 1) := by decide +kernel
theorem dX9_isBad_32 : decode cX9_isBad 32 = .ok (.aload_n 0, 1) := by decide +kernel
theorem dX9_isBad_33 : decode cX9_isBad 33 = .ok (.invokevirtual 117, 3) := by decide +kernel
theorem dX9_isBad_36 : decode cX9_isBad 36 = .ok (.imul, 1) := by decide +kernel
theorem dX9_isBad_37 : decode cX9_isBad 37 = .ok (.aload_n 0, 1) := by decide +kernel
theorem dX9_isBad_38 : decode cX9_isBad 38 = .ok (.getfield 61, 3) := by decide +kernel
theorem dX9_isBad_41 : decode cX9_isBad 41 = .ok (.iadd, 1) := by decide +kernel
theorem dX9_isBad_42 : decode cX9_isBad 42 = .ok (.iconst 1, 1) := by decide +kernel
theorem dX9_isBad_43 : decode cX9_isBad 43 = .ok (.iadd, 1) := by decide +kernel
theorem dX9_isBad_44 : decode cX9_isBad 44 = .ok (.istore_n 2, 1) := by decide +kernel
theorem dX9_isBad_45 : decode cX9_isBad 45 = .ok (.aload_n 0, 1) := by decide +kernel
theorem dX9_isBad_46 : decode cX9_isBad 46 = .ok (.iload_n 1, 1) := by decide +kernel
theorem dX9_isBad_47 : decode cX9_isBad 47 = .ok (.iconst 1, 1) := by decide +kernel
theorem dX9_isBad_48 : decode cX9_isBad 48 = .ok (.invokevirtual 64, 3) := by decide +kernel
theorem dX9_isBad_51 : decode cX9_isBad 51 = .ok (.aload_n 0, 1) := by decide +kernel
theorem dX9_isBad_52 : decode cX9_isBad 52 = .ok (.aload_n 0, 1) := by decide +kernel
theorem dX9_isBad_53 : decode cX9_isBad 53 = .ok (.iconst 1, 1) := by decide +kernel
theorem dX9_isBad_54 : decode cX9_isBad 54 = .ok (.invokevirtual 96, 3) := by decide +kernel
theorem dX9_isBad_57 : decode cX9_isBad 57 = .ok (.invokevirtual 99, 3) := by decide +kernel
theorem dX9_isBad_60 : decode cX9_isBad 60 = .ok (.aload_n 0, 1) := by decide +kernel
theorem dX9_isBad_61 : decode cX9_isBad 61 = .ok (.invokevirtual 114, 3) := by decide +kernel
theorem dX9_isBad_64 : decode cX9_isBad 64 = .ok (.iconst (-1), 1) := by decide +kernel
theorem dX9_isBad_65 : decode cX9_isBad 65 = .ok (.if_icmp .ne 7, 3) := by decide +kernel
theorem dX9_isBad_68 : decode cX9_isBad 68 = .ok (.iconst (-1), 1) := by decide +kernel
theorem dX9_isBad_69 : decode cX9_isBad 69 = .ok (.goto 16, 3) := by decide +kernel
theorem dX9_isBad_72 : decode cX9_isBad 72 = .ok (.iconst 3, 1) := by decide +kernel
theorem dX9_isBad_73 : decode cX9_isBad 73 = .ok (.aload_n 0, 1) := by decide +kernel
theorem dX9_isBad_74 : decode cX9_isBad 74 = .ok (.invokevirtual 117, 3) := by decide +kernel
theorem dX9_isBad_77 : decode cX9_isBad 77 = .ok (.imul, 1) := by decide +kernel
theorem dX9_isBad_78 : decode cX9_isBad 78 = .ok (.aload_n 0, 1) := by decide +kernel
theorem dX9_isBad_79 : decode cX9_isBad 79 = .ok (.getfield 61, 3) := by decide +kernel
theorem dX9_isBad_82 : decode cX9_isBad 82 = .ok (.iadd, 1) := by decide +kernel
theorem dX9_isBad_83 : decode cX9_isBad 83 = .ok (.iconst 1, 1) := by decide +kernel
theorem dX9_isBad_84 : decode cX9_isBad 84 = .ok (.iadd, 1) := by decide +kernel
theorem dX9_isBad_85 : decode cX9_isBad 85 = .ok (.istore_n 3, 1) := by decide +kernel
theorem dX9_isBad_86 : decode cX9_isBad 86 = .ok (.iload_n 2, 1) := by decide +kernel
theorem dX9_isBad_87 : decode cX9_isBad 87 = .ok (.iconst (-1), 1) := by decide +kernel
theorem dX9_isBad_88 : decode cX9_isBad 88 = .ok (.if_icmp .eq 8, 3) := by decide +kernel
theorem dX9_isBad_91 : decode cX9_isBad 91 = .ok (.iload_n 2, 1) := by decide +kernel
theorem dX9_isBad_92 : decode cX9_isBad 92 = .ok (.iload_n 3, 1) := by decide +kernel
theorem dX9_isBad_93 : decode cX9_isBad 93 = .ok (.if_icmp .eq 7, 3) := by decide +kernel
theorem dX9_isBad_96 : decode cX9_isBad 96 = .ok (.iconst 1, 1) := by decide +kernel
theorem dX9_isBad_97 : decode cX9_isBad 97 = .ok (.goto 4, 3) := by decide +kernel
theorem dX9_isBad_100 : decode cX9_isBad 100 = .ok (.iconst 0, 1) := by decide +kernel
theorem dX9_isBad_101 : decode cX9_isBad 101 = .ok (.ireturn, 1) := by decide +kernel
theorem dX9_criticals_0 : decode cX9_criticals 0 = .ok (.iconst 0, 1) := by decide +kernel
theorem dX9_criticals_1 : decode cX9_criticals 1 = .ok (.istore_n 1, 1) := by decide +kernel
theorem dX9_criticals_2 : decode cX9_criticals 2 = .ok (.sipush 729, 3) := by decide +kernel
theorem dX9_criticals_5 : decode cX9_criticals 5 = .ok (.istore_n 2, 1) := by decide +kernel
theorem dX9_criticals_6 : decode cX9_criticals 6 = .ok (.iload_n 2, 1) := by decide +kernel
theorem dX9_criticals_7 : decode cX9_criticals 7 = .ok (.sipush 2187, 3) := by decide +kernel
theorem dX9_criticals_10 : decode cX9_criticals 10 = .ok (.if_icmp .ge 25, 3) := by decide +kernel
theorem dX9_criticals_13 : decode cX9_criticals 13 = .ok (.iload_n 1, 1) := by decide +kernel
theorem dX9_criticals_14 : decode cX9_criticals 14 = .ok (.aload_n 0, 1) := by decide +kernel
theorem dX9_criticals_15 : decode cX9_criticals 15 = .ok (.iload_n 2, 1) := by decide +kernel
theorem dX9_criticals_16 : decode cX9_criticals 16 = .ok (.invokevirtual 110, 3) := by decide +kernel
theorem dX9_criticals_19 : decode cX9_criticals 19 = .ok (.ifCond .eq 7, 3) := by decide +kernel
theorem dX9_criticals_22 : decode cX9_criticals 22 = .ok (.iconst 1, 1) := by decide +kernel
theorem dX9_criticals_23 : decode cX9_criticals 23 = .ok (.goto 4, 3) := by decide +kernel
theorem dX9_criticals_26 : decode cX9_criticals 26 = .ok (.iconst 0, 1) := by decide +kernel
theorem dX9_criticals_27 : decode cX9_criticals 27 = .ok (.iadd, 1) := by decide +kernel
theorem dX9_criticals_28 : decode cX9_criticals 28 = .ok (.istore_n 1, 1) := by decide +kernel
theorem dX9_criticals_29 : decode cX9_criticals 29 = .ok (.iinc 2 1, 3) := by decide +kernel
theorem dX9_criticals_32 : decode cX9_criticals 32 = .ok (.goto (-26), 3) := by decide +kernel
theorem dX9_criticals_35 : decode cX9_criticals 35 = .ok (.iload_n 1, 1) := by decide +kernel
theorem dX9_criticals_36 : decode cX9_criticals 36 = .ok (.ireturn, 1) := by decide +kernel
theorem dX9_bads_0 : decode cX9_bads 0 = .ok (.iconst 0, 1) := by decide +kernel
theorem dX9_bads_1 : decode cX9_bads 1 = .ok (.istore_n 1, 1) := by decide +kernel
theorem dX9_bads_2 : decode cX9_bads 2 = .ok (.sipush 729, 3) := by decide +kernel
theorem dX9_bads_5 : decode cX9_bads 5 = .ok (.istore_n 2, 1) := by decide +kernel
theorem dX9_bads_6 : decode cX9_bads 6 = .ok (.iload_n 2, 1) := by decide +kernel
theorem dX9_bads_7 : decode cX9_bads 7 = .ok (.sipush 2187, 3) := by decide +kernel
theorem dX9_bads_10 : decode cX9_bads 10 = .ok (.if_icmp .ge 25, 3) := by decide +kernel
theorem dX9_bads_13 : decode cX9_bads 13 = .ok (.iload_n 1, 1) := by decide +kernel
theorem dX9_bads_14 : decode cX9_bads 14 = .ok (.aload_n 0, 1) := by decide +kernel
theorem dX9_bads_15 : decode cX9_bads 15 = .ok (.iload_n 2, 1) := by decide +kernel
theorem dX9_bads_16 : decode cX9_bads 16 = .ok (.invokevirtual 120, 3) := by decide +kernel
theorem dX9_bads_19 : decode cX9_bads 19 = .ok (.ifCond .eq 7, 3) := by decide +kernel
theorem dX9_bads_22 : decode cX9_bads 22 = .ok (.iconst 1, 1) := by decide +kernel
theorem dX9_bads_23 : decode cX9_bads 23 = .ok (.goto 4, 3) := by decide +kernel
theorem dX9_bads_26 : decode cX9_bads 26 = .ok (.iconst 0, 1) := by decide +kernel
theorem dX9_bads_27 : decode cX9_bads 27 = .ok (.iadd, 1) := by decide +kernel
theorem dX9_bads_28 : decode cX9_bads 28 = .ok (.istore_n 1, 1) := by decide +kernel
theorem dX9_bads_29 : decode cX9_bads 29 = .ok (.iinc 2 1, 3) := by decide +kernel
theorem dX9_bads_32 : decode cX9_bads 32 = .ok (.goto (-26), 3) := by decide +kernel
theorem dX9_bads_35 : decode cX9_bads 35 = .ok (.iload_n 1, 1) := by decide +kernel
theorem dX9_bads_36 : decode cX9_bads 36 = .ok (.ireturn, 1) := by decide +kernel
theorem dX9_firstBad_0 : decode cX9_firstBad 0 = .ok (.sipush 729, 3) := by decide +kernel
theorem dX9_firstBad_3 : decode cX9_firstBad 3 = .ok (.istore_n 1, 1) := by decide +kernel
theorem dX9_firstBad_4 : decode cX9_firstBad 4 = .ok (.iload_n 1, 1) := by decide +kernel
theorem dX9_firstBad_5 : decode cX9_firstBad 5 = .ok (.sipush 2187, 3) := by decide +kernel
theorem dX9_firstBad_8 : decode cX9_firstBad 8 = .ok (.if_icmp .ge 19, 3) := by decide +kernel
theorem dX9_firstBad_11 : decode cX9_firstBad 11 = .ok (.aload_n 0, 1) := by decide +kernel
theorem dX9_firstBad_12 : decode cX9_firstBad 12 = .ok (.iload_n 1, 1) := by decide +kernel
theorem dX9_firstBad_13 : decode cX9_firstBad 13 = .ok (.invokevirtual 120, 3) := by decide +kernel
theorem dX9_firstBad_16 : decode cX9_firstBad 16 = .ok (.ifCond .eq 5, 3) := by decide +kernel
theorem dX9_firstBad_19 : decode cX9_firstBad 19 = .ok (.iload_n 1, 1) := by decide +kernel
theorem dX9_firstBad_20 : decode cX9_firstBad 20 = .ok (.ireturn, 1) := by decide +kernel
theorem dX9_firstBad_21 : decode cX9_firstBad 21 = .ok (.iinc 1 1, 3) := by decide +kernel
theorem dX9_firstBad_24 : decode cX9_firstBad 24 = .ok (.goto (-20), 3) := by decide +kernel
theorem dX9_firstBad_27 : decode cX9_firstBad 27 = .ok (.iconst (-1), 1) := by decide +kernel
theorem dX9_firstBad_28 : decode cX9_firstBad 28 = .ok (.ireturn, 1) := by decide +kernel
theorem dX9_mayStand_0 : decode cX9_mayStand 0 = .ok (.aload_n 0, 1) := by decide +kernel
theorem dX9_mayStand_1 : decode cX9_mayStand 1 = .ok (.getfield 38, 3) := by decide +kernel
theorem dX9_mayStand_4 : decode cX9_mayStand 4 = .ok (.iconst 3, 1) := by decide +kernel
theorem dX9_mayStand_5 : decode cX9_mayStand 5 = .ok (.iload_n 3, 1) := by decide +kernel
theorem dX9_mayStand_6 : decode cX9_mayStand 6 = .ok (.imul, 1) := by decide +kernel
theorem dX9_mayStand_7 : decode cX9_mayStand 7 = .ok (.laload, 1) := by decide +kernel
theorem dX9_mayStand_8 : decode cX9_mayStand 8 = .ok (.lstore 4, 2) := by decide +kernel
theorem dX9_mayStand_10 : decode cX9_mayStand 10 = .ok (.iconst 0, 1) := by decide +kernel
theorem dX9_mayStand_11 : decode cX9_mayStand 11 = .ok (.istore 6, 2) := by decide +kernel
theorem dX9_mayStand_13 : decode cX9_mayStand 13 = .ok (.iload 6, 2) := by decide +kernel
theorem dX9_mayStand_15 : decode cX9_mayStand 15 = .ok (.iconst 2, 1) := by decide +kernel
theorem dX9_mayStand_16 : decode cX9_mayStand 16 = .ok (.if_icmp .ge 52, 3) := by decide +kernel
theorem dX9_mayStand_19 : decode cX9_mayStand 19 = .ok (.lload 4, 2) := by decide +kernel
theorem dX9_mayStand_21 : decode cX9_mayStand 21 = .ok (.aload_n 0, 1) := by decide +kernel
theorem dX9_mayStand_22 : decode cX9_mayStand 22 = .ok (.getfield 7, 3) := by decide +kernel
theorem dX9_mayStand_25 : decode cX9_mayStand 25 = .ok (.bipush 17, 2) := by decide +kernel
theorem dX9_mayStand_27 : decode cX9_mayStand 27 = .ok (.iconst 4, 1) := by decide +kernel
theorem dX9_mayStand_28 : decode cX9_mayStand 28 = .ok (.iload_n 1, 1) := by decide +kernel
theorem dX9_mayStand_29 : decode cX9_mayStand 29 = .ok (.imul, 1) := by decide +kernel
theorem dX9_mayStand_30 : decode cX9_mayStand 30 = .ok (.iadd, 1) := by decide +kernel
theorem dX9_mayStand_31 : decode cX9_mayStand 31 = .ok (.iconst 2, 1) := by decide +kernel
theorem dX9_mayStand_32 : decode cX9_mayStand 32 = .ok (.iload 6, 2) := by decide +kernel
theorem dX9_mayStand_34 : decode cX9_mayStand 34 = .ok (.imul, 1) := by decide +kernel
theorem dX9_mayStand_35 : decode cX9_mayStand 35 = .ok (.iadd, 1) := by decide +kernel
theorem dX9_mayStand_36 : decode cX9_mayStand 36 = .ok (.iload_n 2, 1) := by decide +kernel
theorem dX9_mayStand_37 : decode cX9_mayStand 37 = .ok (.iadd, 1) := by decide +kernel
theorem dX9_mayStand_38 : decode cX9_mayStand 38 = .ok (.iaload, 1) := by decide +kernel
theorem dX9_mayStand_39 : decode cX9_mayStand 39 = .ok (.ifCond .ne 19, 3) := by decide +kernel
theorem dX9_mayStand_42 : decode cX9_mayStand 42 = .ok (.aload_n 0, 1) := by decide +kernel
theorem dX9_mayStand_43 : decode cX9_mayStand 43 = .ok (.getfield 38, 3) := by decide +kernel
theorem dX9_mayStand_46 : decode cX9_mayStand 46 = .ok (.iconst 3, 1) := by decide +kernel
theorem dX9_mayStand_47 : decode cX9_mayStand 47 = .ok (.iload_n 3, 1) := by decide +kernel
theorem dX9_mayStand_48 : decode cX9_mayStand 48 = .ok (.imul, 1) := by decide +kernel
theorem dX9_mayStand_49 : decode cX9_mayStand 49 = .ok (.iconst 1, 1) := by decide +kernel
theorem dX9_mayStand_50 : decode cX9_mayStand 50 = .ok (.iadd, 1) := by decide +kernel
theorem dX9_mayStand_51 : decode cX9_mayStand 51 = .ok (.iload 6, 2) := by decide +kernel
theorem dX9_mayStand_53 : decode cX9_mayStand 53 = .ok (.iadd, 1) := by decide +kernel
theorem dX9_mayStand_54 : decode cX9_mayStand 54 = .ok (.laload, 1) := by decide +kernel
theorem dX9_mayStand_55 : decode cX9_mayStand 55 = .ok (.goto 4, 3) := by decide +kernel
theorem dX9_mayStand_58 : decode cX9_mayStand 58 = .ok (.lconst 0, 1) := by decide +kernel
theorem dX9_mayStand_59 : decode cX9_mayStand 59 = .ok (.ladd, 1) := by decide +kernel
theorem dX9_mayStand_60 : decode cX9_mayStand 60 = .ok (.lstore 4, 2) := by decide +kernel
theorem dX9_mayStand_62 : decode cX9_mayStand 62 = .ok (.iinc 6 1, 3) := by decide +kernel
theorem dX9_mayStand_65 : decode cX9_mayStand 65 = .ok (.goto (-52), 3) := by decide +kernel
theorem dX9_mayStand_68 : decode cX9_mayStand 68 = .ok (.lload 4, 2) := by decide +kernel
theorem dX9_mayStand_70 : decode cX9_mayStand 70 = .ok (.lreturn, 1) := by decide +kernel
theorem dX9_countPlains_0 : decode cX9_countPlains 0 = .ok (.iconst 1, 1) := by decide +kernel
theorem dX9_countPlains_1 : decode cX9_countPlains 1 = .ok (.istore_n 1, 1) := by decide +kernel
theorem dX9_countPlains_2 : decode cX9_countPlains 2 = .ok (.iload_n 1, 1) := by decide +kernel
theorem dX9_countPlains_3 : decode cX9_countPlains 3 = .ok (.bipush 7, 2) := by decide +kernel
theorem dX9_countPlains_5 : decode cX9_countPlains 5 = .ok (.if_icmp .gt 92, 3) := by decide +kernel
theorem dX9_countPlains_8 : decode cX9_countPlains 8 = .ok (.aload_n 0, 1) := by decide +kernel
theorem dX9_countPlains_9 : decode cX9_countPlains 9 = .ok (.getfield 38, 3) := by decide +kernel
theorem dX9_countPlains_12 : decode cX9_countPlains 12 = .ok (.iconst 3, 1) := by decide +kernel
theorem dX9_countPlains_13 : decode cX9_countPlains 13 = .ok (.iload_n 1, 1) := by decide +kernel
theorem dX9_countPlains_14 : decode cX9_countPlains 14 = .ok (.imul, 1) := by decide +kernel
theorem dX9_countPlains_15 : decode cX9_countPlains 15 = .ok (.iload_n 1, 1) := by decide +kernel
theorem dX9_countPlains_16 : decode cX9_countPlains 16 = .ok (.iconst 1, 1) := by decide +kernel
theorem dX9_countPlains_17 : decode cX9_countPlains 17 = .ok (.if_icmp .ne 7, 3) := by decide +kernel
theorem dX9_countPlains_20 : decode cX9_countPlains 20 = .ok (.lconst 1, 1) := by decide +kernel
theorem dX9_countPlains_21 : decode cX9_countPlains 21 = .ok (.goto 4, 3) := by decide +kernel
theorem dX9_countPlains_24 : decode cX9_countPlains 24 = .ok (.lconst 0, 1) := by decide +kernel
theorem dX9_countPlains_25 : decode cX9_countPlains 25 = .ok (.lastore, 1) := by decide +kernel
theorem dX9_countPlains_26 : decode cX9_countPlains 26 = .ok (.iconst 0, 1) := by decide +kernel
theorem dX9_countPlains_27 : decode cX9_countPlains 27 = .ok (.istore_n 2, 1) := by decide +kernel
theorem dX9_countPlains_28 : decode cX9_countPlains 28 = .ok (.iload_n 2, 1) := by decide +kernel
theorem dX9_countPlains_29 : decode cX9_countPlains 29 = .ok (.iconst 2, 1) := by decide +kernel
theorem dX9_countPlains_30 : decode cX9_countPlains 30 = .ok (.if_icmp .ge 61, 3) := by decide +kernel
theorem dX9_countPlains_33 : decode cX9_countPlains 33 = .ok (.lconst 0, 1) := by decide +kernel
theorem dX9_countPlains_34 : decode cX9_countPlains 34 = .ok (.lstore_n 3, 1) := by decide +kernel
theorem dX9_countPlains_35 : decode cX9_countPlains 35 = .ok (.iconst 1, 1) := by decide +kernel
theorem dX9_countPlains_36 : decode cX9_countPlains 36 = .ok (.istore 5, 2) := by decide +kernel
theorem dX9_countPlains_38 : decode cX9_countPlains 38 = .ok (.iload 5, 2) := by decide +kernel
theorem dX9_countPlains_40 : decode cX9_countPlains 40 = .ok (.iload_n 1, 1) := by decide +kernel
theorem dX9_countPlains_41 : decode cX9_countPlains 41 = .ok (.if_icmp .ge 31, 3) := by decide +kernel
theorem dX9_countPlains_44 : decode cX9_countPlains 44 = .ok (.lload_n 3, 1) := by decide +kernel
theorem dX9_countPlains_45 : decode cX9_countPlains 45 = .ok (.aload_n 0, 1) := by decide +kernel
theorem dX9_countPlains_46 : decode cX9_countPlains 46 = .ok (.iload_n 2, 1) := by decide +kernel
theorem dX9_countPlains_47 : decode cX9_countPlains 47 = .ok (.iconst 0, 1) := by decide +kernel
theorem dX9_countPlains_48 : decode cX9_countPlains 48 = .ok (.iload 5, 2) := by decide +kernel
theorem dX9_countPlains_50 : decode cX9_countPlains 50 = .ok (.invokevirtual 123, 3) := by decide +kernel
theorem dX9_countPlains_53 : decode cX9_countPlains 53 = .ok (.aload_n 0, 1) := by decide +kernel
theorem dX9_countPlains_54 : decode cX9_countPlains 54 = .ok (.iload_n 2, 1) := by decide +kernel
theorem dX9_countPlains_55 : decode cX9_countPlains 55 = .ok (.iconst 1, 1) := by decide +kernel
theorem dX9_countPlains_56 : decode cX9_countPlains 56 = .ok (.iload_n 1, 1) := by decide +kernel
theorem dX9_countPlains_57 : decode cX9_countPlains 57 = .ok (.iload 5, 2) := by decide +kernel
theorem dX9_countPlains_59 : decode cX9_countPlains 59 = .ok (.isub, 1) := by decide +kernel
theorem dX9_countPlains_60 : decode cX9_countPlains 60 = .ok (.invokevirtual 123, 3) := by decide +kernel
theorem dX9_countPlains_63 : decode cX9_countPlains 63 = .ok (.lmul, 1) := by decide +kernel
theorem dX9_countPlains_64 : decode cX9_countPlains 64 = .ok (.ladd, 1) := by decide +kernel
theorem dX9_countPlains_65 : decode cX9_countPlains 65 = .ok (.lstore_n 3, 1) := by decide +kernel
theorem dX9_countPlains_66 : decode cX9_countPlains 66 = .ok (.iinc 5 1, 3) := by decide +kernel
theorem dX9_countPlains_69 : decode cX9_countPlains 69 = .ok (.goto (-31), 3) := by decide +kernel
theorem dX9_countPlains_72 : decode cX9_countPlains 72 = .ok (.aload_n 0, 1) := by decide +kernel
theorem dX9_countPlains_73 : decode cX9_countPlains 73 = .ok (.getfield 38, 3) := by decide +kernel
theorem dX9_countPlains_76 : decode cX9_countPlains 76 = .ok (.iconst 3, 1) := by decide +kernel
theorem dX9_countPlains_77 : decode cX9_countPlains 77 = .ok (.iload_n 1, 1) := by decide +kernel
theorem dX9_countPlains_78 : decode cX9_countPlains 78 = .ok (.imul, 1) := by decide +kernel
theorem dX9_countPlains_79 : decode cX9_countPlains 79 = .ok (.iconst 1, 1) := by decide +kernel
theorem dX9_countPlains_80 : decode cX9_countPlains 80 = .ok (.iadd, 1) := by decide +kernel
theorem dX9_countPlains_81 : decode cX9_countPlains 81 = .ok (.iload_n 2, 1) := by decide +kernel
theorem dX9_countPlains_82 : decode cX9_countPlains 82 = .ok (.iadd, 1) := by decide +kernel
theorem dX9_countPlains_83 : decode cX9_countPlains 83 = .ok (.lload_n 3, 1) := by decide +kernel
theorem dX9_countPlains_84 : decode cX9_countPlains 84 = .ok (.lastore, 1) := by decide +kernel
theorem dX9_countPlains_85 : decode cX9_countPlains 85 = .ok (.iinc 2 1, 3) := by decide +kernel
theorem dX9_countPlains_88 : decode cX9_countPlains 88 = .ok (.goto (-60), 3) := by decide +kernel
theorem dX9_countPlains_91 : decode cX9_countPlains 91 = .ok (.iinc 1 1, 3) := by decide +kernel
theorem dX9_countPlains_94 : decode cX9_countPlains 94 = .ok (.goto (-92), 3) := by decide +kernel
theorem dX9_countPlains_97 : decode cX9_countPlains 97 = .ok (.return_, 1) := by decide +kernel
theorem dX9_plainOf_0 : decode cX9_plainOf 0 = .ok (.aload_n 0, 1) := by decide +kernel
theorem dX9_plainOf_1 : decode cX9_plainOf 1 = .ok (.getfield 38, 3) := by decide +kernel
theorem dX9_plainOf_4 : decode cX9_plainOf 4 = .ok (.iconst 3, 1) := by decide +kernel
theorem dX9_plainOf_5 : decode cX9_plainOf 5 = .ok (.iload_n 1, 1) := by decide +kernel
theorem dX9_plainOf_6 : decode cX9_plainOf 6 = .ok (.imul, 1) := by decide +kernel
theorem dX9_plainOf_7 : decode cX9_plainOf 7 = .ok (.laload, 1) := by decide +kernel
theorem dX9_plainOf_8 : decode cX9_plainOf 8 = .ok (.aload_n 0, 1) := by decide +kernel
theorem dX9_plainOf_9 : decode cX9_plainOf 9 = .ok (.getfield 38, 3) := by decide +kernel
theorem dX9_plainOf_12 : decode cX9_plainOf 12 = .ok (.iconst 3, 1) := by decide +kernel
theorem dX9_plainOf_13 : decode cX9_plainOf 13 = .ok (.iload_n 1, 1) := by decide +kernel
theorem dX9_plainOf_14 : decode cX9_plainOf 14 = .ok (.imul, 1) := by decide +kernel
theorem dX9_plainOf_15 : decode cX9_plainOf 15 = .ok (.iconst 1, 1) := by decide +kernel
theorem dX9_plainOf_16 : decode cX9_plainOf 16 = .ok (.iadd, 1) := by decide +kernel
theorem dX9_plainOf_17 : decode cX9_plainOf 17 = .ok (.laload, 1) := by decide +kernel
theorem dX9_plainOf_18 : decode cX9_plainOf 18 = .ok (.ladd, 1) := by decide +kernel
theorem dX9_plainOf_19 : decode cX9_plainOf 19 = .ok (.aload_n 0, 1) := by decide +kernel
theorem dX9_plainOf_20 : decode cX9_plainOf 20 = .ok (.getfield 38, 3) := by decide +kernel
theorem dX9_plainOf_23 : decode cX9_plainOf 23 = .ok (.iconst 3, 1) := by decide +kernel
theorem dX9_plainOf_24 : decode cX9_plainOf 24 = .ok (.iload_n 1, 1) := by decide +kernel
theorem dX9_plainOf_25 : decode cX9_plainOf 25 = .ok (.imul, 1) := by decide +kernel
theorem dX9_plainOf_26 : decode cX9_plainOf 26 = .ok (.iconst 2, 1) := by decide +kernel
theorem dX9_plainOf_27 : decode cX9_plainOf 27 = .ok (.iadd, 1) := by decide +kernel
theorem dX9_plainOf_28 : decode cX9_plainOf 28 = .ok (.laload, 1) := by decide +kernel
theorem dX9_plainOf_29 : decode cX9_plainOf 29 = .ok (.ladd, 1) := by decide +kernel
theorem dX9_plainOf_30 : decode cX9_plainOf 30 = .ok (.lreturn, 1) := by decide +kernel
theorem dX9_powerUp_0 : decode cX9_powerUp 0 = .ok (.iconst 0, 1) := by decide +kernel
theorem dX9_powerUp_1 : decode cX9_powerUp 1 = .ok (.istore_n 1, 1) := by decide +kernel
theorem dX9_powerUp_2 : decode cX9_powerUp 2 = .ok (.iload_n 1, 1) := by decide +kernel
theorem dX9_powerUp_3 : decode cX9_powerUp 3 = .ok (.bipush 7, 2) := by decide +kernel
theorem dX9_powerUp_5 : decode cX9_powerUp 5 = .ok (.if_icmp .gt 53, 3) := by decide +kernel
theorem dX9_powerUp_8 : decode cX9_powerUp 8 = .ok (.aload_n 0, 1) := by decide +kernel
theorem dX9_powerUp_9 : decode cX9_powerUp 9 = .ok (.getfield 48, 3) := by decide +kernel
theorem dX9_powerUp_12 : decode cX9_powerUp 12 = .ok (.iload_n 1, 1) := by decide +kernel
theorem dX9_powerUp_13 : decode cX9_powerUp 13 = .ok (.lconst 0, 1) := by decide +kernel
theorem dX9_powerUp_14 : decode cX9_powerUp 14 = .ok (.lastore, 1) := by decide +kernel
theorem dX9_powerUp_15 : decode cX9_powerUp 15 = .ok (.iconst 0, 1) := by decide +kernel
theorem dX9_powerUp_16 : decode cX9_powerUp 16 = .ok (.istore_n 2, 1) := by decide +kernel
theorem dX9_powerUp_17 : decode cX9_powerUp 17 = .ok (.iload_n 2, 1) := by decide +kernel
theorem dX9_powerUp_18 : decode cX9_powerUp 18 = .ok (.iload_n 1, 1) := by decide +kernel
theorem dX9_powerUp_19 : decode cX9_powerUp 19 = .ok (.if_icmp .gt 33, 3) := by decide +kernel
theorem dX9_powerUp_22 : decode cX9_powerUp 22 = .ok (.aload_n 0, 1) := by decide +kernel
theorem dX9_powerUp_23 : decode cX9_powerUp 23 = .ok (.getfield 48, 3) := by decide +kernel
theorem dX9_powerUp_26 : decode cX9_powerUp 26 = .ok (.iload_n 1, 1) := by decide +kernel
theorem dX9_powerUp_27 : decode cX9_powerUp 27 = .ok (.dup2, 1) := by decide +kernel
theorem dX9_powerUp_28 : decode cX9_powerUp 28 = .ok (.laload, 1) := by decide +kernel
theorem dX9_powerUp_29 : decode cX9_powerUp 29 = .ok (.aload_n 0, 1) := by decide +kernel
theorem dX9_powerUp_30 : decode cX9_powerUp 30 = .ok (.getfield 45, 3) := by decide +kernel
theorem dX9_powerUp_33 : decode cX9_powerUp 33 = .ok (.iload_n 2, 1) := by decide +kernel
theorem dX9_powerUp_34 : decode cX9_powerUp 34 = .ok (.laload, 1) := by decide +kernel
theorem dX9_powerUp_35 : decode cX9_powerUp 35 = .ok (.aload_n 0, 1) := by decide +kernel
theorem dX9_powerUp_36 : decode cX9_powerUp 36 = .ok (.getfield 42, 3) := by decide +kernel
theorem dX9_powerUp_39 : decode cX9_powerUp 39 = .ok (.iload_n 1, 1) := by decide +kernel
theorem dX9_powerUp_40 : decode cX9_powerUp 40 = .ok (.iload_n 2, 1) := by decide +kernel
theorem dX9_powerUp_41 : decode cX9_powerUp 41 = .ok (.isub, 1) := by decide +kernel
theorem dX9_powerUp_42 : decode cX9_powerUp 42 = .ok (.laload, 1) := by decide +kernel
theorem dX9_powerUp_43 : decode cX9_powerUp 43 = .ok (.lmul, 1) := by decide +kernel
theorem dX9_powerUp_44 : decode cX9_powerUp 44 = .ok (.ladd, 1) := by decide +kernel
theorem dX9_powerUp_45 : decode cX9_powerUp 45 = .ok (.lastore, 1) := by decide +kernel
theorem dX9_powerUp_46 : decode cX9_powerUp 46 = .ok (.iinc 2 1, 3) := by decide +kernel
theorem dX9_powerUp_49 : decode cX9_powerUp 49 = .ok (.goto (-32), 3) := by decide +kernel
theorem dX9_powerUp_52 : decode cX9_powerUp 52 = .ok (.iinc 1 1, 3) := by decide +kernel
theorem dX9_powerUp_55 : decode cX9_powerUp 55 = .ok (.goto (-53), 3) := by decide +kernel
theorem dX9_powerUp_58 : decode cX9_powerUp 58 = .ok (.iconst 0, 1) := by decide +kernel
theorem dX9_powerUp_59 : decode cX9_powerUp 59 = .ok (.istore_n 1, 1) := by decide +kernel
theorem dX9_powerUp_60 : decode cX9_powerUp 60 = .ok (.iload_n 1, 1) := by decide +kernel
theorem dX9_powerUp_61 : decode cX9_powerUp 61 = .ok (.bipush 7, 2) := by decide +kernel
theorem dX9_powerUp_63 : decode cX9_powerUp 63 = .ok (.if_icmp .gt 21, 3) := by decide +kernel
theorem dX9_powerUp_66 : decode cX9_powerUp 66 = .ok (.aload_n 0, 1) := by decide +kernel
theorem dX9_powerUp_67 : decode cX9_powerUp 67 = .ok (.getfield 45, 3) := by decide +kernel
theorem dX9_powerUp_70 : decode cX9_powerUp 70 = .ok (.iload_n 1, 1) := by decide +kernel
theorem dX9_powerUp_71 : decode cX9_powerUp 71 = .ok (.aload_n 0, 1) := by decide +kernel
theorem dX9_powerUp_72 : decode cX9_powerUp 72 = .ok (.getfield 48, 3) := by decide +kernel
theorem dX9_powerUp_75 : decode cX9_powerUp 75 = .ok (.iload_n 1, 1) := by decide +kernel
theorem dX9_powerUp_76 : decode cX9_powerUp 76 = .ok (.laload, 1) := by decide +kernel
theorem dX9_powerUp_77 : decode cX9_powerUp 77 = .ok (.lastore, 1) := by decide +kernel
theorem dX9_powerUp_78 : decode cX9_powerUp 78 = .ok (.iinc 1 1, 3) := by decide +kernel
theorem dX9_powerUp_81 : decode cX9_powerUp 81 = .ok (.goto (-21), 3) := by decide +kernel
theorem dX9_powerUp_84 : decode cX9_powerUp 84 = .ok (.return_, 1) := by decide +kernel
theorem dX9_undoSeries_0 : decode cX9_undoSeries 0 = .ok (.aload_n 0, 1) := by decide +kernel
theorem dX9_undoSeries_1 : decode cX9_undoSeries 1 = .ok (.invokevirtual 127, 3) := by decide +kernel
theorem dX9_undoSeries_4 : decode cX9_undoSeries 4 = .ok (.iconst 0, 1) := by decide +kernel
theorem dX9_undoSeries_5 : decode cX9_undoSeries 5 = .ok (.istore_n 1, 1) := by decide +kernel
theorem dX9_undoSeries_6 : decode cX9_undoSeries 6 = .ok (.iload_n 1, 1) := by decide +kernel
theorem dX9_undoSeries_7 : decode cX9_undoSeries 7 = .ok (.bipush 7, 2) := by decide +kernel
theorem dX9_undoSeries_9 : decode cX9_undoSeries 9 = .ok (.if_icmp .gt 25, 3) := by decide +kernel
theorem dX9_undoSeries_12 : decode cX9_undoSeries 12 = .ok (.aload_n 0, 1) := by decide +kernel
theorem dX9_undoSeries_13 : decode cX9_undoSeries 13 = .ok (.getfield 42, 3) := by decide +kernel
theorem dX9_undoSeries_16 : decode cX9_undoSeries 16 = .ok (.iload_n 1, 1) := by decide +kernel
theorem dX9_undoSeries_17 : decode cX9_undoSeries 17 = .ok (.iload_n 1, 1) := by decide +kernel
theorem dX9_undoSeries_18 : decode cX9_undoSeries 18 = .ok (.iconst 1, 1) := by decide +kernel
theorem dX9_undoSeries_19 : decode cX9_undoSeries 19 = .ok (.if_icmp .ne 7, 3) := by decide +kernel
theorem dX9_undoSeries_22 : decode cX9_undoSeries 22 = .ok (.lconst 1, 1) := by decide +kernel
theorem dX9_undoSeries_23 : decode cX9_undoSeries 23 = .ok (.goto 4, 3) := by decide +kernel
theorem dX9_undoSeries_26 : decode cX9_undoSeries 26 = .ok (.lconst 0, 1) := by decide +kernel
theorem dX9_undoSeries_27 : decode cX9_undoSeries 27 = .ok (.lastore, 1) := by decide +kernel
theorem dX9_undoSeries_28 : decode cX9_undoSeries 28 = .ok (.iinc 1 1, 3) := by decide +kernel
theorem dX9_undoSeries_31 : decode cX9_undoSeries 31 = .ok (.goto (-25), 3) := by decide +kernel
theorem dX9_undoSeries_34 : decode cX9_undoSeries 34 = .ok (.iconst 2, 1) := by decide +kernel
theorem dX9_undoSeries_35 : decode cX9_undoSeries 35 = .ok (.istore_n 1, 1) := by decide +kernel
theorem dX9_undoSeries_36 : decode cX9_undoSeries 36 = .ok (.iload_n 1, 1) := by decide +kernel
theorem dX9_undoSeries_37 : decode cX9_undoSeries 37 = .ok (.bipush 7, 2) := by decide +kernel
theorem dX9_undoSeries_39 : decode cX9_undoSeries 39 = .ok (.if_icmp .gt 80, 3) := by decide +kernel
theorem dX9_undoSeries_42 : decode cX9_undoSeries 42 = .ok (.iconst 0, 1) := by decide +kernel
theorem dX9_undoSeries_43 : decode cX9_undoSeries 43 = .ok (.istore_n 2, 1) := by decide +kernel
theorem dX9_undoSeries_44 : decode cX9_undoSeries 44 = .ok (.iload_n 2, 1) := by decide +kernel
theorem dX9_undoSeries_45 : decode cX9_undoSeries 45 = .ok (.bipush 7, 2) := by decide +kernel
theorem dX9_undoSeries_47 : decode cX9_undoSeries 47 = .ok (.if_icmp .gt 21, 3) := by decide +kernel
theorem dX9_undoSeries_50 : decode cX9_undoSeries 50 = .ok (.aload_n 0, 1) := by decide +kernel
theorem dX9_undoSeries_51 : decode cX9_undoSeries 51 = .ok (.getfield 45, 3) := by decide +kernel
theorem dX9_undoSeries_54 : decode cX9_undoSeries 54 = .ok (.iload_n 2, 1) := by decide +kernel
theorem dX9_undoSeries_55 : decode cX9_undoSeries 55 = .ok (.aload_n 0, 1) := by decide +kernel
theorem dX9_undoSeries_56 : decode cX9_undoSeries 56 = .ok (.getfield 42, 3) := by decide +kernel
theorem dX9_undoSeries_59 : decode cX9_undoSeries 59 = .ok (.iload_n 2, 1) := by decide +kernel
theorem dX9_undoSeries_60 : decode cX9_undoSeries 60 = .ok (.laload, 1) := by decide +kernel
theorem dX9_undoSeries_61 : decode cX9_undoSeries 61 = .ok (.lastore, 1) := by decide +kernel
theorem dX9_undoSeries_62 : decode cX9_undoSeries 62 = .ok (.iinc 2 1, 3) := by decide +kernel
theorem dX9_undoSeries_65 : decode cX9_undoSeries 65 = .ok (.goto (-21), 3) := by decide +kernel
theorem dX9_undoSeries_68 : decode cX9_undoSeries 68 = .ok (.lconst 0, 1) := by decide +kernel
theorem dX9_undoSeries_69 : decode cX9_undoSeries 69 = .ok (.lstore_n 2, 1) := by decide +kernel
theorem dX9_undoSeries_70 : decode cX9_undoSeries 70 = .ok (.iconst 2, 1) := by decide +kernel
theorem dX9_undoSeries_71 : decode cX9_undoSeries 71 = .ok (.istore 4, 2) := by decide +kernel
theorem dX9_undoSeries_73 : decode cX9_undoSeries 73 = .ok (.iload 4, 2) := by decide +kernel
theorem dX9_undoSeries_75 : decode cX9_undoSeries 75 = .ok (.iload_n 1, 1) := by decide +kernel
theorem dX9_undoSeries_76 : decode cX9_undoSeries 76 = .ok (.if_icmp .gt 29, 3) := by decide +kernel
theorem dX9_undoSeries_79 : decode cX9_undoSeries 79 = .ok (.aload_n 0, 1) := by decide +kernel
theorem dX9_undoSeries_80 : decode cX9_undoSeries 80 = .ok (.invokevirtual 130, 3) := by decide +kernel
theorem dX9_undoSeries_83 : decode cX9_undoSeries 83 = .ok (.lload_n 2, 1) := by decide +kernel
theorem dX9_undoSeries_84 : decode cX9_undoSeries 84 = .ok (.aload_n 0, 1) := by decide +kernel
theorem dX9_undoSeries_85 : decode cX9_undoSeries 85 = .ok (.iload 4, 2) := by decide +kernel
theorem dX9_undoSeries_87 : decode cX9_undoSeries 87 = .ok (.invokevirtual 133, 3) := by decide +kernel
theorem dX9_undoSeries_90 : decode cX9_undoSeries 90 = .ok (.aload_n 0, 1) := by decide +kernel
theorem dX9_undoSeries_91 : decode cX9_undoSeries 91 = .ok (.getfield 45, 3) := by decide +kernel
theorem dX9_undoSeries_94 : decode cX9_undoSeries 94 = .ok (.iload_n 1, 1) := by decide +kernel
theorem dX9_undoSeries_95 : decode cX9_undoSeries 95 = .ok (.laload, 1) := by decide +kernel
theorem dX9_undoSeries_96 : decode cX9_undoSeries 96 = .ok (.lmul, 1) := by decide +kernel
theorem dX9_undoSeries_97 : decode cX9_undoSeries 97 = .ok (.ladd, 1) := by decide +kernel
theorem dX9_undoSeries_98 : decode cX9_undoSeries 98 = .ok (.lstore_n 2, 1) := by decide +kernel
theorem dX9_undoSeries_99 : decode cX9_undoSeries 99 = .ok (.iinc 4 1, 3) := by decide +kernel
theorem dX9_undoSeries_102 : decode cX9_undoSeries 102 = .ok (.goto (-29), 3) := by decide +kernel
theorem dX9_undoSeries_105 : decode cX9_undoSeries 105 = .ok (.aload_n 0, 1) := by decide +kernel
theorem dX9_undoSeries_106 : decode cX9_undoSeries 106 = .ok (.getfield 42, 3) := by decide +kernel
theorem dX9_undoSeries_109 : decode cX9_undoSeries 109 = .ok (.iload_n 1, 1) := by decide +kernel
theorem dX9_undoSeries_110 : decode cX9_undoSeries 110 = .ok (.lload_n 2, 1) := by decide +kernel
theorem dX9_undoSeries_111 : decode cX9_undoSeries 111 = .ok (.lneg, 1) := by decide +kernel
theorem dX9_undoSeries_112 : decode cX9_undoSeries 112 = .ok (.lastore, 1) := by decide +kernel
theorem dX9_undoSeries_113 : decode cX9_undoSeries 113 = .ok (.iinc 1 1, 3) := by decide +kernel
theorem dX9_undoSeries_116 : decode cX9_undoSeries 116 = .ok (.goto (-80), 3) := by decide +kernel
theorem dX9_undoSeries_119 : decode cX9_undoSeries 119 = .ok (.return_, 1) := by decide +kernel
theorem dX9_count_0 : decode cX9_count 0 = .ok (.iload_n 1, 1) := by decide +kernel
theorem dX9_count_1 : decode cX9_count 1 = .ok (.iconst 1, 1) := by decide +kernel
theorem dX9_count_2 : decode cX9_count 2 = .ok (.bipush 7, 2) := by decide +kernel
theorem dX9_count_4 : decode cX9_count 4 = .ok (.invokestatic 54, 3) := by decide +kernel
theorem dX9_count_7 : decode cX9_count 7 = .ok (.ifCond .ne 7, 3) := by decide +kernel
theorem dX9_count_10 : decode cX9_count 10 = .ok (.ldc2_w 137, 3) := by decide +kernel
theorem dX9_count_13 : decode cX9_count 13 = .ok (.lreturn, 1) := by decide +kernel
theorem dX9_count_14 : decode cX9_count 14 = .ok (.aload_n 0, 1) := by decide +kernel
theorem dX9_count_15 : decode cX9_count 15 = .ok (.invokevirtual 127, 3) := by decide +kernel
theorem dX9_count_18 : decode cX9_count 18 = .ok (.aload_n 0, 1) := by decide +kernel
theorem dX9_count_19 : decode cX9_count 19 = .ok (.iload_n 1, 1) := by decide +kernel
theorem dX9_count_20 : decode cX9_count 20 = .ok (.invokevirtual 133, 3) := by decide +kernel
theorem dX9_count_23 : decode cX9_count 23 = .ok (.lreturn, 1) := by decide +kernel
theorem dX9_undoneBy_0 : decode cX9_undoneBy 0 = .ok (.iload_n 1, 1) := by decide +kernel
theorem dX9_undoneBy_1 : decode cX9_undoneBy 1 = .ok (.iconst 1, 1) := by decide +kernel
theorem dX9_undoneBy_2 : decode cX9_undoneBy 2 = .ok (.bipush 7, 2) := by decide +kernel
theorem dX9_undoneBy_4 : decode cX9_undoneBy 4 = .ok (.invokestatic 54, 3) := by decide +kernel
theorem dX9_undoneBy_7 : decode cX9_undoneBy 7 = .ok (.ifCond .ne 7, 3) := by decide +kernel
theorem dX9_undoneBy_10 : decode cX9_undoneBy 10 = .ok (.ldc2_w 137, 3) := by decide +kernel
theorem dX9_undoneBy_13 : decode cX9_undoneBy 13 = .ok (.lreturn, 1) := by decide +kernel
theorem dX9_undoneBy_14 : decode cX9_undoneBy 14 = .ok (.aload_n 0, 1) := by decide +kernel
theorem dX9_undoneBy_15 : decode cX9_undoneBy 15 = .ok (.invokevirtual 139, 3) := by decide +kernel
theorem dX9_undoneBy_18 : decode cX9_undoneBy 18 = .ok (.aload_n 0, 1) := by decide +kernel
theorem dX9_undoneBy_19 : decode cX9_undoneBy 19 = .ok (.getfield 42, 3) := by decide +kernel
theorem dX9_undoneBy_22 : decode cX9_undoneBy 22 = .ok (.iload_n 1, 1) := by decide +kernel
theorem dX9_undoneBy_23 : decode cX9_undoneBy 23 = .ok (.laload, 1) := by decide +kernel
theorem dX9_undoneBy_24 : decode cX9_undoneBy 24 = .ok (.lreturn, 1) := by decide +kernel
theorem dX9_isPattern_0 : decode cX9_isPattern 0 = .ok (.iload_n 1, 1) := by decide +kernel
theorem dX9_isPattern_1 : decode cX9_isPattern 1 = .ok (.iconst 0, 1) := by decide +kernel
theorem dX9_isPattern_2 : decode cX9_isPattern 2 = .ok (.bipush 7, 2) := by decide +kernel
theorem dX9_isPattern_4 : decode cX9_isPattern 4 = .ok (.invokestatic 54, 3) := by decide +kernel
theorem dX9_isPattern_7 : decode cX9_isPattern 7 = .ok (.ireturn, 1) := by decide +kernel
theorem dX9_comesFrom_0 : decode cX9_comesFrom 0 = .ok (.iconst 0, 1) := by decide +kernel
theorem dX9_comesFrom_1 : decode cX9_comesFrom 1 = .ok (.istore_n 2, 1) := by decide +kernel
theorem dX9_comesFrom_2 : decode cX9_comesFrom 2 = .ok (.iload_n 2, 1) := by decide +kernel
theorem dX9_comesFrom_3 : decode cX9_comesFrom 3 = .ok (.bipush 8, 2) := by decide +kernel
theorem dX9_comesFrom_5 : decode cX9_comesFrom 5 = .ok (.if_icmp .ge 24, 3) := by decide +kernel
theorem dX9_comesFrom_8 : decode cX9_comesFrom 8 = .ok (.aload_n 0, 1) := by decide +kernel
theorem dX9_comesFrom_9 : decode cX9_comesFrom 9 = .ok (.getfield 7, 3) := by decide +kernel
theorem dX9_comesFrom_12 : decode cX9_comesFrom 12 = .ok (.bipush 25, 2) := by decide +kernel
theorem dX9_comesFrom_14 : decode cX9_comesFrom 14 = .ok (.iload_n 2, 1) := by decide +kernel
theorem dX9_comesFrom_15 : decode cX9_comesFrom 15 = .ok (.iadd, 1) := by decide +kernel
theorem dX9_comesFrom_16 : decode cX9_comesFrom 16 = .ok (.iaload, 1) := by decide +kernel
theorem dX9_comesFrom_17 : decode cX9_comesFrom 17 = .ok (.iload_n 1, 1) := by decide +kernel
theorem dX9_comesFrom_18 : decode cX9_comesFrom 18 = .ok (.if_icmp .ne 5, 3) := by decide +kernel
theorem dX9_comesFrom_21 : decode cX9_comesFrom 21 = .ok (.iload_n 2, 1) := by decide +kernel
theorem dX9_comesFrom_22 : decode cX9_comesFrom 22 = .ok (.ireturn, 1) := by decide +kernel
theorem dX9_comesFrom_23 : decode cX9_comesFrom 23 = .ok (.iinc 2 1, 3) := by decide +kernel
theorem dX9_comesFrom_26 : decode cX9_comesFrom 26 = .ok (.goto (-24), 3) := by decide +kernel
theorem dX9_comesFrom_29 : decode cX9_comesFrom 29 = .ok (.iconst (-1), 1) := by decide +kernel
theorem dX9_comesFrom_30 : decode cX9_comesFrom 30 = .ok (.ireturn, 1) := by decide +kernel
theorem dX9_dualOf_0 : decode cX9_dualOf 0 = .ok (.aload_n 0, 1) := by decide +kernel
theorem dX9_dualOf_1 : decode cX9_dualOf 1 = .ok (.getfield 7, 3) := by decide +kernel
theorem dX9_dualOf_4 : decode cX9_dualOf 4 = .ok (.bipush 17, 2) := by decide +kernel
theorem dX9_dualOf_6 : decode cX9_dualOf 6 = .ok (.iload_n 1, 1) := by decide +kernel
theorem dX9_dualOf_7 : decode cX9_dualOf 7 = .ok (.iadd, 1) := by decide +kernel
theorem dX9_dualOf_8 : decode cX9_dualOf 8 = .ok (.iaload, 1) := by decide +kernel
theorem dX9_dualOf_9 : decode cX9_dualOf 9 = .ok (.istore_n 2, 1) := by decide +kernel
theorem dX9_dualOf_10 : decode cX9_dualOf 10 = .ok (.iload_n 2, 1) := by decide +kernel
theorem dX9_dualOf_11 : decode cX9_dualOf 11 = .ok (.ifCond .ne 18, 3) := by decide +kernel
theorem dX9_dualOf_14 : decode cX9_dualOf 14 = .ok (.aload_n 0, 1) := by decide +kernel
theorem dX9_dualOf_15 : decode cX9_dualOf 15 = .ok (.iload_n 1, 1) := by decide +kernel
theorem dX9_dualOf_16 : decode cX9_dualOf 16 = .ok (.invokevirtual 142, 3) := by decide +kernel
theorem dX9_dualOf_19 : decode cX9_dualOf 19 = .ok (.iconst (-1), 1) := by decide +kernel
theorem dX9_dualOf_20 : decode cX9_dualOf 20 = .ok (.if_icmp .ne 7, 3) := by decide +kernel
theorem dX9_dualOf_23 : decode cX9_dualOf 23 = .ok (.iconst 1, 1) := by decide +kernel
theorem dX9_dualOf_24 : decode cX9_dualOf 24 = .ok (.goto 4, 3) := by decide +kernel
theorem dX9_dualOf_27 : decode cX9_dualOf 27 = .ok (.iconst 0, 1) := by decide +kernel
theorem dX9_dualOf_28 : decode cX9_dualOf 28 = .ok (.ireturn, 1) := by decide +kernel
theorem dX9_dualOf_29 : decode cX9_dualOf 29 = .ok (.iload_n 2, 1) := by decide +kernel
theorem dX9_dualOf_30 : decode cX9_dualOf 30 = .ok (.iconst 1, 1) := by decide +kernel
theorem dX9_dualOf_31 : decode cX9_dualOf 31 = .ok (.if_icmp .ne 5, 3) := by decide +kernel
theorem dX9_dualOf_34 : decode cX9_dualOf 34 = .ok (.iconst 0, 1) := by decide +kernel
theorem dX9_dualOf_35 : decode cX9_dualOf 35 = .ok (.ireturn, 1) := by decide +kernel
theorem dX9_dualOf_36 : decode cX9_dualOf 36 = .ok (.iload_n 1, 1) := by decide +kernel
theorem dX9_dualOf_37 : decode cX9_dualOf 37 = .ok (.iconst 2, 1) := by decide +kernel
theorem dX9_dualOf_38 : decode cX9_dualOf 38 = .ok (.irem, 1) := by decide +kernel
theorem dX9_dualOf_39 : decode cX9_dualOf 39 = .ok (.aload_n 0, 1) := by decide +kernel
theorem dX9_dualOf_40 : decode cX9_dualOf 40 = .ok (.getfield 7, 3) := by decide +kernel
theorem dX9_dualOf_43 : decode cX9_dualOf 43 = .ok (.bipush 25, 2) := by decide +kernel
theorem dX9_dualOf_45 : decode cX9_dualOf 45 = .ok (.iload_n 1, 1) := by decide +kernel
theorem dX9_dualOf_46 : decode cX9_dualOf 46 = .ok (.iadd, 1) := by decide +kernel
theorem dX9_dualOf_47 : decode cX9_dualOf 47 = .ok (.iaload, 1) := by decide +kernel
theorem dX9_dualOf_48 : decode cX9_dualOf 48 = .ok (.iconst 2, 1) := by decide +kernel
theorem dX9_dualOf_49 : decode cX9_dualOf 49 = .ok (.irem, 1) := by decide +kernel
theorem dX9_dualOf_50 : decode cX9_dualOf 50 = .ok (.if_icmp .ne 7, 3) := by decide +kernel
theorem dX9_dualOf_53 : decode cX9_dualOf 53 = .ok (.iconst 1, 1) := by decide +kernel
theorem dX9_dualOf_54 : decode cX9_dualOf 54 = .ok (.goto 4, 3) := by decide +kernel
theorem dX9_dualOf_57 : decode cX9_dualOf 57 = .ok (.iconst 0, 1) := by decide +kernel
theorem dX9_dualOf_58 : decode cX9_dualOf 58 = .ok (.istore_n 3, 1) := by decide +kernel
theorem dX9_dualOf_59 : decode cX9_dualOf 59 = .ok (.iload_n 3, 1) := by decide +kernel
theorem dX9_dualOf_60 : decode cX9_dualOf 60 = .ok (.ifCond .eq 9, 3) := by decide +kernel
theorem dX9_dualOf_63 : decode cX9_dualOf 63 = .ok (.iconst 5, 1) := by decide +kernel
theorem dX9_dualOf_64 : decode cX9_dualOf 64 = .ok (.iload_n 2, 1) := by decide +kernel
theorem dX9_dualOf_65 : decode cX9_dualOf 65 = .ok (.isub, 1) := by decide +kernel
theorem dX9_dualOf_66 : decode cX9_dualOf 66 = .ok (.goto 4, 3) := by decide +kernel
theorem dX9_dualOf_69 : decode cX9_dualOf 69 = .ok (.iload_n 2, 1) := by decide +kernel
theorem dX9_dualOf_70 : decode cX9_dualOf 70 = .ok (.ireturn, 1) := by decide +kernel
theorem dX9_isOwnDual_0 : decode cX9_isOwnDual 0 = .ok (.iconst 1, 1) := by decide +kernel
theorem dX9_isOwnDual_1 : decode cX9_isOwnDual 1 = .ok (.istore_n 1, 1) := by decide +kernel
theorem dX9_isOwnDual_2 : decode cX9_isOwnDual 2 = .ok (.iconst 0, 1) := by decide +kernel
theorem dX9_isOwnDual_3 : decode cX9_isOwnDual 3 = .ok (.istore_n 2, 1) := by decide +kernel
theorem dX9_isOwnDual_4 : decode cX9_isOwnDual 4 = .ok (.iload_n 2, 1) := by decide +kernel
theorem dX9_isOwnDual_5 : decode cX9_isOwnDual 5 = .ok (.bipush 8, 2) := by decide +kernel
theorem dX9_isOwnDual_7 : decode cX9_isOwnDual 7 = .ok (.if_icmp .ge 36, 3) := by decide +kernel
theorem dX9_isOwnDual_10 : decode cX9_isOwnDual 10 = .ok (.iload_n 1, 1) := by decide +kernel
theorem dX9_isOwnDual_11 : decode cX9_isOwnDual 11 = .ok (.ifCond .eq 24, 3) := by decide +kernel
theorem dX9_isOwnDual_14 : decode cX9_isOwnDual 14 = .ok (.aload_n 0, 1) := by decide +kernel
theorem dX9_isOwnDual_15 : decode cX9_isOwnDual 15 = .ok (.iload_n 2, 1) := by decide +kernel
theorem dX9_isOwnDual_16 : decode cX9_isOwnDual 16 = .ok (.invokevirtual 145, 3) := by decide +kernel
theorem dX9_isOwnDual_19 : decode cX9_isOwnDual 19 = .ok (.aload_n 0, 1) := by decide +kernel
theorem dX9_isOwnDual_20 : decode cX9_isOwnDual 20 = .ok (.getfield 7, 3) := by decide +kernel
theorem dX9_isOwnDual_23 : decode cX9_isOwnDual 23 = .ok (.bipush 17, 2) := by decide +kernel
theorem dX9_isOwnDual_25 : decode cX9_isOwnDual 25 = .ok (.iload_n 2, 1) := by decide +kernel
theorem dX9_isOwnDual_26 : decode cX9_isOwnDual 26 = .ok (.iadd, 1) := by decide +kernel
theorem dX9_isOwnDual_27 : decode cX9_isOwnDual 27 = .ok (.iaload, 1) := by decide +kernel
theorem dX9_isOwnDual_28 : decode cX9_isOwnDual 28 = .ok (.if_icmp .ne 7, 3) := by decide +kernel
theorem dX9_isOwnDual_31 : decode cX9_isOwnDual 31 = .ok (.iconst 1, 1) := by decide +kernel
theorem dX9_isOwnDual_32 : decode cX9_isOwnDual 32 = .ok (.goto 4, 3) := by decide +kernel
theorem dX9_isOwnDual_35 : decode cX9_isOwnDual 35 = .ok (.iconst 0, 1) := by decide +kernel
theorem dX9_isOwnDual_36 : decode cX9_isOwnDual 36 = .ok (.istore_n 1, 1) := by decide +kernel
theorem dX9_isOwnDual_37 : decode cX9_isOwnDual 37 = .ok (.iinc 2 1, 3) := by decide +kernel
theorem dX9_isOwnDual_40 : decode cX9_isOwnDual 40 = .ok (.goto (-36), 3) := by decide +kernel
theorem dX9_isOwnDual_43 : decode cX9_isOwnDual 43 = .ok (.iload_n 1, 1) := by decide +kernel
theorem dX9_isOwnDual_44 : decode cX9_isOwnDual 44 = .ok (.ireturn, 1) := by decide +kernel
theorem dX9_feed_0 : decode cX9_feed 0 = .ok (.iload_n 1, 1) := by decide +kernel
theorem dX9_feed_1 : decode cX9_feed 1 = .ok (.iconst 0, 1) := by decide +kernel
theorem dX9_feed_2 : decode cX9_feed 2 = .ok (.sipush 255, 3) := by decide +kernel
theorem dX9_feed_5 : decode cX9_feed 5 = .ok (.invokestatic 54, 3) := by decide +kernel
theorem dX9_feed_8 : decode cX9_feed 8 = .ok (.ifCond .ne 6, 3) := by decide +kernel
theorem dX9_feed_11 : decode cX9_feed 11 = .ok (.ldc 148, 2) := by decide +kernel
theorem dX9_feed_13 : decode cX9_feed 13 = .ok (.ireturn, 1) := by decide +kernel
theorem dX9_feed_14 : decode cX9_feed 14 = .ok (.aload_n 0, 1) := by decide +kernel
theorem dX9_feed_15 : decode cX9_feed 15 = .ok (.getfield 149, 3) := by decide +kernel
theorem dX9_feed_18 : decode cX9_feed 18 = .ok (.bipush 30, 2) := by decide +kernel
theorem dX9_feed_20 : decode cX9_feed 20 = .ok (.if_icmp .ne 6, 3) := by decide +kernel
theorem dX9_feed_23 : decode cX9_feed 23 = .ok (.ldc 152, 2) := by decide +kernel
theorem dX9_feed_25 : decode cX9_feed 25 = .ok (.ireturn, 1) := by decide +kernel
theorem dX9_feed_26 : decode cX9_feed 26 = .ok (.aload_n 0, 1) := by decide +kernel
theorem dX9_feed_27 : decode cX9_feed 27 = .ok (.getfield 16, 3) := by decide +kernel
theorem dX9_feed_30 : decode cX9_feed 30 = .ok (.aload_n 0, 1) := by decide +kernel
theorem dX9_feed_31 : decode cX9_feed 31 = .ok (.getfield 149, 3) := by decide +kernel
theorem dX9_feed_34 : decode cX9_feed 34 = .ok (.iload_n 1, 1) := by decide +kernel
theorem dX9_feed_35 : decode cX9_feed 35 = .ok (.iastore, 1) := by decide +kernel
theorem dX9_feed_36 : decode cX9_feed 36 = .ok (.aload_n 0, 1) := by decide +kernel
theorem dX9_feed_37 : decode cX9_feed 37 = .ok (.dup, 1) := by decide +kernel
theorem dX9_feed_38 : decode cX9_feed 38 = .ok (.getfield 149, 3) := by decide +kernel
theorem dX9_feed_41 : decode cX9_feed 41 = .ok (.iconst 1, 1) := by decide +kernel
theorem dX9_feed_42 : decode cX9_feed 42 = .ok (.iadd, 1) := by decide +kernel
theorem dX9_feed_43 : decode cX9_feed 43 = .ok (.putfield 149, 3) := by decide +kernel
theorem dX9_feed_46 : decode cX9_feed 46 = .ok (.aload_n 0, 1) := by decide +kernel
theorem dX9_feed_47 : decode cX9_feed 47 = .ok (.getfield 149, 3) := by decide +kernel
theorem dX9_feed_50 : decode cX9_feed 50 = .ok (.ireturn, 1) := by decide +kernel
theorem dX9_read_0 : decode cX9_read 0 = .ok (.iconst 1, 1) := by decide +kernel
theorem dX9_read_1 : decode cX9_read 1 = .ok (.istore_n 1, 1) := by decide +kernel
theorem dX9_read_2 : decode cX9_read 2 = .ok (.iconst 0, 1) := by decide +kernel
theorem dX9_read_3 : decode cX9_read 3 = .ok (.istore_n 2, 1) := by decide +kernel
theorem dX9_read_4 : decode cX9_read 4 = .ok (.aload_n 0, 1) := by decide +kernel
theorem dX9_read_5 : decode cX9_read 5 = .ok (.iconst 0, 1) := by decide +kernel
theorem dX9_read_6 : decode cX9_read 6 = .ok (.putfield 58, 3) := by decide +kernel
theorem dX9_read_9 : decode cX9_read 9 = .ok (.iconst 0, 1) := by decide +kernel
theorem dX9_read_10 : decode cX9_read 10 = .ok (.istore_n 3, 1) := by decide +kernel
theorem dX9_read_11 : decode cX9_read 11 = .ok (.iload_n 3, 1) := by decide +kernel
theorem dX9_read_12 : decode cX9_read 12 = .ok (.aload_n 0, 1) := by decide +kernel
theorem dX9_read_13 : decode cX9_read 13 = .ok (.getfield 149, 3) := by decide +kernel
theorem dX9_read_16 : decode cX9_read 16 = .ok (.if_icmp .ge 131, 3) := by decide +kernel
theorem dX9_read_19 : decode cX9_read 19 = .ok (.aload_n 0, 1) := by decide +kernel
theorem dX9_read_20 : decode cX9_read 20 = .ok (.getfield 16, 3) := by decide +kernel
theorem dX9_read_23 : decode cX9_read 23 = .ok (.iload_n 3, 1) := by decide +kernel
theorem dX9_read_24 : decode cX9_read 24 = .ok (.iaload, 1) := by decide +kernel
theorem dX9_read_25 : decode cX9_read 25 = .ok (.istore 4, 2) := by decide +kernel
theorem dX9_read_27 : decode cX9_read 27 = .ok (.aload_n 0, 1) := by decide +kernel
theorem dX9_read_28 : decode cX9_read 28 = .ok (.iload_n 3, 1) := by decide +kernel
theorem dX9_read_29 : decode cX9_read 29 = .ok (.putfield 19, 3) := by decide +kernel
theorem dX9_read_32 : decode cX9_read 32 = .ok (.iload_n 1, 1) := by decide +kernel
theorem dX9_read_33 : decode cX9_read 33 = .ok (.ifCond .eq 24, 3) := by decide +kernel
theorem dX9_read_36 : decode cX9_read 36 = .ok (.iload 4, 2) := by decide +kernel
theorem dX9_read_38 : decode cX9_read 38 = .ok (.bipush 46, 2) := by decide +kernel
theorem dX9_read_40 : decode cX9_read 40 = .ok (.if_icmp .eq 19, 3) := by decide +kernel
theorem dX9_read_43 : decode cX9_read 43 = .ok (.iload 4, 2) := by decide +kernel
theorem dX9_read_45 : decode cX9_read 45 = .ok (.bipush 97, 2) := by decide +kernel
theorem dX9_read_47 : decode cX9_read 47 = .ok (.if_icmp .eq 12, 3) := by decide +kernel
theorem dX9_read_50 : decode cX9_read 50 = .ok (.iload 4, 2) := by decide +kernel
theorem dX9_read_52 : decode cX9_read 52 = .ok (.bipush 98, 2) := by decide +kernel
theorem dX9_read_54 : decode cX9_read 54 = .ok (.if_icmp .eq 5, 3) := by decide +kernel
theorem dX9_read_57 : decode cX9_read 57 = .ok (.iconst 1, 1) := by decide +kernel
theorem dX9_read_58 : decode cX9_read 58 = .ok (.ireturn, 1) := by decide +kernel
theorem dX9_read_59 : decode cX9_read 59 = .ok (.iload 4, 2) := by decide +kernel
theorem dX9_read_61 : decode cX9_read 61 = .ok (.bipush 46, 2) := by decide +kernel
theorem dX9_read_63 : decode cX9_read 63 = .ok (.if_icmp .eq 11, 3) := by decide +kernel
theorem dX9_read_66 : decode cX9_read 66 = .ok (.iload_n 2, 1) := by decide +kernel
theorem dX9_read_67 : decode cX9_read 67 = .ok (.bipush 6, 2) := by decide +kernel
theorem dX9_read_69 : decode cX9_read 69 = .ok (.if_icmp .ne 5, 3) := by decide +kernel
theorem dX9_read_72 : decode cX9_read 72 = .ok (.iconst 2, 1) := by decide +kernel
theorem dX9_read_73 : decode cX9_read 73 = .ok (.ireturn, 1) := by decide +kernel
theorem dX9_read_74 : decode cX9_read 74 = .ok (.iload_n 2, 1) := by decide +kernel
theorem dX9_read_75 : decode cX9_read 75 = .ok (.iload 4, 2) := by decide +kernel
theorem dX9_read_77 : decode cX9_read 77 = .ok (.bipush 46, 2) := by decide +kernel
theorem dX9_read_79 : decode cX9_read 79 = .ok (.if_icmp .ne 7, 3) := by decide +kernel
theorem dX9_read_82 : decode cX9_read 82 = .ok (.iconst 0, 1) := by decide +kernel
theorem dX9_read_83 : decode cX9_read 83 = .ok (.goto 4, 3) := by decide +kernel
theorem dX9_read_86 : decode cX9_read 86 = .ok (.iconst 1, 1) := by decide +kernel
theorem dX9_read_87 : decode cX9_read 87 = .ok (.iadd, 1) := by decide +kernel
theorem dX9_read_88 : decode cX9_read 88 = .ok (.istore_n 2, 1) := by decide +kernel
theorem dX9_read_89 : decode cX9_read 89 = .ok (.iload_n 1, 1) := by decide +kernel
theorem dX9_read_90 : decode cX9_read 90 = .ok (.iload 4, 2) := by decide +kernel
theorem dX9_read_92 : decode cX9_read 92 = .ok (.bipush 46, 2) := by decide +kernel
theorem dX9_read_94 : decode cX9_read 94 = .ok (.if_icmp .ne 7, 3) := by decide +kernel
theorem dX9_read_97 : decode cX9_read 97 = .ok (.iconst (-1), 1) := by decide +kernel
theorem dX9_read_98 : decode cX9_read 98 = .ok (.goto 4, 3) := by decide +kernel
theorem dX9_read_101 : decode cX9_read 101 = .ok (.iconst 1, 1) := by decide +kernel
theorem dX9_read_102 : decode cX9_read 102 = .ok (.iadd, 1) := by decide +kernel
theorem dX9_read_103 : decode cX9_read 103 = .ok (.istore_n 1, 1) := by decide +kernel
theorem dX9_read_104 : decode cX9_read 104 = .ok (.aload_n 0, 1) := by decide +kernel
theorem dX9_read_105 : decode cX9_read 105 = .ok (.getfield 29, 3) := by decide +kernel
theorem dX9_read_108 : decode cX9_read 108 = .ok (.aload_n 0, 1) := by decide +kernel
theorem dX9_read_109 : decode cX9_read 109 = .ok (.getfield 58, 3) := by decide +kernel
theorem dX9_read_112 : decode cX9_read 112 = .ok (.iload 4, 2) := by decide +kernel
theorem dX9_read_114 : decode cX9_read 114 = .ok (.bipush 46, 2) := by decide +kernel
theorem dX9_read_116 : decode cX9_read 116 = .ok (.if_icmp .ne 7, 3) := by decide +kernel
theorem dX9_read_119 : decode cX9_read 119 = .ok (.iconst 0, 1) := by decide +kernel
theorem dX9_read_120 : decode cX9_read 120 = .ok (.goto 10, 3) := by decide +kernel
theorem dX9_read_123 : decode cX9_read 123 = .ok (.iload 4, 2) := by decide +kernel
theorem dX9_read_125 : decode cX9_read 125 = .ok (.bipush 97, 2) := by decide +kernel
theorem dX9_read_127 : decode cX9_read 127 = .ok (.isub, 1) := by decide +kernel
theorem dX9_read_128 : decode cX9_read 128 = .ok (.iconst 1, 1) := by decide +kernel
theorem dX9_read_129 : decode cX9_read 129 = .ok (.iadd, 1) := by decide +kernel
theorem dX9_read_130 : decode cX9_read 130 = .ok (.iastore, 1) := by decide +kernel
theorem dX9_read_131 : decode cX9_read 131 = .ok (.aload_n 0, 1) := by decide +kernel
theorem dX9_read_132 : decode cX9_read 132 = .ok (.dup, 1) := by decide +kernel
theorem dX9_read_133 : decode cX9_read 133 = .ok (.getfield 58, 3) := by decide +kernel
theorem dX9_read_136 : decode cX9_read 136 = .ok (.iconst 1, 1) := by decide +kernel
theorem dX9_read_137 : decode cX9_read 137 = .ok (.iadd, 1) := by decide +kernel
theorem dX9_read_138 : decode cX9_read 138 = .ok (.putfield 58, 3) := by decide +kernel
theorem dX9_read_141 : decode cX9_read 141 = .ok (.iinc 3 1, 3) := by decide +kernel
theorem dX9_read_144 : decode cX9_read 144 = .ok (.goto (-133), 3) := by decide +kernel
theorem dX9_read_147 : decode cX9_read 147 = .ok (.aload_n 0, 1) := by decide +kernel
theorem dX9_read_148 : decode cX9_read 148 = .ok (.iload_n 1, 1) := by decide +kernel
theorem dX9_read_149 : decode cX9_read 149 = .ok (.ifCond .ne 7, 3) := by decide +kernel
theorem dX9_read_152 : decode cX9_read 152 = .ok (.iconst (-1), 1) := by decide +kernel
theorem dX9_read_153 : decode cX9_read 153 = .ok (.goto 7, 3) := by decide +kernel
theorem dX9_read_156 : decode cX9_read 156 = .ok (.aload_n 0, 1) := by decide +kernel
theorem dX9_read_157 : decode cX9_read 157 = .ok (.getfield 149, 3) := by decide +kernel
theorem dX9_read_160 : decode cX9_read 160 = .ok (.putfield 19, 3) := by decide +kernel
theorem dX9_read_163 : decode cX9_read 163 = .ok (.iload_n 1, 1) := by decide +kernel
theorem dX9_read_164 : decode cX9_read 164 = .ok (.ifCond .ne 7, 3) := by decide +kernel
theorem dX9_read_167 : decode cX9_read 167 = .ok (.iconst 0, 1) := by decide +kernel
theorem dX9_read_168 : decode cX9_read 168 = .ok (.goto 4, 3) := by decide +kernel
theorem dX9_read_171 : decode cX9_read 171 = .ok (.iconst 1, 1) := by decide +kernel
theorem dX9_read_172 : decode cX9_read 172 = .ok (.ireturn, 1) := by decide +kernel
theorem dX9_tell_0 : decode cX9_tell 0 = .ok (.aload_n 0, 1) := by decide +kernel
theorem dX9_tell_1 : decode cX9_tell 1 = .ok (.getfield 7, 3) := by decide +kernel
theorem dX9_tell_4 : decode cX9_tell 4 = .ok (.iconst 0, 1) := by decide +kernel
theorem dX9_tell_5 : decode cX9_tell 5 = .ok (.iaload, 1) := by decide +kernel
theorem dX9_tell_6 : decode cX9_tell 6 = .ok (.bipush 8, 2) := by decide +kernel
theorem dX9_tell_8 : decode cX9_tell 8 = .ok (.if_icmp .ne 6, 3) := by decide +kernel
theorem dX9_tell_11 : decode cX9_tell 11 = .ok (.ldc 152, 2) := by decide +kernel
theorem dX9_tell_13 : decode cX9_tell 13 = .ok (.ireturn, 1) := by decide +kernel
theorem dX9_tell_14 : decode cX9_tell 14 = .ok (.aload_n 0, 1) := by decide +kernel
theorem dX9_tell_15 : decode cX9_tell 15 = .ok (.invokevirtual 153, 3) := by decide +kernel
theorem dX9_tell_18 : decode cX9_tell 18 = .ok (.istore_n 1, 1) := by decide +kernel
theorem dX9_tell_19 : decode cX9_tell 19 = .ok (.aload_n 0, 1) := by decide +kernel
theorem dX9_tell_20 : decode cX9_tell 20 = .ok (.iconst 0, 1) := by decide +kernel
theorem dX9_tell_21 : decode cX9_tell 21 = .ok (.putfield 149, 3) := by decide +kernel
theorem dX9_tell_24 : decode cX9_tell 24 = .ok (.iload_n 1, 1) := by decide +kernel
theorem dX9_tell_25 : decode cX9_tell 25 = .ok (.ifCond .eq 8, 3) := by decide +kernel
theorem dX9_tell_28 : decode cX9_tell 28 = .ok (.bipush (-10), 2) := by decide +kernel
theorem dX9_tell_30 : decode cX9_tell 30 = .ok (.iload_n 1, 1) := by decide +kernel
theorem dX9_tell_31 : decode cX9_tell 31 = .ok (.isub, 1) := by decide +kernel
theorem dX9_tell_32 : decode cX9_tell 32 = .ok (.ireturn, 1) := by decide +kernel
theorem dX9_tell_33 : decode cX9_tell 33 = .ok (.aload_n 0, 1) := by decide +kernel
theorem dX9_tell_34 : decode cX9_tell 34 = .ok (.iconst 1, 1) := by decide +kernel
theorem dX9_tell_35 : decode cX9_tell 35 = .ok (.putfield 61, 3) := by decide +kernel
theorem dX9_tell_38 : decode cX9_tell 38 = .ok (.aload_n 0, 1) := by decide +kernel
theorem dX9_tell_39 : decode cX9_tell 39 = .ok (.invokevirtual 156, 3) := by decide +kernel
theorem dX9_tell_42 : decode cX9_tell 42 = .ok (.aload_n 0, 1) := by decide +kernel
theorem dX9_tell_43 : decode cX9_tell 43 = .ok (.invokevirtual 159, 3) := by decide +kernel
theorem dX9_tell_46 : decode cX9_tell 46 = .ok (.ireturn, 1) := by decide +kernel
theorem dX9_fault_0 : decode cX9_fault 0 = .ok (.aload_n 0, 1) := by decide +kernel
theorem dX9_fault_1 : decode cX9_fault 1 = .ok (.getfield 19, 3) := by decide +kernel
theorem dX9_fault_4 : decode cX9_fault 4 = .ok (.ireturn, 1) := by decide +kernel
theorem dX9_wrongEntry_0 : decode cX9_wrongEntry 0 = .ok (.iconst 0, 1) := by decide +kernel
theorem dX9_wrongEntry_1 : decode cX9_wrongEntry 1 = .ok (.istore_n 1, 1) := by decide +kernel
theorem dX9_wrongEntry_2 : decode cX9_wrongEntry 2 = .ok (.iload_n 1, 1) := by decide +kernel
theorem dX9_wrongEntry_3 : decode cX9_wrongEntry 3 = .ok (.aload_n 0, 1) := by decide +kernel
theorem dX9_wrongEntry_4 : decode cX9_wrongEntry 4 = .ok (.getfield 162, 3) := by decide +kernel
theorem dX9_wrongEntry_7 : decode cX9_wrongEntry 7 = .ok (.if_icmp .ge 46, 3) := by decide +kernel
theorem dX9_wrongEntry_10 : decode cX9_wrongEntry 10 = .ok (.aload_n 0, 1) := by decide +kernel
theorem dX9_wrongEntry_11 : decode cX9_wrongEntry 11 = .ok (.aload_n 0, 1) := by decide +kernel
theorem dX9_wrongEntry_12 : decode cX9_wrongEntry 12 = .ok (.getfield 23, 3) := by decide +kernel
theorem dX9_wrongEntry_15 : decode cX9_wrongEntry 15 = .ok (.iload_n 1, 1) := by decide +kernel
theorem dX9_wrongEntry_16 : decode cX9_wrongEntry 16 = .ok (.iaload, 1) := by decide +kernel
theorem dX9_wrongEntry_17 : decode cX9_wrongEntry 17 = .ok (.invokevirtual 165, 3) := by decide +kernel
theorem dX9_wrongEntry_20 : decode cX9_wrongEntry 20 = .ok (.ifCond .eq 25, 3) := by decide +kernel
theorem dX9_wrongEntry_23 : decode cX9_wrongEntry 23 = .ok (.aload_n 0, 1) := by decide +kernel
theorem dX9_wrongEntry_24 : decode cX9_wrongEntry 24 = .ok (.getfield 7, 3) := by decide +kernel
theorem dX9_wrongEntry_27 : decode cX9_wrongEntry 27 = .ok (.iconst 1, 1) := by decide +kernel
theorem dX9_wrongEntry_28 : decode cX9_wrongEntry 28 = .ok (.aload_n 0, 1) := by decide +kernel
theorem dX9_wrongEntry_29 : decode cX9_wrongEntry 29 = .ok (.getfield 23, 3) := by decide +kernel
theorem dX9_wrongEntry_32 : decode cX9_wrongEntry 32 = .ok (.iload_n 1, 1) := by decide +kernel
theorem dX9_wrongEntry_33 : decode cX9_wrongEntry 33 = .ok (.iaload, 1) := by decide +kernel
theorem dX9_wrongEntry_34 : decode cX9_wrongEntry 34 = .ok (.iadd, 1) := by decide +kernel
theorem dX9_wrongEntry_35 : decode cX9_wrongEntry 35 = .ok (.iaload, 1) := by decide +kernel
theorem dX9_wrongEntry_36 : decode cX9_wrongEntry 36 = .ok (.aload_n 0, 1) := by decide +kernel
theorem dX9_wrongEntry_37 : decode cX9_wrongEntry 37 = .ok (.getfield 26, 3) := by decide +kernel
theorem dX9_wrongEntry_40 : decode cX9_wrongEntry 40 = .ok (.iload_n 1, 1) := by decide +kernel
theorem dX9_wrongEntry_41 : decode cX9_wrongEntry 41 = .ok (.iaload, 1) := by decide +kernel
theorem dX9_wrongEntry_42 : decode cX9_wrongEntry 42 = .ok (.if_icmp .eq 5, 3) := by decide +kernel
theorem dX9_wrongEntry_45 : decode cX9_wrongEntry 45 = .ok (.iload_n 1, 1) := by decide +kernel
theorem dX9_wrongEntry_46 : decode cX9_wrongEntry 46 = .ok (.ireturn, 1) := by decide +kernel
theorem dX9_wrongEntry_47 : decode cX9_wrongEntry 47 = .ok (.iinc 1 1, 3) := by decide +kernel
theorem dX9_wrongEntry_50 : decode cX9_wrongEntry 50 = .ok (.goto (-48), 3) := by decide +kernel
theorem dX9_wrongEntry_53 : decode cX9_wrongEntry 53 = .ok (.iconst (-1), 1) := by decide +kernel
theorem dX9_wrongEntry_54 : decode cX9_wrongEntry 54 = .ok (.ireturn, 1) := by decide +kernel
theorem dX9_told_0 : decode cX9_told 0 = .ok (.iload_n 1, 1) := by decide +kernel
theorem dX9_told_1 : decode cX9_told 1 = .ok (.tableswitch 124 0 9 #[55, 62, 67, 72, 77, 82, 96, 109, 114, 119], 55) := by decide +kernel
theorem dX9_told_56 : decode cX9_told 56 = .ok (.aload_n 0, 1) := by decide +kernel
theorem dX9_told_57 : decode cX9_told 57 = .ok (.getfield 7, 3) := by decide +kernel
theorem dX9_told_60 : decode cX9_told 60 = .ok (.iconst 0, 1) := by decide +kernel
theorem dX9_told_61 : decode cX9_told 61 = .ok (.iaload, 1) := by decide +kernel
theorem dX9_told_62 : decode cX9_told 62 = .ok (.ireturn, 1) := by decide +kernel
theorem dX9_told_63 : decode cX9_told 63 = .ok (.aload_n 0, 1) := by decide +kernel
theorem dX9_told_64 : decode cX9_told 64 = .ok (.getfield 149, 3) := by decide +kernel
theorem dX9_told_67 : decode cX9_told 67 = .ok (.ireturn, 1) := by decide +kernel
theorem dX9_told_68 : decode cX9_told 68 = .ok (.aload_n 0, 1) := by decide +kernel
theorem dX9_told_69 : decode cX9_told 69 = .ok (.invokevirtual 168, 3) := by decide +kernel
theorem dX9_told_72 : decode cX9_told 72 = .ok (.ireturn, 1) := by decide +kernel
theorem dX9_told_73 : decode cX9_told 73 = .ok (.aload_n 0, 1) := by decide +kernel
theorem dX9_told_74 : decode cX9_told 74 = .ok (.invokevirtual 171, 3) := by decide +kernel
theorem dX9_told_77 : decode cX9_told 77 = .ok (.ireturn, 1) := by decide +kernel
theorem dX9_told_78 : decode cX9_told 78 = .ok (.aload_n 0, 1) := by decide +kernel
theorem dX9_told_79 : decode cX9_told 79 = .ok (.invokevirtual 174, 3) := by decide +kernel
theorem dX9_told_82 : decode cX9_told 82 = .ok (.ireturn, 1) := by decide +kernel
theorem dX9_told_83 : decode cX9_told 83 = .ok (.aload_n 0, 1) := by decide +kernel
theorem dX9_told_84 : decode cX9_told 84 = .ok (.invokevirtual 174, 3) := by decide +kernel
theorem dX9_told_87 : decode cX9_told 87 = .ok (.iconst (-1), 1) := by decide +kernel
theorem dX9_told_88 : decode cX9_told 88 = .ok (.if_icmp .ne 7, 3) := by decide +kernel
theorem dX9_told_91 : decode cX9_told 91 = .ok (.iconst 1, 1) := by decide +kernel
theorem dX9_told_92 : decode cX9_told 92 = .ok (.goto 4, 3) := by decide +kernel
theorem dX9_told_95 : decode cX9_told 95 = .ok (.iconst 0, 1) := by decide +kernel
theorem dX9_told_96 : decode cX9_told 96 = .ok (.ireturn, 1) := by decide +kernel
theorem dX9_told_97 : decode cX9_told 97 = .ok (.aload_n 0, 1) := by decide +kernel
theorem dX9_told_98 : decode cX9_told 98 = .ok (.invokevirtual 177, 3) := by decide +kernel
theorem dX9_told_101 : decode cX9_told 101 = .ok (.ifCond .eq 7, 3) := by decide +kernel
theorem dX9_told_104 : decode cX9_told 104 = .ok (.iconst 1, 1) := by decide +kernel
theorem dX9_told_105 : decode cX9_told 105 = .ok (.goto 4, 3) := by decide +kernel
theorem dX9_told_108 : decode cX9_told 108 = .ok (.iconst 0, 1) := by decide +kernel
theorem dX9_told_109 : decode cX9_told 109 = .ok (.ireturn, 1) := by decide +kernel
theorem dX9_told_110 : decode cX9_told 110 = .ok (.aload_n 0, 1) := by decide +kernel
theorem dX9_told_111 : decode cX9_told 111 = .ok (.getfield 162, 3) := by decide +kernel
theorem dX9_told_114 : decode cX9_told 114 = .ok (.ireturn, 1) := by decide +kernel
theorem dX9_told_115 : decode cX9_told 115 = .ok (.aload_n 0, 1) := by decide +kernel
theorem dX9_told_116 : decode cX9_told 116 = .ok (.invokevirtual 180, 3) := by decide +kernel
theorem dX9_told_119 : decode cX9_told 119 = .ok (.ireturn, 1) := by decide +kernel
theorem dX9_told_120 : decode cX9_told 120 = .ok (.aload_n 0, 1) := by decide +kernel
theorem dX9_told_121 : decode cX9_told 121 = .ok (.getfield 183, 3) := by decide +kernel
theorem dX9_told_124 : decode cX9_told 124 = .ok (.ireturn, 1) := by decide +kernel
theorem dX9_told_125 : decode cX9_told 125 = .ok (.ldc 148, 2) := by decide +kernel
theorem dX9_told_127 : decode cX9_told 127 = .ok (.ireturn, 1) := by decide +kernel
theorem dX9_turnedCode_0 : decode cX9_turnedCode 0 = .ok (.aload_n 0, 1) := by decide +kernel
theorem dX9_turnedCode_1 : decode cX9_turnedCode 1 = .ok (.invokevirtual 186, 3) := by decide +kernel
theorem dX9_turnedCode_4 : decode cX9_turnedCode 4 = .ok (.aload_n 0, 1) := by decide +kernel
theorem dX9_turnedCode_5 : decode cX9_turnedCode 5 = .ok (.invokevirtual 117, 3) := by decide +kernel
theorem dX9_turnedCode_8 : decode cX9_turnedCode 8 = .ok (.ireturn, 1) := by decide +kernel
theorem dX9_ofPlain_0 : decode cX9_ofPlain 0 = .ok (.aload_n 0, 1) := by decide +kernel
theorem dX9_ofPlain_1 : decode cX9_ofPlain 1 = .ok (.invokevirtual 114, 3) := by decide +kernel
theorem dX9_ofPlain_4 : decode cX9_ofPlain 4 = .ok (.istore_n 2, 1) := by decide +kernel
theorem dX9_ofPlain_5 : decode cX9_ofPlain 5 = .ok (.iload_n 2, 1) := by decide +kernel
theorem dX9_ofPlain_6 : decode cX9_ofPlain 6 = .ok (.iconst (-1), 1) := by decide +kernel
theorem dX9_ofPlain_7 : decode cX9_ofPlain 7 = .ok (.if_icmp .ne 5, 3) := by decide +kernel
theorem dX9_ofPlain_10 : decode cX9_ofPlain 10 = .ok (.iconst (-1), 1) := by decide +kernel
theorem dX9_ofPlain_11 : decode cX9_ofPlain 11 = .ok (.ireturn, 1) := by decide +kernel
theorem dX9_ofPlain_12 : decode cX9_ofPlain 12 = .ok (.iload_n 1, 1) := by decide +kernel
theorem dX9_ofPlain_13 : decode cX9_ofPlain 13 = .ok (.iconst 4, 1) := by decide +kernel
theorem dX9_ofPlain_14 : decode cX9_ofPlain 14 = .ok (.if_icmp .ne 7, 3) := by decide +kernel
theorem dX9_ofPlain_17 : decode cX9_ofPlain 17 = .ok (.iload_n 2, 1) := by decide +kernel
theorem dX9_ofPlain_18 : decode cX9_ofPlain 18 = .ok (.goto 21, 3) := by decide +kernel
theorem dX9_ofPlain_21 : decode cX9_ofPlain 21 = .ok (.iload_n 1, 1) := by decide +kernel
theorem dX9_ofPlain_22 : decode cX9_ofPlain 22 = .ok (.iconst 5, 1) := by decide +kernel
theorem dX9_ofPlain_23 : decode cX9_ofPlain 23 = .ok (.if_icmp .ne 10, 3) := by decide +kernel
theorem dX9_ofPlain_26 : decode cX9_ofPlain 26 = .ok (.aload_n 0, 1) := by decide +kernel
theorem dX9_ofPlain_27 : decode cX9_ofPlain 27 = .ok (.invokevirtual 117, 3) := by decide +kernel
theorem dX9_ofPlain_30 : decode cX9_ofPlain 30 = .ok (.goto 9, 3) := by decide +kernel
theorem dX9_ofPlain_33 : decode cX9_ofPlain 33 = .ok (.aload_n 0, 1) := by decide +kernel
theorem dX9_ofPlain_34 : decode cX9_ofPlain 34 = .ok (.getfield 61, 3) := by decide +kernel
theorem dX9_ofPlain_37 : decode cX9_ofPlain 37 = .ok (.iconst 1, 1) := by decide +kernel
theorem dX9_ofPlain_38 : decode cX9_ofPlain 38 = .ok (.iadd, 1) := by decide +kernel
theorem dX9_ofPlain_39 : decode cX9_ofPlain 39 = .ok (.ireturn, 1) := by decide +kernel
theorem dX9_tree_0 : decode cX9_tree 0 = .ok (.aload_n 0, 1) := by decide +kernel
theorem dX9_tree_1 : decode cX9_tree 1 = .ok (.iload_n 1, 1) := by decide +kernel
theorem dX9_tree_2 : decode cX9_tree 2 = .ok (.invokevirtual 165, 3) := by decide +kernel
theorem dX9_tree_5 : decode cX9_tree 5 = .ok (.ifCond .ne 6, 3) := by decide +kernel
theorem dX9_tree_8 : decode cX9_tree 8 = .ok (.ldc 189, 2) := by decide +kernel
theorem dX9_tree_10 : decode cX9_tree 10 = .ok (.ireturn, 1) := by decide +kernel
theorem dX9_tree_11 : decode cX9_tree 11 = .ok (.aload_n 0, 1) := by decide +kernel
theorem dX9_tree_12 : decode cX9_tree 12 = .ok (.iload_n 1, 1) := by decide +kernel
theorem dX9_tree_13 : decode cX9_tree 13 = .ok (.invokevirtual 190, 3) := by decide +kernel
theorem dX9_tree_16 : decode cX9_tree 16 = .ok (.iload_n 2, 1) := by decide +kernel
theorem dX9_tree_17 : decode cX9_tree 17 = .ok (.tableswitch 98 0 8 #[51, 60, 72, 77, 82, 82, 82, 88, 93], 51) := by decide +kernel
theorem dX9_tree_68 : decode cX9_tree 68 = .ok (.aload_n 0, 1) := by decide +kernel
theorem dX9_tree_69 : decode cX9_tree 69 = .ok (.getfield 7, 3) := by decide +kernel
theorem dX9_tree_72 : decode cX9_tree 72 = .ok (.iconst 1, 1) := by decide +kernel
theorem dX9_tree_73 : decode cX9_tree 73 = .ok (.iload_n 1, 1) := by decide +kernel
theorem dX9_tree_74 : decode cX9_tree 74 = .ok (.iadd, 1) := by decide +kernel
theorem dX9_tree_75 : decode cX9_tree 75 = .ok (.iaload, 1) := by decide +kernel
theorem dX9_tree_76 : decode cX9_tree 76 = .ok (.ireturn, 1) := by decide +kernel
theorem dX9_tree_77 : decode cX9_tree 77 = .ok (.aload_n 0, 1) := by decide +kernel
theorem dX9_tree_78 : decode cX9_tree 78 = .ok (.getfield 7, 3) := by decide +kernel
theorem dX9_tree_81 : decode cX9_tree 81 = .ok (.bipush 9, 2) := by decide +kernel
theorem dX9_tree_83 : decode cX9_tree 83 = .ok (.iload_n 1, 1) := by decide +kernel
theorem dX9_tree_84 : decode cX9_tree 84 = .ok (.iadd, 1) := by decide +kernel
theorem dX9_tree_85 : decode cX9_tree 85 = .ok (.iaload, 1) := by decide +kernel
theorem dX9_tree_86 : decode cX9_tree 86 = .ok (.iconst 1, 1) := by decide +kernel
theorem dX9_tree_87 : decode cX9_tree 87 = .ok (.iadd, 1) := by decide +kernel
theorem dX9_tree_88 : decode cX9_tree 88 = .ok (.ireturn, 1) := by decide +kernel
theorem dX9_tree_89 : decode cX9_tree 89 = .ok (.aload_n 0, 1) := by decide +kernel
theorem dX9_tree_90 : decode cX9_tree 90 = .ok (.invokevirtual 193, 3) := by decide +kernel
theorem dX9_tree_93 : decode cX9_tree 93 = .ok (.ireturn, 1) := by decide +kernel
theorem dX9_tree_94 : decode cX9_tree 94 = .ok (.aload_n 0, 1) := by decide +kernel
theorem dX9_tree_95 : decode cX9_tree 95 = .ok (.invokevirtual 106, 3) := by decide +kernel
theorem dX9_tree_98 : decode cX9_tree 98 = .ok (.ireturn, 1) := by decide +kernel
theorem dX9_tree_99 : decode cX9_tree 99 = .ok (.aload_n 0, 1) := by decide +kernel
theorem dX9_tree_100 : decode cX9_tree 100 = .ok (.iload_n 2, 1) := by decide +kernel
theorem dX9_tree_101 : decode cX9_tree 101 = .ok (.invokevirtual 196, 3) := by decide +kernel
theorem dX9_tree_104 : decode cX9_tree 104 = .ok (.ireturn, 1) := by decide +kernel
theorem dX9_tree_105 : decode cX9_tree 105 = .ok (.aload_n 0, 1) := by decide +kernel
theorem dX9_tree_106 : decode cX9_tree 106 = .ok (.invokevirtual 199, 3) := by decide +kernel
theorem dX9_tree_109 : decode cX9_tree 109 = .ok (.ireturn, 1) := by decide +kernel
theorem dX9_tree_110 : decode cX9_tree 110 = .ok (.aload_n 0, 1) := by decide +kernel
theorem dX9_tree_111 : decode cX9_tree 111 = .ok (.invokevirtual 202, 3) := by decide +kernel
theorem dX9_tree_114 : decode cX9_tree 114 = .ok (.ireturn, 1) := by decide +kernel
theorem dX9_tree_115 : decode cX9_tree 115 = .ok (.ldc 148, 2) := by decide +kernel
theorem dX9_tree_117 : decode cX9_tree 117 = .ok (.ireturn, 1) := by decide +kernel
theorem dX9_pattern_0 : decode cX9_pattern 0 = .ok (.aload_n 0, 1) := by decide +kernel
theorem dX9_pattern_1 : decode cX9_pattern 1 = .ok (.iload_n 1, 1) := by decide +kernel
theorem dX9_pattern_2 : decode cX9_pattern 2 = .ok (.invokevirtual 205, 3) := by decide +kernel
theorem dX9_pattern_5 : decode cX9_pattern 5 = .ok (.ifCond .ne 6, 3) := by decide +kernel
theorem dX9_pattern_8 : decode cX9_pattern 8 = .ok (.ldc 189, 2) := by decide +kernel
theorem dX9_pattern_10 : decode cX9_pattern 10 = .ok (.ireturn, 1) := by decide +kernel
theorem dX9_pattern_11 : decode cX9_pattern 11 = .ok (.iload_n 2, 1) := by decide +kernel
theorem dX9_pattern_12 : decode cX9_pattern 12 = .ok (.tableswitch 54 0 2 #[28, 38, 48], 28) := by decide +kernel
theorem dX9_pattern_40 : decode cX9_pattern 40 = .ok (.aload_n 0, 1) := by decide +kernel
theorem dX9_pattern_41 : decode cX9_pattern 41 = .ok (.getfield 7, 3) := by decide +kernel
theorem dX9_pattern_44 : decode cX9_pattern 44 = .ok (.bipush 17, 2) := by decide +kernel
theorem dX9_pattern_46 : decode cX9_pattern 46 = .ok (.iload_n 1, 1) := by decide +kernel
theorem dX9_pattern_47 : decode cX9_pattern 47 = .ok (.iadd, 1) := by decide +kernel
theorem dX9_pattern_48 : decode cX9_pattern 48 = .ok (.iaload, 1) := by decide +kernel
theorem dX9_pattern_49 : decode cX9_pattern 49 = .ok (.ireturn, 1) := by decide +kernel
theorem dX9_pattern_50 : decode cX9_pattern 50 = .ok (.aload_n 0, 1) := by decide +kernel
theorem dX9_pattern_51 : decode cX9_pattern 51 = .ok (.getfield 7, 3) := by decide +kernel
theorem dX9_pattern_54 : decode cX9_pattern 54 = .ok (.bipush 25, 2) := by decide +kernel
theorem dX9_pattern_56 : decode cX9_pattern 56 = .ok (.iload_n 1, 1) := by decide +kernel
theorem dX9_pattern_57 : decode cX9_pattern 57 = .ok (.iadd, 1) := by decide +kernel
theorem dX9_pattern_58 : decode cX9_pattern 58 = .ok (.iaload, 1) := by decide +kernel
theorem dX9_pattern_59 : decode cX9_pattern 59 = .ok (.ireturn, 1) := by decide +kernel
theorem dX9_pattern_60 : decode cX9_pattern 60 = .ok (.aload_n 0, 1) := by decide +kernel
theorem dX9_pattern_61 : decode cX9_pattern 61 = .ok (.iload_n 1, 1) := by decide +kernel
theorem dX9_pattern_62 : decode cX9_pattern 62 = .ok (.invokevirtual 142, 3) := by decide +kernel
theorem dX9_pattern_65 : decode cX9_pattern 65 = .ok (.ireturn, 1) := by decide +kernel
theorem dX9_pattern_66 : decode cX9_pattern 66 = .ok (.ldc 148, 2) := by decide +kernel
theorem dX9_pattern_68 : decode cX9_pattern 68 = .ok (.ireturn, 1) := by decide +kernel
theorem dX9_same_0 : decode cX9_same 0 = .ok (.aload_n 0, 1) := by decide +kernel
theorem dX9_same_1 : decode cX9_same 1 = .ok (.iload_n 1, 1) := by decide +kernel
theorem dX9_same_2 : decode cX9_same 2 = .ok (.invokevirtual 165, 3) := by decide +kernel
theorem dX9_same_5 : decode cX9_same 5 = .ok (.ifCond .eq 11, 3) := by decide +kernel
theorem dX9_same_8 : decode cX9_same 8 = .ok (.aload_n 0, 1) := by decide +kernel
theorem dX9_same_9 : decode cX9_same 9 = .ok (.iload_n 2, 1) := by decide +kernel
theorem dX9_same_10 : decode cX9_same 10 = .ok (.invokevirtual 165, 3) := by decide +kernel
theorem dX9_same_13 : decode cX9_same 13 = .ok (.ifCond .ne 6, 3) := by decide +kernel
theorem dX9_same_16 : decode cX9_same 16 = .ok (.ldc 189, 2) := by decide +kernel
theorem dX9_same_18 : decode cX9_same 18 = .ok (.ireturn, 1) := by decide +kernel
theorem dX9_same_19 : decode cX9_same 19 = .ok (.aload_n 0, 1) := by decide +kernel
theorem dX9_same_20 : decode cX9_same 20 = .ok (.iload_n 1, 1) := by decide +kernel
theorem dX9_same_21 : decode cX9_same 21 = .ok (.invokevirtual 190, 3) := by decide +kernel
theorem dX9_same_24 : decode cX9_same 24 = .ok (.aload_n 0, 1) := by decide +kernel
theorem dX9_same_25 : decode cX9_same 25 = .ok (.invokevirtual 114, 3) := by decide +kernel
theorem dX9_same_28 : decode cX9_same 28 = .ok (.iconst (-1), 1) := by decide +kernel
theorem dX9_same_29 : decode cX9_same 29 = .ok (.if_icmp .ne 7, 3) := by decide +kernel
theorem dX9_same_32 : decode cX9_same 32 = .ok (.iconst (-1), 1) := by decide +kernel
theorem dX9_same_33 : decode cX9_same 33 = .ok (.goto 16, 3) := by decide +kernel
theorem dX9_same_36 : decode cX9_same 36 = .ok (.iconst 3, 1) := by decide +kernel
theorem dX9_same_37 : decode cX9_same 37 = .ok (.aload_n 0, 1) := by decide +kernel
theorem dX9_same_38 : decode cX9_same 38 = .ok (.invokevirtual 117, 3) := by decide +kernel
theorem dX9_same_41 : decode cX9_same 41 = .ok (.imul, 1) := by decide +kernel
theorem dX9_same_42 : decode cX9_same 42 = .ok (.aload_n 0, 1) := by decide +kernel
theorem dX9_same_43 : decode cX9_same 43 = .ok (.getfield 61, 3) := by decide +kernel
theorem dX9_same_46 : decode cX9_same 46 = .ok (.iadd, 1) := by decide +kernel
theorem dX9_same_47 : decode cX9_same 47 = .ok (.iconst 1, 1) := by decide +kernel
theorem dX9_same_48 : decode cX9_same 48 = .ok (.iadd, 1) := by decide +kernel
theorem dX9_same_49 : decode cX9_same 49 = .ok (.istore_n 3, 1) := by decide +kernel
theorem dX9_same_50 : decode cX9_same 50 = .ok (.aload_n 0, 1) := by decide +kernel
theorem dX9_same_51 : decode cX9_same 51 = .ok (.iload_n 2, 1) := by decide +kernel
theorem dX9_same_52 : decode cX9_same 52 = .ok (.invokevirtual 190, 3) := by decide +kernel
theorem dX9_same_55 : decode cX9_same 55 = .ok (.aload_n 0, 1) := by decide +kernel
theorem dX9_same_56 : decode cX9_same 56 = .ok (.invokevirtual 114, 3) := by decide +kernel
theorem dX9_same_59 : decode cX9_same 59 = .ok (.iconst (-1), 1) := by decide +kernel
theorem dX9_same_60 : decode cX9_same 60 = .ok (.if_icmp .ne 7, 3) := by decide +kernel
theorem dX9_same_63 : decode cX9_same 63 = .ok (.iconst (-1), 1) := by decide +kernel
theorem dX9_same_64 : decode cX9_same 64 = .ok (.goto 16, 3) := by decide +kernel
theorem dX9_same_67 : decode cX9_same 67 = .ok (.iconst 3, 1) := by decide +kernel
theorem dX9_same_68 : decode cX9_same 68 = .ok (.aload_n 0, 1) := by decide +kernel
theorem dX9_same_69 : decode cX9_same 69 = .ok (.invokevirtual 117, 3) := by decide +kernel
theorem dX9_same_72 : decode cX9_same 72 = .ok (.imul, 1) := by decide +kernel
theorem dX9_same_73 : decode cX9_same 73 = .ok (.aload_n 0, 1) := by decide +kernel
theorem dX9_same_74 : decode cX9_same 74 = .ok (.getfield 61, 3) := by decide +kernel
theorem dX9_same_77 : decode cX9_same 77 = .ok (.iadd, 1) := by decide +kernel
theorem dX9_same_78 : decode cX9_same 78 = .ok (.iconst 1, 1) := by decide +kernel
theorem dX9_same_79 : decode cX9_same 79 = .ok (.iadd, 1) := by decide +kernel
theorem dX9_same_80 : decode cX9_same 80 = .ok (.istore 4, 2) := by decide +kernel
theorem dX9_same_82 : decode cX9_same 82 = .ok (.iload_n 3, 1) := by decide +kernel
theorem dX9_same_83 : decode cX9_same 83 = .ok (.iconst (-1), 1) := by decide +kernel
theorem dX9_same_84 : decode cX9_same 84 = .ok (.if_icmp .eq 9, 3) := by decide +kernel
theorem dX9_same_87 : decode cX9_same 87 = .ok (.iload 4, 2) := by decide +kernel
theorem dX9_same_89 : decode cX9_same 89 = .ok (.iconst (-1), 1) := by decide +kernel
theorem dX9_same_90 : decode cX9_same 90 = .ok (.if_icmp .ne 5, 3) := by decide +kernel
theorem dX9_same_93 : decode cX9_same 93 = .ok (.iconst (-1), 1) := by decide +kernel
theorem dX9_same_94 : decode cX9_same 94 = .ok (.ireturn, 1) := by decide +kernel
theorem dX9_same_95 : decode cX9_same 95 = .ok (.iload_n 3, 1) := by decide +kernel
theorem dX9_same_96 : decode cX9_same 96 = .ok (.iload 4, 2) := by decide +kernel
theorem dX9_same_98 : decode cX9_same 98 = .ok (.if_icmp .ne 7, 3) := by decide +kernel
theorem dX9_same_101 : decode cX9_same 101 = .ok (.iconst 1, 1) := by decide +kernel
theorem dX9_same_102 : decode cX9_same 102 = .ok (.goto 4, 3) := by decide +kernel
theorem dX9_same_105 : decode cX9_same 105 = .ok (.iconst 0, 1) := by decide +kernel
theorem dX9_same_106 : decode cX9_same 106 = .ok (.ireturn, 1) := by decide +kernel
theorem dX9_remember_0 : decode cX9_remember 0 = .ok (.aload_n 0, 1) := by decide +kernel
theorem dX9_remember_1 : decode cX9_remember 1 = .ok (.getfield 183, 3) := by decide +kernel
theorem dX9_remember_4 : decode cX9_remember 4 = .ok (.bipush 20, 2) := by decide +kernel
theorem dX9_remember_6 : decode cX9_remember 6 = .ok (.if_icmp .ne 41, 3) := by decide +kernel
theorem dX9_remember_9 : decode cX9_remember 9 = .ok (.iconst 1, 1) := by decide +kernel
theorem dX9_remember_10 : decode cX9_remember 10 = .ok (.istore_n 1, 1) := by decide +kernel
theorem dX9_remember_11 : decode cX9_remember 11 = .ok (.iload_n 1, 1) := by decide +kernel
theorem dX9_remember_12 : decode cX9_remember 12 = .ok (.bipush 20, 2) := by decide +kernel
theorem dX9_remember_14 : decode cX9_remember 14 = .ok (.if_icmp .ge 23, 3) := by decide +kernel
theorem dX9_remember_17 : decode cX9_remember 17 = .ok (.aload_n 0, 1) := by decide +kernel
theorem dX9_remember_18 : decode cX9_remember 18 = .ok (.bipush 34, 2) := by decide +kernel
theorem dX9_remember_20 : decode cX9_remember 20 = .ok (.iload_n 1, 1) := by decide +kernel
theorem dX9_remember_21 : decode cX9_remember 21 = .ok (.iconst 1, 1) := by decide +kernel
theorem dX9_remember_22 : decode cX9_remember 22 = .ok (.iadd, 1) := by decide +kernel
theorem dX9_remember_23 : decode cX9_remember 23 = .ok (.imul, 1) := by decide +kernel
theorem dX9_remember_24 : decode cX9_remember 24 = .ok (.bipush 34, 2) := by decide +kernel
theorem dX9_remember_26 : decode cX9_remember 26 = .ok (.iload_n 1, 1) := by decide +kernel
theorem dX9_remember_27 : decode cX9_remember 27 = .ok (.imul, 1) := by decide +kernel
theorem dX9_remember_28 : decode cX9_remember 28 = .ok (.invokevirtual 208, 3) := by decide +kernel
theorem dX9_remember_31 : decode cX9_remember 31 = .ok (.iinc 1 1, 3) := by decide +kernel
theorem dX9_remember_34 : decode cX9_remember 34 = .ok (.goto (-23), 3) := by decide +kernel
theorem dX9_remember_37 : decode cX9_remember 37 = .ok (.aload_n 0, 1) := by decide +kernel
theorem dX9_remember_38 : decode cX9_remember 38 = .ok (.dup, 1) := by decide +kernel
theorem dX9_remember_39 : decode cX9_remember 39 = .ok (.getfield 183, 3) := by decide +kernel
theorem dX9_remember_42 : decode cX9_remember 42 = .ok (.iconst 1, 1) := by decide +kernel
theorem dX9_remember_43 : decode cX9_remember 43 = .ok (.isub, 1) := by decide +kernel
theorem dX9_remember_44 : decode cX9_remember 44 = .ok (.putfield 183, 3) := by decide +kernel
theorem dX9_remember_47 : decode cX9_remember 47 = .ok (.aload_n 0, 1) := by decide +kernel
theorem dX9_remember_48 : decode cX9_remember 48 = .ok (.iconst 0, 1) := by decide +kernel
theorem dX9_remember_49 : decode cX9_remember 49 = .ok (.bipush 34, 2) := by decide +kernel
theorem dX9_remember_51 : decode cX9_remember 51 = .ok (.aload_n 0, 1) := by decide +kernel
theorem dX9_remember_52 : decode cX9_remember 52 = .ok (.getfield 183, 3) := by decide +kernel
theorem dX9_remember_55 : decode cX9_remember 55 = .ok (.iconst 1, 1) := by decide +kernel
theorem dX9_remember_56 : decode cX9_remember 56 = .ok (.iadd, 1) := by decide +kernel
theorem dX9_remember_57 : decode cX9_remember 57 = .ok (.imul, 1) := by decide +kernel
theorem dX9_remember_58 : decode cX9_remember 58 = .ok (.invokevirtual 208, 3) := by decide +kernel
theorem dX9_remember_61 : decode cX9_remember 61 = .ok (.aload_n 0, 1) := by decide +kernel
theorem dX9_remember_62 : decode cX9_remember 62 = .ok (.dup, 1) := by decide +kernel
theorem dX9_remember_63 : decode cX9_remember 63 = .ok (.getfield 183, 3) := by decide +kernel
theorem dX9_remember_66 : decode cX9_remember 66 = .ok (.iconst 1, 1) := by decide +kernel
theorem dX9_remember_67 : decode cX9_remember 67 = .ok (.iadd, 1) := by decide +kernel
theorem dX9_remember_68 : decode cX9_remember 68 = .ok (.putfield 183, 3) := by decide +kernel
theorem dX9_remember_71 : decode cX9_remember 71 = .ok (.return_, 1) := by decide +kernel
theorem dX9_shelve_0 : decode cX9_shelve 0 = .ok (.aload_n 0, 1) := by decide +kernel
theorem dX9_shelve_1 : decode cX9_shelve 1 = .ok (.getfield 7, 3) := by decide +kernel
theorem dX9_shelve_4 : decode cX9_shelve 4 = .ok (.iconst 0, 1) := by decide +kernel
theorem dX9_shelve_5 : decode cX9_shelve 5 = .ok (.iaload, 1) := by decide +kernel
theorem dX9_shelve_6 : decode cX9_shelve 6 = .ok (.istore_n 1, 1) := by decide +kernel
theorem dX9_shelve_7 : decode cX9_shelve 7 = .ok (.aload_n 0, 1) := by decide +kernel
theorem dX9_shelve_8 : decode cX9_shelve 8 = .ok (.getfield 7, 3) := by decide +kernel
theorem dX9_shelve_11 : decode cX9_shelve 11 = .ok (.iconst 0, 1) := by decide +kernel
theorem dX9_shelve_12 : decode cX9_shelve 12 = .ok (.dup2, 1) := by decide +kernel
theorem dX9_shelve_13 : decode cX9_shelve 13 = .ok (.iaload, 1) := by decide +kernel
theorem dX9_shelve_14 : decode cX9_shelve 14 = .ok (.iconst 1, 1) := by decide +kernel
theorem dX9_shelve_15 : decode cX9_shelve 15 = .ok (.iadd, 1) := by decide +kernel
theorem dX9_shelve_16 : decode cX9_shelve 16 = .ok (.iastore, 1) := by decide +kernel
theorem dX9_shelve_17 : decode cX9_shelve 17 = .ok (.aload_n 0, 1) := by decide +kernel
theorem dX9_shelve_18 : decode cX9_shelve 18 = .ok (.iload_n 1, 1) := by decide +kernel
theorem dX9_shelve_19 : decode cX9_shelve 19 = .ok (.invokevirtual 211, 3) := by decide +kernel
theorem dX9_shelve_22 : decode cX9_shelve 22 = .ok (.iload_n 1, 1) := by decide +kernel
theorem dX9_shelve_23 : decode cX9_shelve 23 = .ok (.ireturn, 1) := by decide +kernel
theorem dX9_lay_0 : decode cX9_lay 0 = .ok (.aload_n 0, 1) := by decide +kernel
theorem dX9_lay_1 : decode cX9_lay 1 = .ok (.getfield 7, 3) := by decide +kernel
theorem dX9_lay_4 : decode cX9_lay 4 = .ok (.iconst 1, 1) := by decide +kernel
theorem dX9_lay_5 : decode cX9_lay 5 = .ok (.iload_n 1, 1) := by decide +kernel
theorem dX9_lay_6 : decode cX9_lay 6 = .ok (.iadd, 1) := by decide +kernel
theorem dX9_lay_7 : decode cX9_lay 7 = .ok (.aload_n 0, 1) := by decide +kernel
theorem dX9_lay_8 : decode cX9_lay 8 = .ok (.invokevirtual 117, 3) := by decide +kernel
theorem dX9_lay_11 : decode cX9_lay 11 = .ok (.iastore, 1) := by decide +kernel
theorem dX9_lay_12 : decode cX9_lay 12 = .ok (.aload_n 0, 1) := by decide +kernel
theorem dX9_lay_13 : decode cX9_lay 13 = .ok (.getfield 7, 3) := by decide +kernel
theorem dX9_lay_16 : decode cX9_lay 16 = .ok (.bipush 9, 2) := by decide +kernel
theorem dX9_lay_18 : decode cX9_lay 18 = .ok (.iload_n 1, 1) := by decide +kernel
theorem dX9_lay_19 : decode cX9_lay 19 = .ok (.iadd, 1) := by decide +kernel
theorem dX9_lay_20 : decode cX9_lay 20 = .ok (.aload_n 0, 1) := by decide +kernel
theorem dX9_lay_21 : decode cX9_lay 21 = .ok (.getfield 61, 3) := by decide +kernel
theorem dX9_lay_24 : decode cX9_lay 24 = .ok (.iastore, 1) := by decide +kernel
theorem dX9_lay_25 : decode cX9_lay 25 = .ok (.return_, 1) := by decide +kernel
theorem dX9_graft_0 : decode cX9_graft 0 = .ok (.aload_n 0, 1) := by decide +kernel
theorem dX9_graft_1 : decode cX9_graft 1 = .ok (.iload_n 1, 1) := by decide +kernel
theorem dX9_graft_2 : decode cX9_graft 2 = .ok (.invokevirtual 165, 3) := by decide +kernel
theorem dX9_graft_5 : decode cX9_graft 5 = .ok (.ifCond .eq 11, 3) := by decide +kernel
theorem dX9_graft_8 : decode cX9_graft 8 = .ok (.aload_n 0, 1) := by decide +kernel
theorem dX9_graft_9 : decode cX9_graft 9 = .ok (.iload_n 3, 1) := by decide +kernel
theorem dX9_graft_10 : decode cX9_graft 10 = .ok (.invokevirtual 165, 3) := by decide +kernel
theorem dX9_graft_13 : decode cX9_graft 13 = .ok (.ifCond .ne 6, 3) := by decide +kernel
theorem dX9_graft_16 : decode cX9_graft 16 = .ok (.ldc 189, 2) := by decide +kernel
theorem dX9_graft_18 : decode cX9_graft 18 = .ok (.ireturn, 1) := by decide +kernel
theorem dX9_graft_19 : decode cX9_graft 19 = .ok (.aload_n 0, 1) := by decide +kernel
theorem dX9_graft_20 : decode cX9_graft 20 = .ok (.iload_n 3, 1) := by decide +kernel
theorem dX9_graft_21 : decode cX9_graft 21 = .ok (.invokevirtual 190, 3) := by decide +kernel
theorem dX9_graft_24 : decode cX9_graft 24 = .ok (.aload_n 0, 1) := by decide +kernel
theorem dX9_graft_25 : decode cX9_graft 25 = .ok (.invokevirtual 193, 3) := by decide +kernel
theorem dX9_graft_28 : decode cX9_graft 28 = .ok (.istore 4, 2) := by decide +kernel
theorem dX9_graft_30 : decode cX9_graft 30 = .ok (.aload_n 0, 1) := by decide +kernel
theorem dX9_graft_31 : decode cX9_graft 31 = .ok (.iload_n 1, 1) := by decide +kernel
theorem dX9_graft_32 : decode cX9_graft 32 = .ok (.invokevirtual 190, 3) := by decide +kernel
theorem dX9_graft_35 : decode cX9_graft 35 = .ok (.aload_n 0, 1) := by decide +kernel
theorem dX9_graft_36 : decode cX9_graft 36 = .ok (.iload_n 2, 1) := by decide +kernel
theorem dX9_graft_37 : decode cX9_graft 37 = .ok (.invokevirtual 214, 3) := by decide +kernel
theorem dX9_graft_40 : decode cX9_graft 40 = .ok (.istore 5, 2) := by decide +kernel
theorem dX9_graft_42 : decode cX9_graft 42 = .ok (.iload 5, 2) := by decide +kernel
theorem dX9_graft_44 : decode cX9_graft 44 = .ok (.iconst (-1), 1) := by decide +kernel
theorem dX9_graft_45 : decode cX9_graft 45 = .ok (.if_icmp .ne 6, 3) := by decide +kernel
theorem dX9_graft_48 : decode cX9_graft 48 = .ok (.ldc 189, 2) := by decide +kernel
theorem dX9_graft_50 : decode cX9_graft 50 = .ok (.ireturn, 1) := by decide +kernel
theorem dX9_graft_51 : decode cX9_graft 51 = .ok (.aload_n 0, 1) := by decide +kernel
theorem dX9_graft_52 : decode cX9_graft 52 = .ok (.getfield 7, 3) := by decide +kernel
theorem dX9_graft_55 : decode cX9_graft 55 = .ok (.iconst 0, 1) := by decide +kernel
theorem dX9_graft_56 : decode cX9_graft 56 = .ok (.iaload, 1) := by decide +kernel
theorem dX9_graft_57 : decode cX9_graft 57 = .ok (.bipush 8, 2) := by decide +kernel
theorem dX9_graft_59 : decode cX9_graft 59 = .ok (.if_icmp .ne 6, 3) := by decide +kernel
theorem dX9_graft_62 : decode cX9_graft 62 = .ok (.ldc 152, 2) := by decide +kernel
theorem dX9_graft_64 : decode cX9_graft 64 = .ok (.ireturn, 1) := by decide +kernel
theorem dX9_graft_65 : decode cX9_graft 65 = .ok (.aload_n 0, 1) := by decide +kernel
theorem dX9_graft_66 : decode cX9_graft 66 = .ok (.invokevirtual 193, 3) := by decide +kernel
theorem dX9_graft_69 : decode cX9_graft 69 = .ok (.iload 4, 2) := by decide +kernel
theorem dX9_graft_71 : decode cX9_graft 71 = .ok (.iadd, 1) := by decide +kernel
theorem dX9_graft_72 : decode cX9_graft 72 = .ok (.bipush 6, 2) := by decide +kernel
theorem dX9_graft_74 : decode cX9_graft 74 = .ok (.if_icmp .gt 27, 3) := by decide +kernel
theorem dX9_graft_77 : decode cX9_graft 77 = .ok (.aload_n 0, 1) := by decide +kernel
theorem dX9_graft_78 : decode cX9_graft 78 = .ok (.getfield 7, 3) := by decide +kernel
theorem dX9_graft_81 : decode cX9_graft 81 = .ok (.bipush 9, 2) := by decide +kernel
theorem dX9_graft_83 : decode cX9_graft 83 = .ok (.iload_n 1, 1) := by decide +kernel
theorem dX9_graft_84 : decode cX9_graft 84 = .ok (.iadd, 1) := by decide +kernel
theorem dX9_graft_85 : decode cX9_graft 85 = .ok (.iaload, 1) := by decide +kernel
theorem dX9_graft_86 : decode cX9_graft 86 = .ok (.ifCond .eq 15, 3) := by decide +kernel
theorem dX9_graft_89 : decode cX9_graft 89 = .ok (.aload_n 0, 1) := by decide +kernel
theorem dX9_graft_90 : decode cX9_graft 90 = .ok (.getfield 7, 3) := by decide +kernel
theorem dX9_graft_93 : decode cX9_graft 93 = .ok (.bipush 9, 2) := by decide +kernel
theorem dX9_graft_95 : decode cX9_graft 95 = .ok (.iload_n 3, 1) := by decide +kernel
theorem dX9_graft_96 : decode cX9_graft 96 = .ok (.iadd, 1) := by decide +kernel
theorem dX9_graft_97 : decode cX9_graft 97 = .ok (.iaload, 1) := by decide +kernel
theorem dX9_graft_98 : decode cX9_graft 98 = .ok (.ifCond .ne 6, 3) := by decide +kernel
theorem dX9_graft_101 : decode cX9_graft 101 = .ok (.ldc 217, 2) := by decide +kernel
theorem dX9_graft_103 : decode cX9_graft 103 = .ok (.ireturn, 1) := by decide +kernel
theorem dX9_graft_104 : decode cX9_graft 104 = .ok (.aload_n 0, 1) := by decide +kernel
theorem dX9_graft_105 : decode cX9_graft 105 = .ok (.invokevirtual 156, 3) := by decide +kernel
theorem dX9_graft_108 : decode cX9_graft 108 = .ok (.iconst 0, 1) := by decide +kernel
theorem dX9_graft_109 : decode cX9_graft 109 = .ok (.istore 6, 2) := by decide +kernel
theorem dX9_graft_111 : decode cX9_graft 111 = .ok (.iconst 0, 1) := by decide +kernel
theorem dX9_graft_112 : decode cX9_graft 112 = .ok (.istore 7, 2) := by decide +kernel
theorem dX9_graft_114 : decode cX9_graft 114 = .ok (.iload 7, 2) := by decide +kernel
theorem dX9_graft_116 : decode cX9_graft 116 = .ok (.iload 5, 2) := by decide +kernel
theorem dX9_graft_118 : decode cX9_graft 118 = .ok (.if_icmp .ge 23, 3) := by decide +kernel
theorem dX9_graft_121 : decode cX9_graft 121 = .ok (.iconst 3, 1) := by decide +kernel
theorem dX9_graft_122 : decode cX9_graft 122 = .ok (.iload 6, 2) := by decide +kernel
theorem dX9_graft_124 : decode cX9_graft 124 = .ok (.imul, 1) := by decide +kernel
theorem dX9_graft_125 : decode cX9_graft 125 = .ok (.aload_n 0, 1) := by decide +kernel
theorem dX9_graft_126 : decode cX9_graft 126 = .ok (.getfield 29, 3) := by decide +kernel
theorem dX9_graft_129 : decode cX9_graft 129 = .ok (.iload 7, 2) := by decide +kernel
theorem dX9_graft_131 : decode cX9_graft 131 = .ok (.iaload, 1) := by decide +kernel
theorem dX9_graft_132 : decode cX9_graft 132 = .ok (.iadd, 1) := by decide +kernel
theorem dX9_graft_133 : decode cX9_graft 133 = .ok (.istore 6, 2) := by decide +kernel
theorem dX9_graft_135 : decode cX9_graft 135 = .ok (.iinc 7 1, 3) := by decide +kernel
theorem dX9_graft_138 : decode cX9_graft 138 = .ok (.goto (-24), 3) := by decide +kernel
theorem dX9_graft_141 : decode cX9_graft 141 = .ok (.aload_n 0, 1) := by decide +kernel
theorem dX9_graft_142 : decode cX9_graft 142 = .ok (.getfield 58, 3) := by decide +kernel
theorem dX9_graft_145 : decode cX9_graft 145 = .ok (.iload 5, 2) := by decide +kernel
theorem dX9_graft_147 : decode cX9_graft 147 = .ok (.isub, 1) := by decide +kernel
theorem dX9_graft_148 : decode cX9_graft 148 = .ok (.iconst 1, 1) := by decide +kernel
theorem dX9_graft_149 : decode cX9_graft 149 = .ok (.isub, 1) := by decide +kernel
theorem dX9_graft_150 : decode cX9_graft 150 = .ok (.istore 7, 2) := by decide +kernel
theorem dX9_graft_152 : decode cX9_graft 152 = .ok (.iconst 0, 1) := by decide +kernel
theorem dX9_graft_153 : decode cX9_graft 153 = .ok (.istore 8, 2) := by decide +kernel
theorem dX9_graft_155 : decode cX9_graft 155 = .ok (.iload 5, 2) := by decide +kernel
theorem dX9_graft_157 : decode cX9_graft 157 = .ok (.iconst 1, 1) := by decide +kernel
theorem dX9_graft_158 : decode cX9_graft 158 = .ok (.iadd, 1) := by decide +kernel
theorem dX9_graft_159 : decode cX9_graft 159 = .ok (.istore 9, 2) := by decide +kernel
theorem dX9_graft_161 : decode cX9_graft 161 = .ok (.iload 9, 2) := by decide +kernel
theorem dX9_graft_163 : decode cX9_graft 163 = .ok (.aload_n 0, 1) := by decide +kernel
theorem dX9_graft_164 : decode cX9_graft 164 = .ok (.getfield 58, 3) := by decide +kernel
theorem dX9_graft_167 : decode cX9_graft 167 = .ok (.if_icmp .ge 23, 3) := by decide +kernel
theorem dX9_graft_170 : decode cX9_graft 170 = .ok (.iconst 3, 1) := by decide +kernel
theorem dX9_graft_171 : decode cX9_graft 171 = .ok (.iload 8, 2) := by decide +kernel
theorem dX9_graft_173 : decode cX9_graft 173 = .ok (.imul, 1) := by decide +kernel
theorem dX9_graft_174 : decode cX9_graft 174 = .ok (.aload_n 0, 1) := by decide +kernel
theorem dX9_graft_175 : decode cX9_graft 175 = .ok (.getfield 29, 3) := by decide +kernel
theorem dX9_graft_178 : decode cX9_graft 178 = .ok (.iload 9, 2) := by decide +kernel
theorem dX9_graft_180 : decode cX9_graft 180 = .ok (.iaload, 1) := by decide +kernel
theorem dX9_graft_181 : decode cX9_graft 181 = .ok (.iadd, 1) := by decide +kernel
theorem dX9_graft_182 : decode cX9_graft 182 = .ok (.istore 8, 2) := by decide +kernel
theorem dX9_graft_184 : decode cX9_graft 184 = .ok (.iinc 9 1, 3) := by decide +kernel
theorem dX9_graft_187 : decode cX9_graft 187 = .ok (.goto (-26), 3) := by decide +kernel
theorem dX9_graft_190 : decode cX9_graft 190 = .ok (.aload_n 0, 1) := by decide +kernel
theorem dX9_graft_191 : decode cX9_graft 191 = .ok (.iload_n 3, 1) := by decide +kernel
theorem dX9_graft_192 : decode cX9_graft 192 = .ok (.invokevirtual 190, 3) := by decide +kernel
theorem dX9_graft_195 : decode cX9_graft 195 = .ok (.iconst 0, 1) := by decide +kernel
theorem dX9_graft_196 : decode cX9_graft 196 = .ok (.istore 9, 2) := by decide +kernel
theorem dX9_graft_198 : decode cX9_graft 198 = .ok (.iload 9, 2) := by decide +kernel
theorem dX9_graft_200 : decode cX9_graft 200 = .ok (.aload_n 0, 1) := by decide +kernel
theorem dX9_graft_201 : decode cX9_graft 201 = .ok (.getfield 58, 3) := by decide +kernel
theorem dX9_graft_204 : decode cX9_graft 204 = .ok (.if_icmp .ge 23, 3) := by decide +kernel
theorem dX9_graft_207 : decode cX9_graft 207 = .ok (.iconst 3, 1) := by decide +kernel
theorem dX9_graft_208 : decode cX9_graft 208 = .ok (.iload 6, 2) := by decide +kernel
theorem dX9_graft_210 : decode cX9_graft 210 = .ok (.imul, 1) := by decide +kernel
theorem dX9_graft_211 : decode cX9_graft 211 = .ok (.aload_n 0, 1) := by decide +kernel
theorem dX9_graft_212 : decode cX9_graft 212 = .ok (.getfield 29, 3) := by decide +kernel
theorem dX9_graft_215 : decode cX9_graft 215 = .ok (.iload 9, 2) := by decide +kernel
theorem dX9_graft_217 : decode cX9_graft 217 = .ok (.iaload, 1) := by decide +kernel
theorem dX9_graft_218 : decode cX9_graft 218 = .ok (.iadd, 1) := by decide +kernel
theorem dX9_graft_219 : decode cX9_graft 219 = .ok (.istore 6, 2) := by decide +kernel
theorem dX9_graft_221 : decode cX9_graft 221 = .ok (.iinc 9 1, 3) := by decide +kernel
theorem dX9_graft_224 : decode cX9_graft 224 = .ok (.goto (-26), 3) := by decide +kernel
theorem dX9_graft_227 : decode cX9_graft 227 = .ok (.iconst 0, 1) := by decide +kernel
theorem dX9_graft_228 : decode cX9_graft 228 = .ok (.istore 9, 2) := by decide +kernel
theorem dX9_graft_230 : decode cX9_graft 230 = .ok (.iload 9, 2) := by decide +kernel
theorem dX9_graft_232 : decode cX9_graft 232 = .ok (.iload 7, 2) := by decide +kernel
theorem dX9_graft_234 : decode cX9_graft 234 = .ok (.if_icmp .ge 15, 3) := by decide +kernel
theorem dX9_graft_237 : decode cX9_graft 237 = .ok (.iconst 3, 1) := by decide +kernel
theorem dX9_graft_238 : decode cX9_graft 238 = .ok (.iload 6, 2) := by decide +kernel
theorem dX9_graft_240 : decode cX9_graft 240 = .ok (.imul, 1) := by decide +kernel
theorem dX9_graft_241 : decode cX9_graft 241 = .ok (.istore 6, 2) := by decide +kernel
theorem dX9_graft_243 : decode cX9_graft 243 = .ok (.iinc 9 1, 3) := by decide +kernel
theorem dX9_graft_246 : decode cX9_graft 246 = .ok (.goto (-16), 3) := by decide +kernel
theorem dX9_graft_249 : decode cX9_graft 249 = .ok (.aload_n 0, 1) := by decide +kernel
theorem dX9_graft_250 : decode cX9_graft 250 = .ok (.iload 6, 2) := by decide +kernel
theorem dX9_graft_252 : decode cX9_graft 252 = .ok (.iload 8, 2) := by decide +kernel
theorem dX9_graft_254 : decode cX9_graft 254 = .ok (.iadd, 1) := by decide +kernel
theorem dX9_graft_255 : decode cX9_graft 255 = .ok (.aload_n 0, 1) := by decide +kernel
theorem dX9_graft_256 : decode cX9_graft 256 = .ok (.getfield 7, 3) := by decide +kernel
theorem dX9_graft_259 : decode cX9_graft 259 = .ok (.bipush 9, 2) := by decide +kernel
theorem dX9_graft_261 : decode cX9_graft 261 = .ok (.iload_n 1, 1) := by decide +kernel
theorem dX9_graft_262 : decode cX9_graft 262 = .ok (.iadd, 1) := by decide +kernel
theorem dX9_graft_263 : decode cX9_graft 263 = .ok (.iaload, 1) := by decide +kernel
theorem dX9_graft_264 : decode cX9_graft 264 = .ok (.aload_n 0, 1) := by decide +kernel
theorem dX9_graft_265 : decode cX9_graft 265 = .ok (.getfield 7, 3) := by decide +kernel
theorem dX9_graft_268 : decode cX9_graft 268 = .ok (.bipush 9, 2) := by decide +kernel
theorem dX9_graft_270 : decode cX9_graft 270 = .ok (.iload_n 3, 1) := by decide +kernel
theorem dX9_graft_271 : decode cX9_graft 271 = .ok (.iadd, 1) := by decide +kernel
theorem dX9_graft_272 : decode cX9_graft 272 = .ok (.iaload, 1) := by decide +kernel
theorem dX9_graft_273 : decode cX9_graft 273 = .ok (.imul, 1) := by decide +kernel
theorem dX9_graft_274 : decode cX9_graft 274 = .ok (.invokevirtual 64, 3) := by decide +kernel
theorem dX9_graft_277 : decode cX9_graft 277 = .ok (.aload_n 0, 1) := by decide +kernel
theorem dX9_graft_278 : decode cX9_graft 278 = .ok (.invokevirtual 159, 3) := by decide +kernel
theorem dX9_graft_281 : decode cX9_graft 281 = .ok (.ireturn, 1) := by decide +kernel
theorem dX9_step_0 : decode cX9_step 0 = .ok (.aload_n 0, 1) := by decide +kernel
theorem dX9_step_1 : decode cX9_step 1 = .ok (.iload_n 1, 1) := by decide +kernel
theorem dX9_step_2 : decode cX9_step 2 = .ok (.invokevirtual 165, 3) := by decide +kernel
theorem dX9_step_5 : decode cX9_step 5 = .ok (.ifCond .ne 6, 3) := by decide +kernel
theorem dX9_step_8 : decode cX9_step 8 = .ok (.ldc 189, 2) := by decide +kernel
theorem dX9_step_10 : decode cX9_step 10 = .ok (.ireturn, 1) := by decide +kernel
theorem dX9_step_11 : decode cX9_step 11 = .ok (.aload_n 0, 1) := by decide +kernel
theorem dX9_step_12 : decode cX9_step 12 = .ok (.iload_n 1, 1) := by decide +kernel
theorem dX9_step_13 : decode cX9_step 13 = .ok (.invokevirtual 190, 3) := by decide +kernel
theorem dX9_step_16 : decode cX9_step 16 = .ok (.iload_n 2, 1) := by decide +kernel
theorem dX9_step_17 : decode cX9_step 17 = .ok (.ifCond .ge 7, 3) := by decide +kernel
theorem dX9_step_20 : decode cX9_step 20 = .ok (.iconst (-1), 1) := by decide +kernel
theorem dX9_step_21 : decode cX9_step 21 = .ok (.goto 8, 3) := by decide +kernel
theorem dX9_step_24 : decode cX9_step 24 = .ok (.aload_n 0, 1) := by decide +kernel
theorem dX9_step_25 : decode cX9_step 25 = .ok (.iload_n 2, 1) := by decide +kernel
theorem dX9_step_26 : decode cX9_step 26 = .ok (.invokevirtual 96, 3) := by decide +kernel
theorem dX9_step_29 : decode cX9_step 29 = .ok (.istore_n 3, 1) := by decide +kernel
theorem dX9_step_30 : decode cX9_step 30 = .ok (.iload_n 3, 1) := by decide +kernel
theorem dX9_step_31 : decode cX9_step 31 = .ok (.iconst (-1), 1) := by decide +kernel
theorem dX9_step_32 : decode cX9_step 32 = .ok (.if_icmp .ne 6, 3) := by decide +kernel
theorem dX9_step_35 : decode cX9_step 35 = .ok (.ldc 148, 2) := by decide +kernel
theorem dX9_step_37 : decode cX9_step 37 = .ok (.ireturn, 1) := by decide +kernel
theorem dX9_step_38 : decode cX9_step 38 = .ok (.aload_n 0, 1) := by decide +kernel
theorem dX9_step_39 : decode cX9_step 39 = .ok (.invokevirtual 156, 3) := by decide +kernel
theorem dX9_step_42 : decode cX9_step 42 = .ok (.aload_n 0, 1) := by decide +kernel
theorem dX9_step_43 : decode cX9_step 43 = .ok (.iload_n 3, 1) := by decide +kernel
theorem dX9_step_44 : decode cX9_step 44 = .ok (.invokevirtual 99, 3) := by decide +kernel
theorem dX9_step_47 : decode cX9_step 47 = .ok (.aload_n 0, 1) := by decide +kernel
theorem dX9_step_48 : decode cX9_step 48 = .ok (.iload_n 1, 1) := by decide +kernel
theorem dX9_step_49 : decode cX9_step 49 = .ok (.invokevirtual 211, 3) := by decide +kernel
theorem dX9_step_52 : decode cX9_step 52 = .ok (.aload_n 0, 1) := by decide +kernel
theorem dX9_step_53 : decode cX9_step 53 = .ok (.invokevirtual 106, 3) := by decide +kernel
theorem dX9_step_56 : decode cX9_step 56 = .ok (.ireturn, 1) := by decide +kernel
theorem dX9_plain_0 : decode cX9_plain 0 = .ok (.aload_n 0, 1) := by decide +kernel
theorem dX9_plain_1 : decode cX9_plain 1 = .ok (.iload_n 1, 1) := by decide +kernel
theorem dX9_plain_2 : decode cX9_plain 2 = .ok (.invokevirtual 165, 3) := by decide +kernel
theorem dX9_plain_5 : decode cX9_plain 5 = .ok (.ifCond .ne 6, 3) := by decide +kernel
theorem dX9_plain_8 : decode cX9_plain 8 = .ok (.ldc 189, 2) := by decide +kernel
theorem dX9_plain_10 : decode cX9_plain 10 = .ok (.ireturn, 1) := by decide +kernel
theorem dX9_plain_11 : decode cX9_plain 11 = .ok (.aload_n 0, 1) := by decide +kernel
theorem dX9_plain_12 : decode cX9_plain 12 = .ok (.iload_n 1, 1) := by decide +kernel
theorem dX9_plain_13 : decode cX9_plain 13 = .ok (.invokevirtual 190, 3) := by decide +kernel
theorem dX9_plain_16 : decode cX9_plain 16 = .ok (.aload_n 0, 1) := by decide +kernel
theorem dX9_plain_17 : decode cX9_plain 17 = .ok (.invokevirtual 114, 3) := by decide +kernel
theorem dX9_plain_20 : decode cX9_plain 20 = .ok (.istore_n 2, 1) := by decide +kernel
theorem dX9_plain_21 : decode cX9_plain 21 = .ok (.iload_n 2, 1) := by decide +kernel
theorem dX9_plain_22 : decode cX9_plain 22 = .ok (.iconst (-1), 1) := by decide +kernel
theorem dX9_plain_23 : decode cX9_plain 23 = .ok (.if_icmp .ne 6, 3) := by decide +kernel
theorem dX9_plain_26 : decode cX9_plain 26 = .ok (.ldc 217, 2) := by decide +kernel
theorem dX9_plain_28 : decode cX9_plain 28 = .ok (.ireturn, 1) := by decide +kernel
theorem dX9_plain_29 : decode cX9_plain 29 = .ok (.aload_n 0, 1) := by decide +kernel
theorem dX9_plain_30 : decode cX9_plain 30 = .ok (.invokevirtual 156, 3) := by decide +kernel
theorem dX9_plain_33 : decode cX9_plain 33 = .ok (.aload_n 0, 1) := by decide +kernel
theorem dX9_plain_34 : decode cX9_plain 34 = .ok (.iload_n 1, 1) := by decide +kernel
theorem dX9_plain_35 : decode cX9_plain 35 = .ok (.invokevirtual 211, 3) := by decide +kernel
theorem dX9_plain_38 : decode cX9_plain 38 = .ok (.iload_n 2, 1) := by decide +kernel
theorem dX9_plain_39 : decode cX9_plain 39 = .ok (.ireturn, 1) := by decide +kernel
theorem dX9_mirror_0 : decode cX9_mirror 0 = .ok (.aload_n 0, 1) := by decide +kernel
theorem dX9_mirror_1 : decode cX9_mirror 1 = .ok (.iload_n 1, 1) := by decide +kernel
theorem dX9_mirror_2 : decode cX9_mirror 2 = .ok (.invokevirtual 165, 3) := by decide +kernel
theorem dX9_mirror_5 : decode cX9_mirror 5 = .ok (.ifCond .ne 6, 3) := by decide +kernel
theorem dX9_mirror_8 : decode cX9_mirror 8 = .ok (.ldc 189, 2) := by decide +kernel
theorem dX9_mirror_10 : decode cX9_mirror 10 = .ok (.ireturn, 1) := by decide +kernel
theorem dX9_mirror_11 : decode cX9_mirror 11 = .ok (.aload_n 0, 1) := by decide +kernel
theorem dX9_mirror_12 : decode cX9_mirror 12 = .ok (.invokevirtual 156, 3) := by decide +kernel
theorem dX9_mirror_15 : decode cX9_mirror 15 = .ok (.aload_n 0, 1) := by decide +kernel
theorem dX9_mirror_16 : decode cX9_mirror 16 = .ok (.iload_n 1, 1) := by decide +kernel
theorem dX9_mirror_17 : decode cX9_mirror 17 = .ok (.invokevirtual 190, 3) := by decide +kernel
theorem dX9_mirror_20 : decode cX9_mirror 20 = .ok (.aload_n 0, 1) := by decide +kernel
theorem dX9_mirror_21 : decode cX9_mirror 21 = .ok (.invokevirtual 186, 3) := by decide +kernel
theorem dX9_mirror_24 : decode cX9_mirror 24 = .ok (.aload_n 0, 1) := by decide +kernel
theorem dX9_mirror_25 : decode cX9_mirror 25 = .ok (.iload_n 1, 1) := by decide +kernel
theorem dX9_mirror_26 : decode cX9_mirror 26 = .ok (.invokevirtual 211, 3) := by decide +kernel
theorem dX9_mirror_29 : decode cX9_mirror 29 = .ok (.aload_n 0, 1) := by decide +kernel
theorem dX9_mirror_30 : decode cX9_mirror 30 = .ok (.getfield 7, 3) := by decide +kernel
theorem dX9_mirror_33 : decode cX9_mirror 33 = .ok (.iconst 1, 1) := by decide +kernel
theorem dX9_mirror_34 : decode cX9_mirror 34 = .ok (.iload_n 1, 1) := by decide +kernel
theorem dX9_mirror_35 : decode cX9_mirror 35 = .ok (.iadd, 1) := by decide +kernel
theorem dX9_mirror_36 : decode cX9_mirror 36 = .ok (.iaload, 1) := by decide +kernel
theorem dX9_mirror_37 : decode cX9_mirror 37 = .ok (.ireturn, 1) := by decide +kernel
theorem dX9_take_0 : decode cX9_take 0 = .ok (.aload_n 0, 1) := by decide +kernel
theorem dX9_take_1 : decode cX9_take 1 = .ok (.iload_n 1, 1) := by decide +kernel
theorem dX9_take_2 : decode cX9_take 2 = .ok (.invokevirtual 165, 3) := by decide +kernel
theorem dX9_take_5 : decode cX9_take 5 = .ok (.ifCond .ne 6, 3) := by decide +kernel
theorem dX9_take_8 : decode cX9_take 8 = .ok (.ldc 189, 2) := by decide +kernel
theorem dX9_take_10 : decode cX9_take 10 = .ok (.ireturn, 1) := by decide +kernel
theorem dX9_take_11 : decode cX9_take 11 = .ok (.aload_n 0, 1) := by decide +kernel
theorem dX9_take_12 : decode cX9_take 12 = .ok (.invokevirtual 156, 3) := by decide +kernel
theorem dX9_take_15 : decode cX9_take 15 = .ok (.aload_n 0, 1) := by decide +kernel
theorem dX9_take_16 : decode cX9_take 16 = .ok (.getfield 7, 3) := by decide +kernel
theorem dX9_take_19 : decode cX9_take 19 = .ok (.iconst 0, 1) := by decide +kernel
theorem dX9_take_20 : decode cX9_take 20 = .ok (.dup2, 1) := by decide +kernel
theorem dX9_take_21 : decode cX9_take 21 = .ok (.iaload, 1) := by decide +kernel
theorem dX9_take_22 : decode cX9_take 22 = .ok (.iconst 1, 1) := by decide +kernel
theorem dX9_take_23 : decode cX9_take 23 = .ok (.isub, 1) := by decide +kernel
theorem dX9_take_24 : decode cX9_take 24 = .ok (.iastore, 1) := by decide +kernel
theorem dX9_take_25 : decode cX9_take 25 = .ok (.iload_n 1, 1) := by decide +kernel
theorem dX9_take_26 : decode cX9_take 26 = .ok (.istore_n 2, 1) := by decide +kernel
theorem dX9_take_27 : decode cX9_take 27 = .ok (.iload_n 2, 1) := by decide +kernel
theorem dX9_take_28 : decode cX9_take 28 = .ok (.aload_n 0, 1) := by decide +kernel
theorem dX9_take_29 : decode cX9_take 29 = .ok (.getfield 7, 3) := by decide +kernel
theorem dX9_take_32 : decode cX9_take 32 = .ok (.iconst 0, 1) := by decide +kernel
theorem dX9_take_33 : decode cX9_take 33 = .ok (.iaload, 1) := by decide +kernel
theorem dX9_take_34 : decode cX9_take 34 = .ok (.if_icmp .ge 47, 3) := by decide +kernel
theorem dX9_take_37 : decode cX9_take 37 = .ok (.aload_n 0, 1) := by decide +kernel
theorem dX9_take_38 : decode cX9_take 38 = .ok (.getfield 7, 3) := by decide +kernel
theorem dX9_take_41 : decode cX9_take 41 = .ok (.iconst 1, 1) := by decide +kernel
theorem dX9_take_42 : decode cX9_take 42 = .ok (.iload_n 2, 1) := by decide +kernel
theorem dX9_take_43 : decode cX9_take 43 = .ok (.iadd, 1) := by decide +kernel
theorem dX9_take_44 : decode cX9_take 44 = .ok (.aload_n 0, 1) := by decide +kernel
theorem dX9_take_45 : decode cX9_take 45 = .ok (.getfield 7, 3) := by decide +kernel
theorem dX9_take_48 : decode cX9_take 48 = .ok (.iconst 1, 1) := by decide +kernel
theorem dX9_take_49 : decode cX9_take 49 = .ok (.iload_n 2, 1) := by decide +kernel
theorem dX9_take_50 : decode cX9_take 50 = .ok (.iadd, 1) := by decide +kernel
theorem dX9_take_51 : decode cX9_take 51 = .ok (.iconst 1, 1) := by decide +kernel
theorem dX9_take_52 : decode cX9_take 52 = .ok (.iadd, 1) := by decide +kernel
theorem dX9_take_53 : decode cX9_take 53 = .ok (.iaload, 1) := by decide +kernel
theorem dX9_take_54 : decode cX9_take 54 = .ok (.iastore, 1) := by decide +kernel
theorem dX9_take_55 : decode cX9_take 55 = .ok (.aload_n 0, 1) := by decide +kernel
theorem dX9_take_56 : decode cX9_take 56 = .ok (.getfield 7, 3) := by decide +kernel
theorem dX9_take_59 : decode cX9_take 59 = .ok (.bipush 9, 2) := by decide +kernel
theorem dX9_take_61 : decode cX9_take 61 = .ok (.iload_n 2, 1) := by decide +kernel
theorem dX9_take_62 : decode cX9_take 62 = .ok (.iadd, 1) := by decide +kernel
theorem dX9_take_63 : decode cX9_take 63 = .ok (.aload_n 0, 1) := by decide +kernel
theorem dX9_take_64 : decode cX9_take 64 = .ok (.getfield 7, 3) := by decide +kernel
theorem dX9_take_67 : decode cX9_take 67 = .ok (.bipush 9, 2) := by decide +kernel
theorem dX9_take_69 : decode cX9_take 69 = .ok (.iload_n 2, 1) := by decide +kernel
theorem dX9_take_70 : decode cX9_take 70 = .ok (.iadd, 1) := by decide +kernel
theorem dX9_take_71 : decode cX9_take 71 = .ok (.iconst 1, 1) := by decide +kernel
theorem dX9_take_72 : decode cX9_take 72 = .ok (.iadd, 1) := by decide +kernel
theorem dX9_take_73 : decode cX9_take 73 = .ok (.iaload, 1) := by decide +kernel
theorem dX9_take_74 : decode cX9_take 74 = .ok (.iastore, 1) := by decide +kernel
theorem dX9_take_75 : decode cX9_take 75 = .ok (.iinc 2 1, 3) := by decide +kernel
theorem dX9_take_78 : decode cX9_take 78 = .ok (.goto (-51), 3) := by decide +kernel
theorem dX9_take_81 : decode cX9_take 81 = .ok (.aload_n 0, 1) := by decide +kernel
theorem dX9_take_82 : decode cX9_take 82 = .ok (.getfield 7, 3) := by decide +kernel
theorem dX9_take_85 : decode cX9_take 85 = .ok (.iconst 0, 1) := by decide +kernel
theorem dX9_take_86 : decode cX9_take 86 = .ok (.iaload, 1) := by decide +kernel
theorem dX9_take_87 : decode cX9_take 87 = .ok (.ireturn, 1) := by decide +kernel
theorem dX9_mayBecome_0 : decode cX9_mayBecome 0 = .ok (.iload_n 2, 1) := by decide +kernel
theorem dX9_mayBecome_1 : decode cX9_mayBecome 1 = .ok (.iload_n 1, 1) := by decide +kernel
theorem dX9_mayBecome_2 : decode cX9_mayBecome 2 = .ok (.if_icmp .eq 37, 3) := by decide +kernel
theorem dX9_mayBecome_5 : decode cX9_mayBecome 5 = .ok (.aload_n 0, 1) := by decide +kernel
theorem dX9_mayBecome_6 : decode cX9_mayBecome 6 = .ok (.getfield 7, 3) := by decide +kernel
theorem dX9_mayBecome_9 : decode cX9_mayBecome 9 = .ok (.bipush 17, 2) := by decide +kernel
theorem dX9_mayBecome_11 : decode cX9_mayBecome 11 = .ok (.iload_n 2, 1) := by decide +kernel
theorem dX9_mayBecome_12 : decode cX9_mayBecome 12 = .ok (.iadd, 1) := by decide +kernel
theorem dX9_mayBecome_13 : decode cX9_mayBecome 13 = .ok (.iaload, 1) := by decide +kernel
theorem dX9_mayBecome_14 : decode cX9_mayBecome 14 = .ok (.ifCond .ne 25, 3) := by decide +kernel
theorem dX9_mayBecome_17 : decode cX9_mayBecome 17 = .ok (.aload_n 0, 1) := by decide +kernel
theorem dX9_mayBecome_18 : decode cX9_mayBecome 18 = .ok (.iload_n 2, 1) := by decide +kernel
theorem dX9_mayBecome_19 : decode cX9_mayBecome 19 = .ok (.invokevirtual 142, 3) := by decide +kernel
theorem dX9_mayBecome_22 : decode cX9_mayBecome 22 = .ok (.iconst (-1), 1) := by decide +kernel
theorem dX9_mayBecome_23 : decode cX9_mayBecome 23 = .ok (.if_icmp .eq 12, 3) := by decide +kernel
theorem dX9_mayBecome_26 : decode cX9_mayBecome 26 = .ok (.aload_n 0, 1) := by decide +kernel
theorem dX9_mayBecome_27 : decode cX9_mayBecome 27 = .ok (.iload_n 2, 1) := by decide +kernel
theorem dX9_mayBecome_28 : decode cX9_mayBecome 28 = .ok (.invokevirtual 142, 3) := by decide +kernel
theorem dX9_mayBecome_31 : decode cX9_mayBecome 31 = .ok (.iload_n 1, 1) := by decide +kernel
theorem dX9_mayBecome_32 : decode cX9_mayBecome 32 = .ok (.if_icmp .ne 7, 3) := by decide +kernel
theorem dX9_mayBecome_35 : decode cX9_mayBecome 35 = .ok (.iconst 1, 1) := by decide +kernel
theorem dX9_mayBecome_36 : decode cX9_mayBecome 36 = .ok (.goto 4, 3) := by decide +kernel
theorem dX9_mayBecome_39 : decode cX9_mayBecome 39 = .ok (.iconst 0, 1) := by decide +kernel
theorem dX9_mayBecome_40 : decode cX9_mayBecome 40 = .ok (.ireturn, 1) := by decide +kernel
theorem dX9_fate_0 : decode cX9_fate 0 = .ok (.aload_n 0, 1) := by decide +kernel
theorem dX9_fate_1 : decode cX9_fate 1 = .ok (.iload_n 1, 1) := by decide +kernel
theorem dX9_fate_2 : decode cX9_fate 2 = .ok (.invokevirtual 205, 3) := by decide +kernel
theorem dX9_fate_5 : decode cX9_fate 5 = .ok (.ifCond .eq 20, 3) := by decide +kernel
theorem dX9_fate_8 : decode cX9_fate 8 = .ok (.iload_n 2, 1) := by decide +kernel
theorem dX9_fate_9 : decode cX9_fate 9 = .ok (.iconst 2, 1) := by decide +kernel
theorem dX9_fate_10 : decode cX9_fate 10 = .ok (.iconst 3, 1) := by decide +kernel
theorem dX9_fate_11 : decode cX9_fate 11 = .ok (.invokestatic 54, 3) := by decide +kernel
theorem dX9_fate_14 : decode cX9_fate 14 = .ok (.ifCond .eq 14, 3) := by decide +kernel
theorem dX9_fate_17 : decode cX9_fate 17 = .ok (.aload_n 0, 1) := by decide +kernel
theorem dX9_fate_18 : decode cX9_fate 18 = .ok (.iload_n 3, 1) := by decide +kernel
theorem dX9_fate_19 : decode cX9_fate 19 = .ok (.invokevirtual 205, 3) := by decide +kernel
theorem dX9_fate_22 : decode cX9_fate 22 = .ok (.ifCond .ne 6, 3) := by decide +kernel
theorem dX9_fate_25 : decode cX9_fate 25 = .ok (.ldc 189, 2) := by decide +kernel
theorem dX9_fate_27 : decode cX9_fate 27 = .ok (.ireturn, 1) := by decide +kernel
theorem dX9_fate_28 : decode cX9_fate 28 = .ok (.iload_n 2, 1) := by decide +kernel
theorem dX9_fate_29 : decode cX9_fate 29 = .ok (.iconst 0, 1) := by decide +kernel
theorem dX9_fate_30 : decode cX9_fate 30 = .ok (.iconst 3, 1) := by decide +kernel
theorem dX9_fate_31 : decode cX9_fate 31 = .ok (.invokestatic 54, 3) := by decide +kernel
theorem dX9_fate_34 : decode cX9_fate 34 = .ok (.ifCond .ne 6, 3) := by decide +kernel
theorem dX9_fate_37 : decode cX9_fate 37 = .ok (.ldc 148, 2) := by decide +kernel
theorem dX9_fate_39 : decode cX9_fate 39 = .ok (.ireturn, 1) := by decide +kernel
theorem dX9_fate_40 : decode cX9_fate 40 = .ok (.iload_n 2, 1) := by decide +kernel
theorem dX9_fate_41 : decode cX9_fate 41 = .ok (.iconst 2, 1) := by decide +kernel
theorem dX9_fate_42 : decode cX9_fate 42 = .ok (.if_icmp .lt 12, 3) := by decide +kernel
theorem dX9_fate_45 : decode cX9_fate 45 = .ok (.aload_n 0, 1) := by decide +kernel
theorem dX9_fate_46 : decode cX9_fate 46 = .ok (.iload_n 1, 1) := by decide +kernel
theorem dX9_fate_47 : decode cX9_fate 47 = .ok (.iload_n 3, 1) := by decide +kernel
theorem dX9_fate_48 : decode cX9_fate 48 = .ok (.invokevirtual 218, 3) := by decide +kernel
theorem dX9_fate_51 : decode cX9_fate 51 = .ok (.ifCond .eq 16, 3) := by decide +kernel
theorem dX9_fate_54 : decode cX9_fate 54 = .ok (.iload_n 2, 1) := by decide +kernel
theorem dX9_fate_55 : decode cX9_fate 55 = .ok (.ifCond .eq 15, 3) := by decide +kernel
theorem dX9_fate_58 : decode cX9_fate 58 = .ok (.aload_n 0, 1) := by decide +kernel
theorem dX9_fate_59 : decode cX9_fate 59 = .ok (.iload_n 1, 1) := by decide +kernel
theorem dX9_fate_60 : decode cX9_fate 60 = .ok (.invokevirtual 142, 3) := by decide +kernel
theorem dX9_fate_63 : decode cX9_fate 63 = .ok (.iconst (-1), 1) := by decide +kernel
theorem dX9_fate_64 : decode cX9_fate 64 = .ok (.if_icmp .eq 6, 3) := by decide +kernel
theorem dX9_fate_67 : decode cX9_fate 67 = .ok (.ldc 217, 2) := by decide +kernel
theorem dX9_fate_69 : decode cX9_fate 69 = .ok (.ireturn, 1) := by decide +kernel
theorem dX9_fate_70 : decode cX9_fate 70 = .ok (.aload_n 0, 1) := by decide +kernel
theorem dX9_fate_71 : decode cX9_fate 71 = .ok (.invokevirtual 156, 3) := by decide +kernel
theorem dX9_fate_74 : decode cX9_fate 74 = .ok (.aload_n 0, 1) := by decide +kernel
theorem dX9_fate_75 : decode cX9_fate 75 = .ok (.getfield 7, 3) := by decide +kernel
theorem dX9_fate_78 : decode cX9_fate 78 = .ok (.bipush 17, 2) := by decide +kernel
theorem dX9_fate_80 : decode cX9_fate 80 = .ok (.iload_n 1, 1) := by decide +kernel
theorem dX9_fate_81 : decode cX9_fate 81 = .ok (.iadd, 1) := by decide +kernel
theorem dX9_fate_82 : decode cX9_fate 82 = .ok (.iaload, 1) := by decide +kernel
theorem dX9_fate_83 : decode cX9_fate 83 = .ok (.istore 4, 2) := by decide +kernel
theorem dX9_fate_85 : decode cX9_fate 85 = .ok (.aload_n 0, 1) := by decide +kernel
theorem dX9_fate_86 : decode cX9_fate 86 = .ok (.getfield 7, 3) := by decide +kernel
theorem dX9_fate_89 : decode cX9_fate 89 = .ok (.bipush 17, 2) := by decide +kernel
theorem dX9_fate_91 : decode cX9_fate 91 = .ok (.iload_n 1, 1) := by decide +kernel
theorem dX9_fate_92 : decode cX9_fate 92 = .ok (.iadd, 1) := by decide +kernel
theorem dX9_fate_93 : decode cX9_fate 93 = .ok (.iload_n 2, 1) := by decide +kernel
theorem dX9_fate_94 : decode cX9_fate 94 = .ok (.iastore, 1) := by decide +kernel
theorem dX9_fate_95 : decode cX9_fate 95 = .ok (.aload_n 0, 1) := by decide +kernel
theorem dX9_fate_96 : decode cX9_fate 96 = .ok (.getfield 7, 3) := by decide +kernel
theorem dX9_fate_99 : decode cX9_fate 99 = .ok (.bipush 25, 2) := by decide +kernel
theorem dX9_fate_101 : decode cX9_fate 101 = .ok (.iload_n 1, 1) := by decide +kernel
theorem dX9_fate_102 : decode cX9_fate 102 = .ok (.iadd, 1) := by decide +kernel
theorem dX9_fate_103 : decode cX9_fate 103 = .ok (.iload_n 2, 1) := by decide +kernel
theorem dX9_fate_104 : decode cX9_fate 104 = .ok (.iconst 2, 1) := by decide +kernel
theorem dX9_fate_105 : decode cX9_fate 105 = .ok (.if_icmp .lt 7, 3) := by decide +kernel
theorem dX9_fate_108 : decode cX9_fate 108 = .ok (.iload_n 3, 1) := by decide +kernel
theorem dX9_fate_109 : decode cX9_fate 109 = .ok (.goto 4, 3) := by decide +kernel
theorem dX9_fate_112 : decode cX9_fate 112 = .ok (.iconst (-1), 1) := by decide +kernel
theorem dX9_fate_113 : decode cX9_fate 113 = .ok (.iastore, 1) := by decide +kernel
theorem dX9_fate_114 : decode cX9_fate 114 = .ok (.iload 4, 2) := by decide +kernel
theorem dX9_fate_116 : decode cX9_fate 116 = .ok (.ireturn, 1) := by decide +kernel
theorem dX9_dual_0 : decode cX9_dual 0 = .ok (.aload_n 0, 1) := by decide +kernel
theorem dX9_dual_1 : decode cX9_dual 1 = .ok (.invokevirtual 156, 3) := by decide +kernel
theorem dX9_dual_4 : decode cX9_dual 4 = .ok (.iconst 0, 1) := by decide +kernel
theorem dX9_dual_5 : decode cX9_dual 5 = .ok (.istore_n 1, 1) := by decide +kernel
theorem dX9_dual_6 : decode cX9_dual 6 = .ok (.iload_n 1, 1) := by decide +kernel
theorem dX9_dual_7 : decode cX9_dual 7 = .ok (.bipush 8, 2) := by decide +kernel
theorem dX9_dual_9 : decode cX9_dual 9 = .ok (.if_icmp .ge 20, 3) := by decide +kernel
theorem dX9_dual_12 : decode cX9_dual 12 = .ok (.aload_n 0, 1) := by decide +kernel
theorem dX9_dual_13 : decode cX9_dual 13 = .ok (.getfield 51, 3) := by decide +kernel
theorem dX9_dual_16 : decode cX9_dual 16 = .ok (.iload_n 1, 1) := by decide +kernel
theorem dX9_dual_17 : decode cX9_dual 17 = .ok (.aload_n 0, 1) := by decide +kernel
theorem dX9_dual_18 : decode cX9_dual 18 = .ok (.iload_n 1, 1) := by decide +kernel
theorem dX9_dual_19 : decode cX9_dual 19 = .ok (.invokevirtual 145, 3) := by decide +kernel
theorem dX9_dual_22 : decode cX9_dual 22 = .ok (.iastore, 1) := by decide +kernel
theorem dX9_dual_23 : decode cX9_dual 23 = .ok (.iinc 1 1, 3) := by decide +kernel
theorem dX9_dual_26 : decode cX9_dual 26 = .ok (.goto (-20), 3) := by decide +kernel
theorem dX9_dual_29 : decode cX9_dual 29 = .ok (.iconst 0, 1) := by decide +kernel
theorem dX9_dual_30 : decode cX9_dual 30 = .ok (.istore_n 1, 1) := by decide +kernel
theorem dX9_dual_31 : decode cX9_dual 31 = .ok (.iload_n 1, 1) := by decide +kernel
theorem dX9_dual_32 : decode cX9_dual 32 = .ok (.bipush 8, 2) := by decide +kernel
theorem dX9_dual_34 : decode cX9_dual 34 = .ok (.if_icmp .ge 24, 3) := by decide +kernel
theorem dX9_dual_37 : decode cX9_dual 37 = .ok (.aload_n 0, 1) := by decide +kernel
theorem dX9_dual_38 : decode cX9_dual 38 = .ok (.getfield 7, 3) := by decide +kernel
theorem dX9_dual_41 : decode cX9_dual 41 = .ok (.bipush 17, 2) := by decide +kernel
theorem dX9_dual_43 : decode cX9_dual 43 = .ok (.iload_n 1, 1) := by decide +kernel
theorem dX9_dual_44 : decode cX9_dual 44 = .ok (.iadd, 1) := by decide +kernel
theorem dX9_dual_45 : decode cX9_dual 45 = .ok (.aload_n 0, 1) := by decide +kernel
theorem dX9_dual_46 : decode cX9_dual 46 = .ok (.getfield 51, 3) := by decide +kernel
theorem dX9_dual_49 : decode cX9_dual 49 = .ok (.iload_n 1, 1) := by decide +kernel
theorem dX9_dual_50 : decode cX9_dual 50 = .ok (.iaload, 1) := by decide +kernel
theorem dX9_dual_51 : decode cX9_dual 51 = .ok (.iastore, 1) := by decide +kernel
theorem dX9_dual_52 : decode cX9_dual 52 = .ok (.iinc 1 1, 3) := by decide +kernel
theorem dX9_dual_55 : decode cX9_dual 55 = .ok (.goto (-24), 3) := by decide +kernel
theorem dX9_dual_58 : decode cX9_dual 58 = .ok (.aload_n 0, 1) := by decide +kernel
theorem dX9_dual_59 : decode cX9_dual 59 = .ok (.invokevirtual 171, 3) := by decide +kernel
theorem dX9_dual_62 : decode cX9_dual 62 = .ok (.ireturn, 1) := by decide +kernel
theorem dX9_clear_0 : decode cX9_clear 0 = .ok (.aload_n 0, 1) := by decide +kernel
theorem dX9_clear_1 : decode cX9_clear 1 = .ok (.invokevirtual 156, 3) := by decide +kernel
theorem dX9_clear_4 : decode cX9_clear 4 = .ok (.iconst 0, 1) := by decide +kernel
theorem dX9_clear_5 : decode cX9_clear 5 = .ok (.istore_n 1, 1) := by decide +kernel
theorem dX9_clear_6 : decode cX9_clear 6 = .ok (.iconst 0, 1) := by decide +kernel
theorem dX9_clear_7 : decode cX9_clear 7 = .ok (.istore_n 2, 1) := by decide +kernel
theorem dX9_clear_8 : decode cX9_clear 8 = .ok (.iload_n 2, 1) := by decide +kernel
theorem dX9_clear_9 : decode cX9_clear 9 = .ok (.bipush 8, 2) := by decide +kernel
theorem dX9_clear_11 : decode cX9_clear 11 = .ok (.if_icmp .ge 49, 3) := by decide +kernel
theorem dX9_clear_14 : decode cX9_clear 14 = .ok (.iload_n 1, 1) := by decide +kernel
theorem dX9_clear_15 : decode cX9_clear 15 = .ok (.aload_n 0, 1) := by decide +kernel
theorem dX9_clear_16 : decode cX9_clear 16 = .ok (.getfield 7, 3) := by decide +kernel
theorem dX9_clear_19 : decode cX9_clear 19 = .ok (.bipush 17, 2) := by decide +kernel
theorem dX9_clear_21 : decode cX9_clear 21 = .ok (.iload_n 2, 1) := by decide +kernel
theorem dX9_clear_22 : decode cX9_clear 22 = .ok (.iadd, 1) := by decide +kernel
theorem dX9_clear_23 : decode cX9_clear 23 = .ok (.iaload, 1) := by decide +kernel
theorem dX9_clear_24 : decode cX9_clear 24 = .ok (.ifCond .eq 7, 3) := by decide +kernel
theorem dX9_clear_27 : decode cX9_clear 27 = .ok (.iconst 1, 1) := by decide +kernel
theorem dX9_clear_28 : decode cX9_clear 28 = .ok (.goto 4, 3) := by decide +kernel
theorem dX9_clear_31 : decode cX9_clear 31 = .ok (.iconst 0, 1) := by decide +kernel
theorem dX9_clear_32 : decode cX9_clear 32 = .ok (.iadd, 1) := by decide +kernel
theorem dX9_clear_33 : decode cX9_clear 33 = .ok (.istore_n 1, 1) := by decide +kernel
theorem dX9_clear_34 : decode cX9_clear 34 = .ok (.aload_n 0, 1) := by decide +kernel
theorem dX9_clear_35 : decode cX9_clear 35 = .ok (.getfield 7, 3) := by decide +kernel
theorem dX9_clear_38 : decode cX9_clear 38 = .ok (.bipush 17, 2) := by decide +kernel
theorem dX9_clear_40 : decode cX9_clear 40 = .ok (.iload_n 2, 1) := by decide +kernel
theorem dX9_clear_41 : decode cX9_clear 41 = .ok (.iadd, 1) := by decide +kernel
theorem dX9_clear_42 : decode cX9_clear 42 = .ok (.iconst 0, 1) := by decide +kernel
theorem dX9_clear_43 : decode cX9_clear 43 = .ok (.iastore, 1) := by decide +kernel
theorem dX9_clear_44 : decode cX9_clear 44 = .ok (.aload_n 0, 1) := by decide +kernel
theorem dX9_clear_45 : decode cX9_clear 45 = .ok (.getfield 7, 3) := by decide +kernel
theorem dX9_clear_48 : decode cX9_clear 48 = .ok (.bipush 25, 2) := by decide +kernel
theorem dX9_clear_50 : decode cX9_clear 50 = .ok (.iload_n 2, 1) := by decide +kernel
theorem dX9_clear_51 : decode cX9_clear 51 = .ok (.iadd, 1) := by decide +kernel
theorem dX9_clear_52 : decode cX9_clear 52 = .ok (.iconst (-1), 1) := by decide +kernel
theorem dX9_clear_53 : decode cX9_clear 53 = .ok (.iastore, 1) := by decide +kernel
theorem dX9_clear_54 : decode cX9_clear 54 = .ok (.iinc 2 1, 3) := by decide +kernel
theorem dX9_clear_57 : decode cX9_clear 57 = .ok (.goto (-49), 3) := by decide +kernel
theorem dX9_clear_60 : decode cX9_clear 60 = .ok (.iload_n 1, 1) := by decide +kernel
theorem dX9_clear_61 : decode cX9_clear 61 = .ok (.ireturn, 1) := by decide +kernel
theorem dX9_draw_0 : decode cX9_draw 0 = .ok (.aload_n 0, 1) := by decide +kernel
theorem dX9_draw_1 : decode cX9_draw 1 = .ok (.getfield 221, 3) := by decide +kernel
theorem dX9_draw_4 : decode cX9_draw 4 = .ok (.i2l, 1) := by decide +kernel
theorem dX9_draw_5 : decode cX9_draw 5 = .ok (.ldc2_w 224, 3) := by decide +kernel
theorem dX9_draw_8 : decode cX9_draw 8 = .ok (.lmul, 1) := by decide +kernel
theorem dX9_draw_9 : decode cX9_draw 9 = .ok (.ldc2_w 226, 3) := by decide +kernel
theorem dX9_draw_12 : decode cX9_draw 12 = .ok (.ladd, 1) := by decide +kernel
theorem dX9_draw_13 : decode cX9_draw 13 = .ok (.ldc2_w 228, 3) := by decide +kernel
theorem dX9_draw_16 : decode cX9_draw 16 = .ok (.lrem, 1) := by decide +kernel
theorem dX9_draw_17 : decode cX9_draw 17 = .ok (.lstore_n 2, 1) := by decide +kernel
theorem dX9_draw_18 : decode cX9_draw 18 = .ok (.aload_n 0, 1) := by decide +kernel
theorem dX9_draw_19 : decode cX9_draw 19 = .ok (.lload_n 2, 1) := by decide +kernel
theorem dX9_draw_20 : decode cX9_draw 20 = .ok (.l2i, 1) := by decide +kernel
theorem dX9_draw_21 : decode cX9_draw 21 = .ok (.putfield 221, 3) := by decide +kernel
theorem dX9_draw_24 : decode cX9_draw 24 = .ok (.aload_n 0, 1) := by decide +kernel
theorem dX9_draw_25 : decode cX9_draw 25 = .ok (.getfield 221, 3) := by decide +kernel
theorem dX9_draw_28 : decode cX9_draw 28 = .ok (.ldc 230, 2) := by decide +kernel
theorem dX9_draw_30 : decode cX9_draw 30 = .ok (.idiv, 1) := by decide +kernel
theorem dX9_draw_31 : decode cX9_draw 31 = .ok (.iload_n 1, 1) := by decide +kernel
theorem dX9_draw_32 : decode cX9_draw 32 = .ok (.irem, 1) := by decide +kernel
theorem dX9_draw_33 : decode cX9_draw 33 = .ok (.ireturn, 1) := by decide +kernel
theorem dX9_put_0 : decode cX9_put 0 = .ok (.aload_n 0, 1) := by decide +kernel
theorem dX9_put_1 : decode cX9_put 1 = .ok (.iload_n 1, 1) := by decide +kernel
theorem dX9_put_2 : decode cX9_put 2 = .ok (.invokevirtual 214, 3) := by decide +kernel
theorem dX9_put_5 : decode cX9_put 5 = .ok (.istore_n 3, 1) := by decide +kernel
theorem dX9_put_6 : decode cX9_put 6 = .ok (.aload_n 0, 1) := by decide +kernel
theorem dX9_put_7 : decode cX9_put 7 = .ok (.iconst 0, 1) := by decide +kernel
theorem dX9_put_8 : decode cX9_put 8 = .ok (.putfield 83, 3) := by decide +kernel
theorem dX9_put_11 : decode cX9_put 11 = .ok (.aload_n 0, 1) := by decide +kernel
theorem dX9_put_12 : decode cX9_put 12 = .ok (.iconst 0, 1) := by decide +kernel
theorem dX9_put_13 : decode cX9_put 13 = .ok (.iload_n 3, 1) := by decide +kernel
theorem dX9_put_14 : decode cX9_put 14 = .ok (.invokevirtual 86, 3) := by decide +kernel
theorem dX9_put_17 : decode cX9_put 17 = .ok (.aload_n 0, 1) := by decide +kernel
theorem dX9_put_18 : decode cX9_put 18 = .ok (.iconst 1, 1) := by decide +kernel
theorem dX9_put_19 : decode cX9_put 19 = .ok (.iload_n 2, 1) := by decide +kernel
theorem dX9_put_20 : decode cX9_put 20 = .ok (.iadd, 1) := by decide +kernel
theorem dX9_put_21 : decode cX9_put 21 = .ok (.invokevirtual 89, 3) := by decide +kernel
theorem dX9_put_24 : decode cX9_put 24 = .ok (.aload_n 0, 1) := by decide +kernel
theorem dX9_put_25 : decode cX9_put 25 = .ok (.iconst 0, 1) := by decide +kernel
theorem dX9_put_26 : decode cX9_put 26 = .ok (.invokevirtual 89, 3) := by decide +kernel
theorem dX9_put_29 : decode cX9_put 29 = .ok (.aload_n 0, 1) := by decide +kernel
theorem dX9_put_30 : decode cX9_put 30 = .ok (.iload_n 3, 1) := by decide +kernel
theorem dX9_put_31 : decode cX9_put 31 = .ok (.aload_n 0, 1) := by decide +kernel
theorem dX9_put_32 : decode cX9_put 32 = .ok (.getfield 58, 3) := by decide +kernel
theorem dX9_put_35 : decode cX9_put 35 = .ok (.invokevirtual 86, 3) := by decide +kernel
theorem dX9_put_38 : decode cX9_put 38 = .ok (.aload_n 0, 1) := by decide +kernel
theorem dX9_put_39 : decode cX9_put 39 = .ok (.invokevirtual 93, 3) := by decide +kernel
theorem dX9_put_42 : decode cX9_put 42 = .ok (.return_, 1) := by decide +kernel
theorem dX9_chance_0 : decode cX9_chance 0 = .ok (.aload_n 0, 1) := by decide +kernel
theorem dX9_chance_1 : decode cX9_chance 1 = .ok (.iconst 5, 1) := by decide +kernel
theorem dX9_chance_2 : decode cX9_chance 2 = .ok (.invokevirtual 231, 3) := by decide +kernel
theorem dX9_chance_5 : decode cX9_chance 5 = .ok (.iconst 1, 1) := by decide +kernel
theorem dX9_chance_6 : decode cX9_chance 6 = .ok (.iadd, 1) := by decide +kernel
theorem dX9_chance_7 : decode cX9_chance 7 = .ok (.istore_n 1, 1) := by decide +kernel
theorem dX9_chance_8 : decode cX9_chance 8 = .ok (.aload_n 0, 1) := by decide +kernel
theorem dX9_chance_9 : decode cX9_chance 9 = .ok (.iconst 0, 1) := by decide +kernel
theorem dX9_chance_10 : decode cX9_chance 10 = .ok (.iconst 1, 1) := by decide +kernel
theorem dX9_chance_11 : decode cX9_chance 11 = .ok (.invokevirtual 64, 3) := by decide +kernel
theorem dX9_chance_14 : decode cX9_chance 14 = .ok (.aload_n 0, 1) := by decide +kernel
theorem dX9_chance_15 : decode cX9_chance 15 = .ok (.iconst 0, 1) := by decide +kernel
theorem dX9_chance_16 : decode cX9_chance 16 = .ok (.aload_n 0, 1) := by decide +kernel
theorem dX9_chance_17 : decode cX9_chance 17 = .ok (.iconst 2, 1) := by decide +kernel
theorem dX9_chance_18 : decode cX9_chance 18 = .ok (.invokevirtual 231, 3) := by decide +kernel
theorem dX9_chance_21 : decode cX9_chance 21 = .ok (.invokevirtual 234, 3) := by decide +kernel
theorem dX9_chance_24 : decode cX9_chance 24 = .ok (.iconst 1, 1) := by decide +kernel
theorem dX9_chance_25 : decode cX9_chance 25 = .ok (.istore_n 2, 1) := by decide +kernel
theorem dX9_chance_26 : decode cX9_chance 26 = .ok (.iload_n 2, 1) := by decide +kernel
theorem dX9_chance_27 : decode cX9_chance 27 = .ok (.iload_n 1, 1) := by decide +kernel
theorem dX9_chance_28 : decode cX9_chance 28 = .ok (.if_icmp .ge 27, 3) := by decide +kernel
theorem dX9_chance_31 : decode cX9_chance 31 = .ok (.aload_n 0, 1) := by decide +kernel
theorem dX9_chance_32 : decode cX9_chance 32 = .ok (.iload_n 2, 1) := by decide +kernel
theorem dX9_chance_33 : decode cX9_chance 33 = .ok (.iconst 1, 1) := by decide +kernel
theorem dX9_chance_34 : decode cX9_chance 34 = .ok (.iadd, 1) := by decide +kernel
theorem dX9_chance_35 : decode cX9_chance 35 = .ok (.invokevirtual 231, 3) := by decide +kernel
theorem dX9_chance_38 : decode cX9_chance 38 = .ok (.istore_n 3, 1) := by decide +kernel
theorem dX9_chance_39 : decode cX9_chance 39 = .ok (.aload_n 0, 1) := by decide +kernel
theorem dX9_chance_40 : decode cX9_chance 40 = .ok (.iload_n 3, 1) := by decide +kernel
theorem dX9_chance_41 : decode cX9_chance 41 = .ok (.aload_n 0, 1) := by decide +kernel
theorem dX9_chance_42 : decode cX9_chance 42 = .ok (.iconst 2, 1) := by decide +kernel
theorem dX9_chance_43 : decode cX9_chance 43 = .ok (.invokevirtual 231, 3) := by decide +kernel
theorem dX9_chance_46 : decode cX9_chance 46 = .ok (.invokevirtual 234, 3) := by decide +kernel
theorem dX9_chance_49 : decode cX9_chance 49 = .ok (.iinc 2 1, 3) := by decide +kernel
theorem dX9_chance_52 : decode cX9_chance 52 = .ok (.goto (-26), 3) := by decide +kernel
theorem dX9_chance_55 : decode cX9_chance 55 = .ok (.aload_n 0, 1) := by decide +kernel
theorem dX9_chance_56 : decode cX9_chance 56 = .ok (.invokevirtual 156, 3) := by decide +kernel
theorem dX9_chance_59 : decode cX9_chance 59 = .ok (.aload_n 0, 1) := by decide +kernel
theorem dX9_chance_60 : decode cX9_chance 60 = .ok (.invokevirtual 159, 3) := by decide +kernel
theorem dX9_chance_63 : decode cX9_chance 63 = .ok (.istore_n 2, 1) := by decide +kernel
theorem dX9_chance_64 : decode cX9_chance 64 = .ok (.return_, 1) := by decide +kernel
theorem dX9_drift_0 : decode cX9_drift 0 = .ok (.iload_n 1, 1) := by decide +kernel
theorem dX9_drift_1 : decode cX9_drift 1 = .ok (.iconst 1, 1) := by decide +kernel
theorem dX9_drift_2 : decode cX9_drift 2 = .ok (.bipush 8, 2) := by decide +kernel
theorem dX9_drift_4 : decode cX9_drift 4 = .ok (.invokestatic 54, 3) := by decide +kernel
theorem dX9_drift_7 : decode cX9_drift 7 = .ok (.ifCond .ne 6, 3) := by decide +kernel
theorem dX9_drift_10 : decode cX9_drift 10 = .ok (.ldc 148, 2) := by decide +kernel
theorem dX9_drift_12 : decode cX9_drift 12 = .ok (.ireturn, 1) := by decide +kernel
theorem dX9_drift_13 : decode cX9_drift 13 = .ok (.iconst 0, 1) := by decide +kernel
theorem dX9_drift_14 : decode cX9_drift 14 = .ok (.istore_n 2, 1) := by decide +kernel
theorem dX9_drift_15 : decode cX9_drift 15 = .ok (.iload_n 2, 1) := by decide +kernel
theorem dX9_drift_16 : decode cX9_drift 16 = .ok (.iload_n 1, 1) := by decide +kernel
theorem dX9_drift_17 : decode cX9_drift 17 = .ok (.if_icmp .ge 24, 3) := by decide +kernel
theorem dX9_drift_20 : decode cX9_drift 20 = .ok (.aload_n 0, 1) := by decide +kernel
theorem dX9_drift_21 : decode cX9_drift 21 = .ok (.getfield 7, 3) := by decide +kernel
theorem dX9_drift_24 : decode cX9_drift 24 = .ok (.iconst 0, 1) := by decide +kernel
theorem dX9_drift_25 : decode cX9_drift 25 = .ok (.iaload, 1) := by decide +kernel
theorem dX9_drift_26 : decode cX9_drift 26 = .ok (.bipush 8, 2) := by decide +kernel
theorem dX9_drift_28 : decode cX9_drift 28 = .ok (.if_icmp .ge 13, 3) := by decide +kernel
theorem dX9_drift_31 : decode cX9_drift 31 = .ok (.aload_n 0, 1) := by decide +kernel
theorem dX9_drift_32 : decode cX9_drift 32 = .ok (.invokevirtual 237, 3) := by decide +kernel
theorem dX9_drift_35 : decode cX9_drift 35 = .ok (.iinc 2 1, 3) := by decide +kernel
theorem dX9_drift_38 : decode cX9_drift 38 = .ok (.goto (-23), 3) := by decide +kernel
theorem dX9_drift_41 : decode cX9_drift 41 = .ok (.aload_n 0, 1) := by decide +kernel
theorem dX9_drift_42 : decode cX9_drift 42 = .ok (.getfield 7, 3) := by decide +kernel
theorem dX9_drift_45 : decode cX9_drift 45 = .ok (.iconst 0, 1) := by decide +kernel
theorem dX9_drift_46 : decode cX9_drift 46 = .ok (.iaload, 1) := by decide +kernel
theorem dX9_drift_47 : decode cX9_drift 47 = .ok (.ireturn, 1) := by decide +kernel
theorem dX9_undo_0 : decode cX9_undo 0 = .ok (.iload_n 1, 1) := by decide +kernel
theorem dX9_undo_1 : decode cX9_undo 1 = .ok (.iconst 1, 1) := by decide +kernel
theorem dX9_undo_2 : decode cX9_undo 2 = .ok (.bipush 20, 2) := by decide +kernel
theorem dX9_undo_4 : decode cX9_undo 4 = .ok (.invokestatic 54, 3) := by decide +kernel
theorem dX9_undo_7 : decode cX9_undo 7 = .ok (.ifCond .ne 6, 3) := by decide +kernel
theorem dX9_undo_10 : decode cX9_undo 10 = .ok (.ldc 148, 2) := by decide +kernel
theorem dX9_undo_12 : decode cX9_undo 12 = .ok (.ireturn, 1) := by decide +kernel
theorem dX9_undo_13 : decode cX9_undo 13 = .ok (.iload_n 1, 1) := by decide +kernel
theorem dX9_undo_14 : decode cX9_undo 14 = .ok (.aload_n 0, 1) := by decide +kernel
theorem dX9_undo_15 : decode cX9_undo 15 = .ok (.getfield 183, 3) := by decide +kernel
theorem dX9_undo_18 : decode cX9_undo 18 = .ok (.if_icmp .le 6, 3) := by decide +kernel
theorem dX9_undo_21 : decode cX9_undo 21 = .ok (.ldc 217, 2) := by decide +kernel
theorem dX9_undo_23 : decode cX9_undo 23 = .ok (.ireturn, 1) := by decide +kernel
theorem dX9_undo_24 : decode cX9_undo 24 = .ok (.aload_n 0, 1) := by decide +kernel
theorem dX9_undo_25 : decode cX9_undo 25 = .ok (.dup, 1) := by decide +kernel
theorem dX9_undo_26 : decode cX9_undo 26 = .ok (.getfield 183, 3) := by decide +kernel
theorem dX9_undo_29 : decode cX9_undo 29 = .ok (.iload_n 1, 1) := by decide +kernel
theorem dX9_undo_30 : decode cX9_undo 30 = .ok (.isub, 1) := by decide +kernel
theorem dX9_undo_31 : decode cX9_undo 31 = .ok (.putfield 183, 3) := by decide +kernel
theorem dX9_undo_34 : decode cX9_undo 34 = .ok (.aload_n 0, 1) := by decide +kernel
theorem dX9_undo_35 : decode cX9_undo 35 = .ok (.bipush 34, 2) := by decide +kernel
theorem dX9_undo_37 : decode cX9_undo 37 = .ok (.aload_n 0, 1) := by decide +kernel
theorem dX9_undo_38 : decode cX9_undo 38 = .ok (.getfield 183, 3) := by decide +kernel
theorem dX9_undo_41 : decode cX9_undo 41 = .ok (.iconst 1, 1) := by decide +kernel
theorem dX9_undo_42 : decode cX9_undo 42 = .ok (.iadd, 1) := by decide +kernel
theorem dX9_undo_43 : decode cX9_undo 43 = .ok (.imul, 1) := by decide +kernel
theorem dX9_undo_44 : decode cX9_undo 44 = .ok (.iconst 0, 1) := by decide +kernel
theorem dX9_undo_45 : decode cX9_undo 45 = .ok (.invokevirtual 208, 3) := by decide +kernel
theorem dX9_undo_48 : decode cX9_undo 48 = .ok (.aload_n 0, 1) := by decide +kernel
theorem dX9_undo_49 : decode cX9_undo 49 = .ok (.getfield 7, 3) := by decide +kernel
theorem dX9_undo_52 : decode cX9_undo 52 = .ok (.iconst 0, 1) := by decide +kernel
theorem dX9_undo_53 : decode cX9_undo 53 = .ok (.iaload, 1) := by decide +kernel
theorem dX9_undo_54 : decode cX9_undo 54 = .ok (.ireturn, 1) := by decide +kernel
theorem dX9_write_0 : decode cX9_write 0 = .ok (.aload_n 0, 1) := by decide +kernel
theorem dX9_write_1 : decode cX9_write 1 = .ok (.iload_n 1, 1) := by decide +kernel
theorem dX9_write_2 : decode cX9_write 2 = .ok (.invokevirtual 165, 3) := by decide +kernel
theorem dX9_write_5 : decode cX9_write 5 = .ok (.ifCond .ne 6, 3) := by decide +kernel
theorem dX9_write_8 : decode cX9_write 8 = .ok (.ldc 189, 2) := by decide +kernel
theorem dX9_write_10 : decode cX9_write 10 = .ok (.ireturn, 1) := by decide +kernel
theorem dX9_write_11 : decode cX9_write 11 = .ok (.aload_n 0, 1) := by decide +kernel
theorem dX9_write_12 : decode cX9_write 12 = .ok (.getfield 162, 3) := by decide +kernel
theorem dX9_write_15 : decode cX9_write 15 = .ok (.bipush 20, 2) := by decide +kernel
theorem dX9_write_17 : decode cX9_write 17 = .ok (.if_icmp .ne 6, 3) := by decide +kernel
theorem dX9_write_20 : decode cX9_write 20 = .ok (.ldc 152, 2) := by decide +kernel
theorem dX9_write_22 : decode cX9_write 22 = .ok (.ireturn, 1) := by decide +kernel
theorem dX9_write_23 : decode cX9_write 23 = .ok (.aload_n 0, 1) := by decide +kernel
theorem dX9_write_24 : decode cX9_write 24 = .ok (.getfield 23, 3) := by decide +kernel
theorem dX9_write_27 : decode cX9_write 27 = .ok (.aload_n 0, 1) := by decide +kernel
theorem dX9_write_28 : decode cX9_write 28 = .ok (.getfield 162, 3) := by decide +kernel
theorem dX9_write_31 : decode cX9_write 31 = .ok (.iload_n 1, 1) := by decide +kernel
theorem dX9_write_32 : decode cX9_write 32 = .ok (.iastore, 1) := by decide +kernel
theorem dX9_write_33 : decode cX9_write 33 = .ok (.aload_n 0, 1) := by decide +kernel
theorem dX9_write_34 : decode cX9_write 34 = .ok (.getfield 26, 3) := by decide +kernel
theorem dX9_write_37 : decode cX9_write 37 = .ok (.aload_n 0, 1) := by decide +kernel
theorem dX9_write_38 : decode cX9_write 38 = .ok (.getfield 162, 3) := by decide +kernel
theorem dX9_write_41 : decode cX9_write 41 = .ok (.iload_n 2, 1) := by decide +kernel
theorem dX9_write_42 : decode cX9_write 42 = .ok (.iastore, 1) := by decide +kernel
theorem dX9_write_43 : decode cX9_write 43 = .ok (.aload_n 0, 1) := by decide +kernel
theorem dX9_write_44 : decode cX9_write 44 = .ok (.dup, 1) := by decide +kernel
theorem dX9_write_45 : decode cX9_write 45 = .ok (.getfield 162, 3) := by decide +kernel
theorem dX9_write_48 : decode cX9_write 48 = .ok (.iconst 1, 1) := by decide +kernel
theorem dX9_write_49 : decode cX9_write 49 = .ok (.iadd, 1) := by decide +kernel
theorem dX9_write_50 : decode cX9_write 50 = .ok (.putfield 162, 3) := by decide +kernel
theorem dX9_write_53 : decode cX9_write 53 = .ok (.aload_n 0, 1) := by decide +kernel
theorem dX9_write_54 : decode cX9_write 54 = .ok (.getfield 162, 3) := by decide +kernel
theorem dX9_write_57 : decode cX9_write 57 = .ok (.ireturn, 1) := by decide +kernel
theorem dX9_tear_0 : decode cX9_tear 0 = .ok (.aload_n 0, 1) := by decide +kernel
theorem dX9_tear_1 : decode cX9_tear 1 = .ok (.getfield 162, 3) := by decide +kernel
theorem dX9_tear_4 : decode cX9_tear 4 = .ok (.istore_n 1, 1) := by decide +kernel
theorem dX9_tear_5 : decode cX9_tear 5 = .ok (.aload_n 0, 1) := by decide +kernel
theorem dX9_tear_6 : decode cX9_tear 6 = .ok (.iconst 0, 1) := by decide +kernel
theorem dX9_tear_7 : decode cX9_tear 7 = .ok (.putfield 162, 3) := by decide +kernel
theorem dX9_tear_10 : decode cX9_tear 10 = .ok (.iload_n 1, 1) := by decide +kernel
theorem dX9_tear_11 : decode cX9_tear 11 = .ok (.ireturn, 1) := by decide +kernel
theorem dX9_seed_0 : decode cX9_seed 0 = .ok (.iload_n 1, 1) := by decide +kernel
theorem dX9_seed_1 : decode cX9_seed 1 = .ok (.ifCond .ge 6, 3) := by decide +kernel
theorem dX9_seed_4 : decode cX9_seed 4 = .ok (.ldc 148, 2) := by decide +kernel
theorem dX9_seed_6 : decode cX9_seed 6 = .ok (.ireturn, 1) := by decide +kernel
theorem dX9_seed_7 : decode cX9_seed 7 = .ok (.aload_n 0, 1) := by decide +kernel
theorem dX9_seed_8 : decode cX9_seed 8 = .ok (.getfield 221, 3) := by decide +kernel
theorem dX9_seed_11 : decode cX9_seed 11 = .ok (.istore_n 2, 1) := by decide +kernel
theorem dX9_seed_12 : decode cX9_seed 12 = .ok (.aload_n 0, 1) := by decide +kernel
theorem dX9_seed_13 : decode cX9_seed 13 = .ok (.iload_n 1, 1) := by decide +kernel
theorem dX9_seed_14 : decode cX9_seed 14 = .ok (.putfield 221, 3) := by decide +kernel
theorem dX9_seed_17 : decode cX9_seed 17 = .ok (.iload_n 2, 1) := by decide +kernel
theorem dX9_seed_18 : decode cX9_seed 18 = .ok (.ireturn, 1) := by decide +kernel
theorem dX9_keep_0 : decode cX9_keep 0 = .ok (.iload_n 1, 1) := by decide +kernel
theorem dX9_keep_1 : decode cX9_keep 1 = .ok (.iconst 0, 1) := by decide +kernel
theorem dX9_keep_2 : decode cX9_keep 2 = .ok (.iconst 1, 1) := by decide +kernel
theorem dX9_keep_3 : decode cX9_keep 3 = .ok (.invokestatic 54, 3) := by decide +kernel
theorem dX9_keep_6 : decode cX9_keep 6 = .ok (.ifCond .ne 6, 3) := by decide +kernel
theorem dX9_keep_9 : decode cX9_keep 9 = .ok (.ldc 189, 2) := by decide +kernel
theorem dX9_keep_11 : decode cX9_keep 11 = .ok (.ireturn, 1) := by decide +kernel
theorem dX9_keep_12 : decode cX9_keep 12 = .ok (.aload_n 0, 1) := by decide +kernel
theorem dX9_keep_13 : decode cX9_keep 13 = .ok (.iconst 0, 1) := by decide +kernel
theorem dX9_keep_14 : decode cX9_keep 14 = .ok (.sipush 714, 3) := by decide +kernel
theorem dX9_keep_17 : decode cX9_keep 17 = .ok (.bipush 34, 2) := by decide +kernel
theorem dX9_keep_19 : decode cX9_keep 19 = .ok (.iload_n 1, 1) := by decide +kernel
theorem dX9_keep_20 : decode cX9_keep 20 = .ok (.imul, 1) := by decide +kernel
theorem dX9_keep_21 : decode cX9_keep 21 = .ok (.iadd, 1) := by decide +kernel
theorem dX9_keep_22 : decode cX9_keep 22 = .ok (.invokevirtual 208, 3) := by decide +kernel
theorem dX9_keep_25 : decode cX9_keep 25 = .ok (.aload_n 0, 1) := by decide +kernel
theorem dX9_keep_26 : decode cX9_keep 26 = .ok (.getfield 13, 3) := by decide +kernel
theorem dX9_keep_29 : decode cX9_keep 29 = .ok (.iload_n 1, 1) := by decide +kernel
theorem dX9_keep_30 : decode cX9_keep 30 = .ok (.aload_n 0, 1) := by decide +kernel
theorem dX9_keep_31 : decode cX9_keep 31 = .ok (.getfield 221, 3) := by decide +kernel
theorem dX9_keep_34 : decode cX9_keep 34 = .ok (.iastore, 1) := by decide +kernel
theorem dX9_keep_35 : decode cX9_keep 35 = .ok (.aload_n 0, 1) := by decide +kernel
theorem dX9_keep_36 : decode cX9_keep 36 = .ok (.dup, 1) := by decide +kernel
theorem dX9_keep_37 : decode cX9_keep 37 = .ok (.getfield 240, 3) := by decide +kernel
theorem dX9_keep_40 : decode cX9_keep 40 = .ok (.iconst 1, 1) := by decide +kernel
theorem dX9_keep_41 : decode cX9_keep 41 = .ok (.iload_n 1, 1) := by decide +kernel
theorem dX9_keep_42 : decode cX9_keep 42 = .ok (.ishl, 1) := by decide +kernel
theorem dX9_keep_43 : decode cX9_keep 43 = .ok (.ior, 1) := by decide +kernel
theorem dX9_keep_44 : decode cX9_keep 44 = .ok (.putfield 240, 3) := by decide +kernel
theorem dX9_keep_47 : decode cX9_keep 47 = .ok (.aload_n 0, 1) := by decide +kernel
theorem dX9_keep_48 : decode cX9_keep 48 = .ok (.iconst 0, 1) := by decide +kernel
theorem dX9_keep_49 : decode cX9_keep 49 = .ok (.putfield 183, 3) := by decide +kernel
theorem dX9_keep_52 : decode cX9_keep 52 = .ok (.iconst 1, 1) := by decide +kernel
theorem dX9_keep_53 : decode cX9_keep 53 = .ok (.ireturn, 1) := by decide +kernel
theorem dX9_goBack_0 : decode cX9_goBack 0 = .ok (.iload_n 1, 1) := by decide +kernel
theorem dX9_goBack_1 : decode cX9_goBack 1 = .ok (.iconst 0, 1) := by decide +kernel
theorem dX9_goBack_2 : decode cX9_goBack 2 = .ok (.iconst 1, 1) := by decide +kernel
theorem dX9_goBack_3 : decode cX9_goBack 3 = .ok (.invokestatic 54, 3) := by decide +kernel
theorem dX9_goBack_6 : decode cX9_goBack 6 = .ok (.ifCond .ne 6, 3) := by decide +kernel
theorem dX9_goBack_9 : decode cX9_goBack 9 = .ok (.ldc 189, 2) := by decide +kernel
theorem dX9_goBack_11 : decode cX9_goBack 11 = .ok (.ireturn, 1) := by decide +kernel
theorem dX9_goBack_12 : decode cX9_goBack 12 = .ok (.aload_n 0, 1) := by decide +kernel
theorem dX9_goBack_13 : decode cX9_goBack 13 = .ok (.getfield 240, 3) := by decide +kernel
theorem dX9_goBack_16 : decode cX9_goBack 16 = .ok (.iload_n 1, 1) := by decide +kernel
theorem dX9_goBack_17 : decode cX9_goBack 17 = .ok (.ishr, 1) := by decide +kernel
theorem dX9_goBack_18 : decode cX9_goBack 18 = .ok (.iconst 1, 1) := by decide +kernel
theorem dX9_goBack_19 : decode cX9_goBack 19 = .ok (.iand, 1) := by decide +kernel
theorem dX9_goBack_20 : decode cX9_goBack 20 = .ok (.ifCond .ne 6, 3) := by decide +kernel
theorem dX9_goBack_23 : decode cX9_goBack 23 = .ok (.ldc 217, 2) := by decide +kernel
theorem dX9_goBack_25 : decode cX9_goBack 25 = .ok (.ireturn, 1) := by decide +kernel
theorem dX9_goBack_26 : decode cX9_goBack 26 = .ok (.aload_n 0, 1) := by decide +kernel
theorem dX9_goBack_27 : decode cX9_goBack 27 = .ok (.sipush 714, 3) := by decide +kernel
theorem dX9_goBack_30 : decode cX9_goBack 30 = .ok (.bipush 34, 2) := by decide +kernel
theorem dX9_goBack_32 : decode cX9_goBack 32 = .ok (.iload_n 1, 1) := by decide +kernel
theorem dX9_goBack_33 : decode cX9_goBack 33 = .ok (.imul, 1) := by decide +kernel
theorem dX9_goBack_34 : decode cX9_goBack 34 = .ok (.iadd, 1) := by decide +kernel
theorem dX9_goBack_35 : decode cX9_goBack 35 = .ok (.iconst 0, 1) := by decide +kernel
theorem dX9_goBack_36 : decode cX9_goBack 36 = .ok (.invokevirtual 208, 3) := by decide +kernel
theorem dX9_goBack_39 : decode cX9_goBack 39 = .ok (.aload_n 0, 1) := by decide +kernel
theorem dX9_goBack_40 : decode cX9_goBack 40 = .ok (.aload_n 0, 1) := by decide +kernel
theorem dX9_goBack_41 : decode cX9_goBack 41 = .ok (.getfield 13, 3) := by decide +kernel
theorem dX9_goBack_44 : decode cX9_goBack 44 = .ok (.iload_n 1, 1) := by decide +kernel
theorem dX9_goBack_45 : decode cX9_goBack 45 = .ok (.iaload, 1) := by decide +kernel
theorem dX9_goBack_46 : decode cX9_goBack 46 = .ok (.putfield 221, 3) := by decide +kernel
theorem dX9_goBack_49 : decode cX9_goBack 49 = .ok (.aload_n 0, 1) := by decide +kernel
theorem dX9_goBack_50 : decode cX9_goBack 50 = .ok (.iconst 0, 1) := by decide +kernel
theorem dX9_goBack_51 : decode cX9_goBack 51 = .ok (.putfield 183, 3) := by decide +kernel
theorem dX9_goBack_54 : decode cX9_goBack 54 = .ok (.iconst 1, 1) := by decide +kernel
theorem dX9_goBack_55 : decode cX9_goBack 55 = .ok (.ireturn, 1) := by decide +kernel
theorem dL_law_0 : decode cL_law 0 = .ok (.new 7, 3) := by decide +kernel
theorem dL_law_3 : decode cL_law 3 = .ok (.dup, 1) := by decide +kernel
theorem dL_law_4 : decode cL_law 4 = .ok (.invokespecial 9, 3) := by decide +kernel
theorem dL_law_7 : decode cL_law 7 = .ok (.astore_n 1, 1) := by decide +kernel
theorem dL_law_8 : decode cL_law 8 = .ok (.new 10, 3) := by decide +kernel
theorem dL_law_11 : decode cL_law 11 = .ok (.dup, 1) := by decide +kernel
theorem dL_law_12 : decode cL_law 12 = .ok (.invokespecial 12, 3) := by decide +kernel
theorem dL_law_15 : decode cL_law 15 = .ok (.astore_n 2, 1) := by decide +kernel
theorem dL_law_16 : decode cL_law 16 = .ok (.iconst 0, 1) := by decide +kernel
theorem dL_law_17 : decode cL_law 17 = .ok (.istore_n 3, 1) := by decide +kernel
theorem dL_law_18 : decode cL_law 18 = .ok (.iload_n 3, 1) := by decide +kernel
theorem dL_law_19 : decode cL_law 19 = .ok (.aload_n 0, 1) := by decide +kernel
theorem dL_law_20 : decode cL_law 20 = .ok (.arraylength, 1) := by decide +kernel
theorem dL_law_21 : decode cL_law 21 = .ok (.iconst 4, 1) := by decide +kernel
theorem dL_law_22 : decode cL_law 22 = .ok (.isub, 1) := by decide +kernel
theorem dL_law_23 : decode cL_law 23 = .ok (.if_icmp .gt 721, 3) := by decide +kernel
theorem dL_law_26 : decode cL_law 26 = .ok (.aload_n 0, 1) := by decide +kernel
theorem dL_law_27 : decode cL_law 27 = .ok (.iload_n 3, 1) := by decide +kernel
theorem dL_law_28 : decode cL_law 28 = .ok (.iaload, 1) := by decide +kernel
theorem dL_law_29 : decode cL_law 29 = .ok (.bipush 31, 2) := by decide +kernel
theorem dL_law_31 : decode cL_law 31 = .ok (.iand, 1) := by decide +kernel
theorem dL_law_32 : decode cL_law 32 = .ok (.tableswitch 706 0 23 #[112, 135, 148, 161, 184, 217, 250, 283, 307, 331, 374, 407, 430, 453, 476, 519, 532, 545, 568, 591, 624, 637, 660, 683], 112) := by decide +kernel
theorem dL_law_144 : decode cL_law 144 = .ok (.aload_n 1, 1) := by decide +kernel
theorem dL_law_145 : decode cL_law 145 = .ok (.aload_n 0, 1) := by decide +kernel
theorem dL_law_146 : decode cL_law 146 = .ok (.iload_n 3, 1) := by decide +kernel
theorem dL_law_147 : decode cL_law 147 = .ok (.iconst 1, 1) := by decide +kernel
theorem dL_law_148 : decode cL_law 148 = .ok (.iadd, 1) := by decide +kernel
theorem dL_law_149 : decode cL_law 149 = .ok (.iaload, 1) := by decide +kernel
theorem dL_law_150 : decode cL_law 150 = .ok (.invokevirtual 13, 3) := by decide +kernel
theorem dL_law_153 : decode cL_law 153 = .ok (.aload_n 2, 1) := by decide +kernel
theorem dL_law_154 : decode cL_law 154 = .ok (.aload_n 0, 1) := by decide +kernel
theorem dL_law_155 : decode cL_law 155 = .ok (.iload_n 3, 1) := by decide +kernel
theorem dL_law_156 : decode cL_law 156 = .ok (.iconst 1, 1) := by decide +kernel
theorem dL_law_157 : decode cL_law 157 = .ok (.iadd, 1) := by decide +kernel
theorem dL_law_158 : decode cL_law 158 = .ok (.iaload, 1) := by decide +kernel
theorem dL_law_159 : decode cL_law 159 = .ok (.invokevirtual 17, 3) := by decide +kernel
theorem dL_law_162 : decode cL_law 162 = .ok (.if_icmp .eq 576, 3) := by decide +kernel
theorem dL_law_165 : decode cL_law 165 = .ok (.iconst 0, 1) := by decide +kernel
theorem dL_law_166 : decode cL_law 166 = .ok (.ireturn, 1) := by decide +kernel
theorem dL_law_167 : decode cL_law 167 = .ok (.aload_n 1, 1) := by decide +kernel
theorem dL_law_168 : decode cL_law 168 = .ok (.invokevirtual 18, 3) := by decide +kernel
theorem dL_law_171 : decode cL_law 171 = .ok (.aload_n 2, 1) := by decide +kernel
theorem dL_law_172 : decode cL_law 172 = .ok (.invokevirtual 22, 3) := by decide +kernel
theorem dL_law_175 : decode cL_law 175 = .ok (.if_icmp .eq 563, 3) := by decide +kernel
theorem dL_law_178 : decode cL_law 178 = .ok (.iconst 0, 1) := by decide +kernel
theorem dL_law_179 : decode cL_law 179 = .ok (.ireturn, 1) := by decide +kernel
theorem dL_law_180 : decode cL_law 180 = .ok (.aload_n 1, 1) := by decide +kernel
theorem dL_law_181 : decode cL_law 181 = .ok (.invokevirtual 23, 3) := by decide +kernel
theorem dL_law_184 : decode cL_law 184 = .ok (.aload_n 2, 1) := by decide +kernel
theorem dL_law_185 : decode cL_law 185 = .ok (.invokevirtual 26, 3) := by decide +kernel
theorem dL_law_188 : decode cL_law 188 = .ok (.if_icmp .eq 550, 3) := by decide +kernel
theorem dL_law_191 : decode cL_law 191 = .ok (.iconst 0, 1) := by decide +kernel
theorem dL_law_192 : decode cL_law 192 = .ok (.ireturn, 1) := by decide +kernel
theorem dL_law_193 : decode cL_law 193 = .ok (.aload_n 1, 1) := by decide +kernel
theorem dL_law_194 : decode cL_law 194 = .ok (.aload_n 0, 1) := by decide +kernel
theorem dL_law_195 : decode cL_law 195 = .ok (.iload_n 3, 1) := by decide +kernel
theorem dL_law_196 : decode cL_law 196 = .ok (.iconst 1, 1) := by decide +kernel
theorem dL_law_197 : decode cL_law 197 = .ok (.iadd, 1) := by decide +kernel
theorem dL_law_198 : decode cL_law 198 = .ok (.iaload, 1) := by decide +kernel
theorem dL_law_199 : decode cL_law 199 = .ok (.invokevirtual 27, 3) := by decide +kernel
theorem dL_law_202 : decode cL_law 202 = .ok (.aload_n 2, 1) := by decide +kernel
theorem dL_law_203 : decode cL_law 203 = .ok (.aload_n 0, 1) := by decide +kernel
theorem dL_law_204 : decode cL_law 204 = .ok (.iload_n 3, 1) := by decide +kernel
theorem dL_law_205 : decode cL_law 205 = .ok (.iconst 1, 1) := by decide +kernel
theorem dL_law_206 : decode cL_law 206 = .ok (.iadd, 1) := by decide +kernel
theorem dL_law_207 : decode cL_law 207 = .ok (.iaload, 1) := by decide +kernel
theorem dL_law_208 : decode cL_law 208 = .ok (.invokevirtual 30, 3) := by decide +kernel
theorem dL_law_211 : decode cL_law 211 = .ok (.if_icmp .eq 527, 3) := by decide +kernel
theorem dL_law_214 : decode cL_law 214 = .ok (.iconst 0, 1) := by decide +kernel
theorem dL_law_215 : decode cL_law 215 = .ok (.ireturn, 1) := by decide +kernel
theorem dL_law_216 : decode cL_law 216 = .ok (.aload_n 1, 1) := by decide +kernel
theorem dL_law_217 : decode cL_law 217 = .ok (.aload_n 0, 1) := by decide +kernel
theorem dL_law_218 : decode cL_law 218 = .ok (.iload_n 3, 1) := by decide +kernel
theorem dL_law_219 : decode cL_law 219 = .ok (.iconst 1, 1) := by decide +kernel
theorem dL_law_220 : decode cL_law 220 = .ok (.iadd, 1) := by decide +kernel
theorem dL_law_221 : decode cL_law 221 = .ok (.iaload, 1) := by decide +kernel
theorem dL_law_222 : decode cL_law 222 = .ok (.aload_n 0, 1) := by decide +kernel
theorem dL_law_223 : decode cL_law 223 = .ok (.iload_n 3, 1) := by decide +kernel
theorem dL_law_224 : decode cL_law 224 = .ok (.iconst 2, 1) := by decide +kernel
theorem dL_law_225 : decode cL_law 225 = .ok (.iadd, 1) := by decide +kernel
theorem dL_law_226 : decode cL_law 226 = .ok (.iaload, 1) := by decide +kernel
theorem dL_law_227 : decode cL_law 227 = .ok (.invokevirtual 31, 3) := by decide +kernel
theorem dL_law_230 : decode cL_law 230 = .ok (.aload_n 2, 1) := by decide +kernel
theorem dL_law_231 : decode cL_law 231 = .ok (.aload_n 0, 1) := by decide +kernel
theorem dL_law_232 : decode cL_law 232 = .ok (.iload_n 3, 1) := by decide +kernel
theorem dL_law_233 : decode cL_law 233 = .ok (.iconst 1, 1) := by decide +kernel
theorem dL_law_234 : decode cL_law 234 = .ok (.iadd, 1) := by decide +kernel
theorem dL_law_235 : decode cL_law 235 = .ok (.iaload, 1) := by decide +kernel
theorem dL_law_236 : decode cL_law 236 = .ok (.aload_n 0, 1) := by decide +kernel
theorem dL_law_237 : decode cL_law 237 = .ok (.iload_n 3, 1) := by decide +kernel
theorem dL_law_238 : decode cL_law 238 = .ok (.iconst 2, 1) := by decide +kernel
theorem dL_law_239 : decode cL_law 239 = .ok (.iadd, 1) := by decide +kernel
theorem dL_law_240 : decode cL_law 240 = .ok (.iaload, 1) := by decide +kernel
theorem dL_law_241 : decode cL_law 241 = .ok (.invokevirtual 35, 3) := by decide +kernel
theorem dL_law_244 : decode cL_law 244 = .ok (.if_icmp .eq 494, 3) := by decide +kernel
theorem dL_law_247 : decode cL_law 247 = .ok (.iconst 0, 1) := by decide +kernel
theorem dL_law_248 : decode cL_law 248 = .ok (.ireturn, 1) := by decide +kernel
theorem dL_law_249 : decode cL_law 249 = .ok (.aload_n 1, 1) := by decide +kernel
theorem dL_law_250 : decode cL_law 250 = .ok (.aload_n 0, 1) := by decide +kernel
theorem dL_law_251 : decode cL_law 251 = .ok (.iload_n 3, 1) := by decide +kernel
theorem dL_law_252 : decode cL_law 252 = .ok (.iconst 1, 1) := by decide +kernel
theorem dL_law_253 : decode cL_law 253 = .ok (.iadd, 1) := by decide +kernel
theorem dL_law_254 : decode cL_law 254 = .ok (.iaload, 1) := by decide +kernel
theorem dL_law_255 : decode cL_law 255 = .ok (.aload_n 0, 1) := by decide +kernel
theorem dL_law_256 : decode cL_law 256 = .ok (.iload_n 3, 1) := by decide +kernel
theorem dL_law_257 : decode cL_law 257 = .ok (.iconst 2, 1) := by decide +kernel
theorem dL_law_258 : decode cL_law 258 = .ok (.iadd, 1) := by decide +kernel
theorem dL_law_259 : decode cL_law 259 = .ok (.iaload, 1) := by decide +kernel
theorem dL_law_260 : decode cL_law 260 = .ok (.invokevirtual 36, 3) := by decide +kernel
theorem dL_law_263 : decode cL_law 263 = .ok (.aload_n 2, 1) := by decide +kernel
theorem dL_law_264 : decode cL_law 264 = .ok (.aload_n 0, 1) := by decide +kernel
theorem dL_law_265 : decode cL_law 265 = .ok (.iload_n 3, 1) := by decide +kernel
theorem dL_law_266 : decode cL_law 266 = .ok (.iconst 1, 1) := by decide +kernel
theorem dL_law_267 : decode cL_law 267 = .ok (.iadd, 1) := by decide +kernel
theorem dL_law_268 : decode cL_law 268 = .ok (.iaload, 1) := by decide +kernel
theorem dL_law_269 : decode cL_law 269 = .ok (.aload_n 0, 1) := by decide +kernel
theorem dL_law_270 : decode cL_law 270 = .ok (.iload_n 3, 1) := by decide +kernel
theorem dL_law_271 : decode cL_law 271 = .ok (.iconst 2, 1) := by decide +kernel
theorem dL_law_272 : decode cL_law 272 = .ok (.iadd, 1) := by decide +kernel
theorem dL_law_273 : decode cL_law 273 = .ok (.iaload, 1) := by decide +kernel
theorem dL_law_274 : decode cL_law 274 = .ok (.invokevirtual 39, 3) := by decide +kernel
theorem dL_law_277 : decode cL_law 277 = .ok (.if_icmp .eq 461, 3) := by decide +kernel
theorem dL_law_280 : decode cL_law 280 = .ok (.iconst 0, 1) := by decide +kernel
theorem dL_law_281 : decode cL_law 281 = .ok (.ireturn, 1) := by decide +kernel
theorem dL_law_282 : decode cL_law 282 = .ok (.aload_n 1, 1) := by decide +kernel
theorem dL_law_283 : decode cL_law 283 = .ok (.aload_n 0, 1) := by decide +kernel
theorem dL_law_284 : decode cL_law 284 = .ok (.iload_n 3, 1) := by decide +kernel
theorem dL_law_285 : decode cL_law 285 = .ok (.iconst 1, 1) := by decide +kernel
theorem dL_law_286 : decode cL_law 286 = .ok (.iadd, 1) := by decide +kernel
theorem dL_law_287 : decode cL_law 287 = .ok (.iaload, 1) := by decide +kernel
theorem dL_law_288 : decode cL_law 288 = .ok (.aload_n 0, 1) := by decide +kernel
theorem dL_law_289 : decode cL_law 289 = .ok (.iload_n 3, 1) := by decide +kernel
theorem dL_law_290 : decode cL_law 290 = .ok (.iconst 2, 1) := by decide +kernel
theorem dL_law_291 : decode cL_law 291 = .ok (.iadd, 1) := by decide +kernel
theorem dL_law_292 : decode cL_law 292 = .ok (.iaload, 1) := by decide +kernel
theorem dL_law_293 : decode cL_law 293 = .ok (.invokevirtual 40, 3) := by decide +kernel
theorem dL_law_296 : decode cL_law 296 = .ok (.aload_n 2, 1) := by decide +kernel
theorem dL_law_297 : decode cL_law 297 = .ok (.aload_n 0, 1) := by decide +kernel
theorem dL_law_298 : decode cL_law 298 = .ok (.iload_n 3, 1) := by decide +kernel
theorem dL_law_299 : decode cL_law 299 = .ok (.iconst 1, 1) := by decide +kernel
theorem dL_law_300 : decode cL_law 300 = .ok (.iadd, 1) := by decide +kernel
theorem dL_law_301 : decode cL_law 301 = .ok (.iaload, 1) := by decide +kernel
theorem dL_law_302 : decode cL_law 302 = .ok (.aload_n 0, 1) := by decide +kernel
theorem dL_law_303 : decode cL_law 303 = .ok (.iload_n 3, 1) := by decide +kernel
theorem dL_law_304 : decode cL_law 304 = .ok (.iconst 2, 1) := by decide +kernel
theorem dL_law_305 : decode cL_law 305 = .ok (.iadd, 1) := by decide +kernel
theorem dL_law_306 : decode cL_law 306 = .ok (.iaload, 1) := by decide +kernel
theorem dL_law_307 : decode cL_law 307 = .ok (.invokevirtual 43, 3) := by decide +kernel
theorem dL_law_310 : decode cL_law 310 = .ok (.if_icmp .eq 428, 3) := by decide +kernel
theorem dL_law_313 : decode cL_law 313 = .ok (.iconst 0, 1) := by decide +kernel
theorem dL_law_314 : decode cL_law 314 = .ok (.ireturn, 1) := by decide +kernel
theorem dL_law_315 : decode cL_law 315 = .ok (.aload_n 1, 1) := by decide +kernel
theorem dL_law_316 : decode cL_law 316 = .ok (.aload_n 0, 1) := by decide +kernel
theorem dL_law_317 : decode cL_law 317 = .ok (.iload_n 3, 1) := by decide +kernel
theorem dL_law_318 : decode cL_law 318 = .ok (.iconst 1, 1) := by decide +kernel
theorem dL_law_319 : decode cL_law 319 = .ok (.iadd, 1) := by decide +kernel
theorem dL_law_320 : decode cL_law 320 = .ok (.iaload, 1) := by decide +kernel
theorem dL_law_321 : decode cL_law 321 = .ok (.invokevirtual 44, 3) := by decide +kernel
theorem dL_law_324 : decode cL_law 324 = .ok (.aload_n 2, 1) := by decide +kernel
theorem dL_law_325 : decode cL_law 325 = .ok (.aload_n 0, 1) := by decide +kernel
theorem dL_law_326 : decode cL_law 326 = .ok (.iload_n 3, 1) := by decide +kernel
theorem dL_law_327 : decode cL_law 327 = .ok (.iconst 1, 1) := by decide +kernel
theorem dL_law_328 : decode cL_law 328 = .ok (.iadd, 1) := by decide +kernel
theorem dL_law_329 : decode cL_law 329 = .ok (.iaload, 1) := by decide +kernel
theorem dL_law_330 : decode cL_law 330 = .ok (.invokevirtual 48, 3) := by decide +kernel
theorem dL_law_333 : decode cL_law 333 = .ok (.lcmp, 1) := by decide +kernel
theorem dL_law_334 : decode cL_law 334 = .ok (.ifCond .eq 404, 3) := by decide +kernel
theorem dL_law_337 : decode cL_law 337 = .ok (.iconst 0, 1) := by decide +kernel
theorem dL_law_338 : decode cL_law 338 = .ok (.ireturn, 1) := by decide +kernel
theorem dL_law_339 : decode cL_law 339 = .ok (.aload_n 1, 1) := by decide +kernel
theorem dL_law_340 : decode cL_law 340 = .ok (.aload_n 0, 1) := by decide +kernel
theorem dL_law_341 : decode cL_law 341 = .ok (.iload_n 3, 1) := by decide +kernel
theorem dL_law_342 : decode cL_law 342 = .ok (.iconst 1, 1) := by decide +kernel
theorem dL_law_343 : decode cL_law 343 = .ok (.iadd, 1) := by decide +kernel
theorem dL_law_344 : decode cL_law 344 = .ok (.iaload, 1) := by decide +kernel
theorem dL_law_345 : decode cL_law 345 = .ok (.invokevirtual 49, 3) := by decide +kernel
theorem dL_law_348 : decode cL_law 348 = .ok (.aload_n 2, 1) := by decide +kernel
theorem dL_law_349 : decode cL_law 349 = .ok (.aload_n 0, 1) := by decide +kernel
theorem dL_law_350 : decode cL_law 350 = .ok (.iload_n 3, 1) := by decide +kernel
theorem dL_law_351 : decode cL_law 351 = .ok (.iconst 1, 1) := by decide +kernel
theorem dL_law_352 : decode cL_law 352 = .ok (.iadd, 1) := by decide +kernel
theorem dL_law_353 : decode cL_law 353 = .ok (.iaload, 1) := by decide +kernel
theorem dL_law_354 : decode cL_law 354 = .ok (.invokevirtual 52, 3) := by decide +kernel
theorem dL_law_357 : decode cL_law 357 = .ok (.lcmp, 1) := by decide +kernel
theorem dL_law_358 : decode cL_law 358 = .ok (.ifCond .eq 380, 3) := by decide +kernel
theorem dL_law_361 : decode cL_law 361 = .ok (.iconst 0, 1) := by decide +kernel
theorem dL_law_362 : decode cL_law 362 = .ok (.ireturn, 1) := by decide +kernel
theorem dL_law_363 : decode cL_law 363 = .ok (.aload_n 1, 1) := by decide +kernel
theorem dL_law_364 : decode cL_law 364 = .ok (.aload_n 0, 1) := by decide +kernel
theorem dL_law_365 : decode cL_law 365 = .ok (.iload_n 3, 1) := by decide +kernel
theorem dL_law_366 : decode cL_law 366 = .ok (.iconst 1, 1) := by decide +kernel
theorem dL_law_367 : decode cL_law 367 = .ok (.iadd, 1) := by decide +kernel
theorem dL_law_368 : decode cL_law 368 = .ok (.iaload, 1) := by decide +kernel
theorem dL_law_369 : decode cL_law 369 = .ok (.aload_n 0, 1) := by decide +kernel
theorem dL_law_370 : decode cL_law 370 = .ok (.iload_n 3, 1) := by decide +kernel
theorem dL_law_371 : decode cL_law 371 = .ok (.iconst 2, 1) := by decide +kernel
theorem dL_law_372 : decode cL_law 372 = .ok (.iadd, 1) := by decide +kernel
theorem dL_law_373 : decode cL_law 373 = .ok (.iaload, 1) := by decide +kernel
theorem dL_law_374 : decode cL_law 374 = .ok (.aload_n 0, 1) := by decide +kernel
theorem dL_law_375 : decode cL_law 375 = .ok (.iload_n 3, 1) := by decide +kernel
theorem dL_law_376 : decode cL_law 376 = .ok (.iconst 3, 1) := by decide +kernel
theorem dL_law_377 : decode cL_law 377 = .ok (.iadd, 1) := by decide +kernel
theorem dL_law_378 : decode cL_law 378 = .ok (.iaload, 1) := by decide +kernel
theorem dL_law_379 : decode cL_law 379 = .ok (.invokevirtual 53, 3) := by decide +kernel
theorem dL_law_382 : decode cL_law 382 = .ok (.aload_n 2, 1) := by decide +kernel
theorem dL_law_383 : decode cL_law 383 = .ok (.aload_n 0, 1) := by decide +kernel
theorem dL_law_384 : decode cL_law 384 = .ok (.iload_n 3, 1) := by decide +kernel
theorem dL_law_385 : decode cL_law 385 = .ok (.iconst 1, 1) := by decide +kernel
theorem dL_law_386 : decode cL_law 386 = .ok (.iadd, 1) := by decide +kernel
theorem dL_law_387 : decode cL_law 387 = .ok (.iaload, 1) := by decide +kernel
theorem dL_law_388 : decode cL_law 388 = .ok (.aload_n 0, 1) := by decide +kernel
theorem dL_law_389 : decode cL_law 389 = .ok (.iload_n 3, 1) := by decide +kernel
theorem dL_law_390 : decode cL_law 390 = .ok (.iconst 2, 1) := by decide +kernel
theorem dL_law_391 : decode cL_law 391 = .ok (.iadd, 1) := by decide +kernel
theorem dL_law_392 : decode cL_law 392 = .ok (.iaload, 1) := by decide +kernel
theorem dL_law_393 : decode cL_law 393 = .ok (.aload_n 0, 1) := by decide +kernel
theorem dL_law_394 : decode cL_law 394 = .ok (.iload_n 3, 1) := by decide +kernel
theorem dL_law_395 : decode cL_law 395 = .ok (.iconst 3, 1) := by decide +kernel
theorem dL_law_396 : decode cL_law 396 = .ok (.iadd, 1) := by decide +kernel
theorem dL_law_397 : decode cL_law 397 = .ok (.iaload, 1) := by decide +kernel
theorem dL_law_398 : decode cL_law 398 = .ok (.invokevirtual 57, 3) := by decide +kernel
theorem dL_law_401 : decode cL_law 401 = .ok (.if_icmp .eq 337, 3) := by decide +kernel
theorem dL_law_404 : decode cL_law 404 = .ok (.iconst 0, 1) := by decide +kernel
theorem dL_law_405 : decode cL_law 405 = .ok (.ireturn, 1) := by decide +kernel
theorem dL_law_406 : decode cL_law 406 = .ok (.aload_n 1, 1) := by decide +kernel
theorem dL_law_407 : decode cL_law 407 = .ok (.aload_n 0, 1) := by decide +kernel
theorem dL_law_408 : decode cL_law 408 = .ok (.iload_n 3, 1) := by decide +kernel
theorem dL_law_409 : decode cL_law 409 = .ok (.iconst 1, 1) := by decide +kernel
theorem dL_law_410 : decode cL_law 410 = .ok (.iadd, 1) := by decide +kernel
theorem dL_law_411 : decode cL_law 411 = .ok (.iaload, 1) := by decide +kernel
theorem dL_law_412 : decode cL_law 412 = .ok (.aload_n 0, 1) := by decide +kernel
theorem dL_law_413 : decode cL_law 413 = .ok (.iload_n 3, 1) := by decide +kernel
theorem dL_law_414 : decode cL_law 414 = .ok (.iconst 2, 1) := by decide +kernel
theorem dL_law_415 : decode cL_law 415 = .ok (.iadd, 1) := by decide +kernel
theorem dL_law_416 : decode cL_law 416 = .ok (.iaload, 1) := by decide +kernel
theorem dL_law_417 : decode cL_law 417 = .ok (.invokevirtual 58, 3) := by decide +kernel
theorem dL_law_420 : decode cL_law 420 = .ok (.aload_n 2, 1) := by decide +kernel
theorem dL_law_421 : decode cL_law 421 = .ok (.aload_n 0, 1) := by decide +kernel
theorem dL_law_422 : decode cL_law 422 = .ok (.iload_n 3, 1) := by decide +kernel
theorem dL_law_423 : decode cL_law 423 = .ok (.iconst 1, 1) := by decide +kernel
theorem dL_law_424 : decode cL_law 424 = .ok (.iadd, 1) := by decide +kernel
theorem dL_law_425 : decode cL_law 425 = .ok (.iaload, 1) := by decide +kernel
theorem dL_law_426 : decode cL_law 426 = .ok (.aload_n 0, 1) := by decide +kernel
theorem dL_law_427 : decode cL_law 427 = .ok (.iload_n 3, 1) := by decide +kernel
theorem dL_law_428 : decode cL_law 428 = .ok (.iconst 2, 1) := by decide +kernel
theorem dL_law_429 : decode cL_law 429 = .ok (.iadd, 1) := by decide +kernel
theorem dL_law_430 : decode cL_law 430 = .ok (.iaload, 1) := by decide +kernel
theorem dL_law_431 : decode cL_law 431 = .ok (.invokevirtual 61, 3) := by decide +kernel
theorem dL_law_434 : decode cL_law 434 = .ok (.if_icmp .eq 304, 3) := by decide +kernel
theorem dL_law_437 : decode cL_law 437 = .ok (.iconst 0, 1) := by decide +kernel
theorem dL_law_438 : decode cL_law 438 = .ok (.ireturn, 1) := by decide +kernel
theorem dL_law_439 : decode cL_law 439 = .ok (.aload_n 1, 1) := by decide +kernel
theorem dL_law_440 : decode cL_law 440 = .ok (.aload_n 0, 1) := by decide +kernel
theorem dL_law_441 : decode cL_law 441 = .ok (.iload_n 3, 1) := by decide +kernel
theorem dL_law_442 : decode cL_law 442 = .ok (.iconst 1, 1) := by decide +kernel
theorem dL_law_443 : decode cL_law 443 = .ok (.iadd, 1) := by decide +kernel
theorem dL_law_444 : decode cL_law 444 = .ok (.iaload, 1) := by decide +kernel
theorem dL_law_445 : decode cL_law 445 = .ok (.invokevirtual 62, 3) := by decide +kernel
theorem dL_law_448 : decode cL_law 448 = .ok (.aload_n 2, 1) := by decide +kernel
theorem dL_law_449 : decode cL_law 449 = .ok (.aload_n 0, 1) := by decide +kernel
theorem dL_law_450 : decode cL_law 450 = .ok (.iload_n 3, 1) := by decide +kernel
theorem dL_law_451 : decode cL_law 451 = .ok (.iconst 1, 1) := by decide +kernel
theorem dL_law_452 : decode cL_law 452 = .ok (.iadd, 1) := by decide +kernel
theorem dL_law_453 : decode cL_law 453 = .ok (.iaload, 1) := by decide +kernel
theorem dL_law_454 : decode cL_law 454 = .ok (.invokevirtual 65, 3) := by decide +kernel
theorem dL_law_457 : decode cL_law 457 = .ok (.if_icmp .eq 281, 3) := by decide +kernel
theorem dL_law_460 : decode cL_law 460 = .ok (.iconst 0, 1) := by decide +kernel
theorem dL_law_461 : decode cL_law 461 = .ok (.ireturn, 1) := by decide +kernel
theorem dL_law_462 : decode cL_law 462 = .ok (.aload_n 1, 1) := by decide +kernel
theorem dL_law_463 : decode cL_law 463 = .ok (.aload_n 0, 1) := by decide +kernel
theorem dL_law_464 : decode cL_law 464 = .ok (.iload_n 3, 1) := by decide +kernel
theorem dL_law_465 : decode cL_law 465 = .ok (.iconst 1, 1) := by decide +kernel
theorem dL_law_466 : decode cL_law 466 = .ok (.iadd, 1) := by decide +kernel
theorem dL_law_467 : decode cL_law 467 = .ok (.iaload, 1) := by decide +kernel
theorem dL_law_468 : decode cL_law 468 = .ok (.invokevirtual 66, 3) := by decide +kernel
theorem dL_law_471 : decode cL_law 471 = .ok (.aload_n 2, 1) := by decide +kernel
theorem dL_law_472 : decode cL_law 472 = .ok (.aload_n 0, 1) := by decide +kernel
theorem dL_law_473 : decode cL_law 473 = .ok (.iload_n 3, 1) := by decide +kernel
theorem dL_law_474 : decode cL_law 474 = .ok (.iconst 1, 1) := by decide +kernel
theorem dL_law_475 : decode cL_law 475 = .ok (.iadd, 1) := by decide +kernel
theorem dL_law_476 : decode cL_law 476 = .ok (.iaload, 1) := by decide +kernel
theorem dL_law_477 : decode cL_law 477 = .ok (.invokevirtual 69, 3) := by decide +kernel
theorem dL_law_480 : decode cL_law 480 = .ok (.if_icmp .eq 258, 3) := by decide +kernel
theorem dL_law_483 : decode cL_law 483 = .ok (.iconst 0, 1) := by decide +kernel
theorem dL_law_484 : decode cL_law 484 = .ok (.ireturn, 1) := by decide +kernel
theorem dL_law_485 : decode cL_law 485 = .ok (.aload_n 1, 1) := by decide +kernel
theorem dL_law_486 : decode cL_law 486 = .ok (.aload_n 0, 1) := by decide +kernel
theorem dL_law_487 : decode cL_law 487 = .ok (.iload_n 3, 1) := by decide +kernel
theorem dL_law_488 : decode cL_law 488 = .ok (.iconst 1, 1) := by decide +kernel
theorem dL_law_489 : decode cL_law 489 = .ok (.iadd, 1) := by decide +kernel
theorem dL_law_490 : decode cL_law 490 = .ok (.iaload, 1) := by decide +kernel
theorem dL_law_491 : decode cL_law 491 = .ok (.invokevirtual 70, 3) := by decide +kernel
theorem dL_law_494 : decode cL_law 494 = .ok (.aload_n 2, 1) := by decide +kernel
theorem dL_law_495 : decode cL_law 495 = .ok (.aload_n 0, 1) := by decide +kernel
theorem dL_law_496 : decode cL_law 496 = .ok (.iload_n 3, 1) := by decide +kernel
theorem dL_law_497 : decode cL_law 497 = .ok (.iconst 1, 1) := by decide +kernel
theorem dL_law_498 : decode cL_law 498 = .ok (.iadd, 1) := by decide +kernel
theorem dL_law_499 : decode cL_law 499 = .ok (.iaload, 1) := by decide +kernel
theorem dL_law_500 : decode cL_law 500 = .ok (.invokevirtual 73, 3) := by decide +kernel
theorem dL_law_503 : decode cL_law 503 = .ok (.if_icmp .eq 235, 3) := by decide +kernel
theorem dL_law_506 : decode cL_law 506 = .ok (.iconst 0, 1) := by decide +kernel
theorem dL_law_507 : decode cL_law 507 = .ok (.ireturn, 1) := by decide +kernel
theorem dL_law_508 : decode cL_law 508 = .ok (.aload_n 1, 1) := by decide +kernel
theorem dL_law_509 : decode cL_law 509 = .ok (.aload_n 0, 1) := by decide +kernel
theorem dL_law_510 : decode cL_law 510 = .ok (.iload_n 3, 1) := by decide +kernel
theorem dL_law_511 : decode cL_law 511 = .ok (.iconst 1, 1) := by decide +kernel
theorem dL_law_512 : decode cL_law 512 = .ok (.iadd, 1) := by decide +kernel
theorem dL_law_513 : decode cL_law 513 = .ok (.iaload, 1) := by decide +kernel
theorem dL_law_514 : decode cL_law 514 = .ok (.aload_n 0, 1) := by decide +kernel
theorem dL_law_515 : decode cL_law 515 = .ok (.iload_n 3, 1) := by decide +kernel
theorem dL_law_516 : decode cL_law 516 = .ok (.iconst 2, 1) := by decide +kernel
theorem dL_law_517 : decode cL_law 517 = .ok (.iadd, 1) := by decide +kernel
theorem dL_law_518 : decode cL_law 518 = .ok (.iaload, 1) := by decide +kernel
theorem dL_law_519 : decode cL_law 519 = .ok (.aload_n 0, 1) := by decide +kernel
theorem dL_law_520 : decode cL_law 520 = .ok (.iload_n 3, 1) := by decide +kernel
theorem dL_law_521 : decode cL_law 521 = .ok (.iconst 3, 1) := by decide +kernel
theorem dL_law_522 : decode cL_law 522 = .ok (.iadd, 1) := by decide +kernel
theorem dL_law_523 : decode cL_law 523 = .ok (.iaload, 1) := by decide +kernel
theorem dL_law_524 : decode cL_law 524 = .ok (.invokevirtual 74, 3) := by decide +kernel
theorem dL_law_527 : decode cL_law 527 = .ok (.aload_n 2, 1) := by decide +kernel
theorem dL_law_528 : decode cL_law 528 = .ok (.aload_n 0, 1) := by decide +kernel
theorem dL_law_529 : decode cL_law 529 = .ok (.iload_n 3, 1) := by decide +kernel
theorem dL_law_530 : decode cL_law 530 = .ok (.iconst 1, 1) := by decide +kernel
theorem dL_law_531 : decode cL_law 531 = .ok (.iadd, 1) := by decide +kernel
theorem dL_law_532 : decode cL_law 532 = .ok (.iaload, 1) := by decide +kernel
theorem dL_law_533 : decode cL_law 533 = .ok (.aload_n 0, 1) := by decide +kernel
theorem dL_law_534 : decode cL_law 534 = .ok (.iload_n 3, 1) := by decide +kernel
theorem dL_law_535 : decode cL_law 535 = .ok (.iconst 2, 1) := by decide +kernel
theorem dL_law_536 : decode cL_law 536 = .ok (.iadd, 1) := by decide +kernel
theorem dL_law_537 : decode cL_law 537 = .ok (.iaload, 1) := by decide +kernel
theorem dL_law_538 : decode cL_law 538 = .ok (.aload_n 0, 1) := by decide +kernel
theorem dL_law_539 : decode cL_law 539 = .ok (.iload_n 3, 1) := by decide +kernel
theorem dL_law_540 : decode cL_law 540 = .ok (.iconst 3, 1) := by decide +kernel
theorem dL_law_541 : decode cL_law 541 = .ok (.iadd, 1) := by decide +kernel
theorem dL_law_542 : decode cL_law 542 = .ok (.iaload, 1) := by decide +kernel
theorem dL_law_543 : decode cL_law 543 = .ok (.invokevirtual 77, 3) := by decide +kernel
theorem dL_law_546 : decode cL_law 546 = .ok (.if_icmp .eq 192, 3) := by decide +kernel
theorem dL_law_549 : decode cL_law 549 = .ok (.iconst 0, 1) := by decide +kernel
theorem dL_law_550 : decode cL_law 550 = .ok (.ireturn, 1) := by decide +kernel
theorem dL_law_551 : decode cL_law 551 = .ok (.aload_n 1, 1) := by decide +kernel
theorem dL_law_552 : decode cL_law 552 = .ok (.invokevirtual 78, 3) := by decide +kernel
theorem dL_law_555 : decode cL_law 555 = .ok (.aload_n 2, 1) := by decide +kernel
theorem dL_law_556 : decode cL_law 556 = .ok (.invokevirtual 81, 3) := by decide +kernel
theorem dL_law_559 : decode cL_law 559 = .ok (.if_icmp .eq 179, 3) := by decide +kernel
theorem dL_law_562 : decode cL_law 562 = .ok (.iconst 0, 1) := by decide +kernel
theorem dL_law_563 : decode cL_law 563 = .ok (.ireturn, 1) := by decide +kernel
theorem dL_law_564 : decode cL_law 564 = .ok (.aload_n 1, 1) := by decide +kernel
theorem dL_law_565 : decode cL_law 565 = .ok (.invokevirtual 82, 3) := by decide +kernel
theorem dL_law_568 : decode cL_law 568 = .ok (.aload_n 2, 1) := by decide +kernel
theorem dL_law_569 : decode cL_law 569 = .ok (.invokevirtual 85, 3) := by decide +kernel
theorem dL_law_572 : decode cL_law 572 = .ok (.if_icmp .eq 166, 3) := by decide +kernel
theorem dL_law_575 : decode cL_law 575 = .ok (.iconst 0, 1) := by decide +kernel
theorem dL_law_576 : decode cL_law 576 = .ok (.ireturn, 1) := by decide +kernel
theorem dL_law_577 : decode cL_law 577 = .ok (.aload_n 1, 1) := by decide +kernel
theorem dL_law_578 : decode cL_law 578 = .ok (.aload_n 0, 1) := by decide +kernel
theorem dL_law_579 : decode cL_law 579 = .ok (.iload_n 3, 1) := by decide +kernel
theorem dL_law_580 : decode cL_law 580 = .ok (.iconst 1, 1) := by decide +kernel
theorem dL_law_581 : decode cL_law 581 = .ok (.iadd, 1) := by decide +kernel
theorem dL_law_582 : decode cL_law 582 = .ok (.iaload, 1) := by decide +kernel
theorem dL_law_583 : decode cL_law 583 = .ok (.invokevirtual 86, 3) := by decide +kernel
theorem dL_law_586 : decode cL_law 586 = .ok (.aload_n 2, 1) := by decide +kernel
theorem dL_law_587 : decode cL_law 587 = .ok (.aload_n 0, 1) := by decide +kernel
theorem dL_law_588 : decode cL_law 588 = .ok (.iload_n 3, 1) := by decide +kernel
theorem dL_law_589 : decode cL_law 589 = .ok (.iconst 1, 1) := by decide +kernel
theorem dL_law_590 : decode cL_law 590 = .ok (.iadd, 1) := by decide +kernel
theorem dL_law_591 : decode cL_law 591 = .ok (.iaload, 1) := by decide +kernel
theorem dL_law_592 : decode cL_law 592 = .ok (.invokevirtual 89, 3) := by decide +kernel
theorem dL_law_595 : decode cL_law 595 = .ok (.if_icmp .eq 143, 3) := by decide +kernel
theorem dL_law_598 : decode cL_law 598 = .ok (.iconst 0, 1) := by decide +kernel
theorem dL_law_599 : decode cL_law 599 = .ok (.ireturn, 1) := by decide +kernel
theorem dL_law_600 : decode cL_law 600 = .ok (.aload_n 1, 1) := by decide +kernel
theorem dL_law_601 : decode cL_law 601 = .ok (.aload_n 0, 1) := by decide +kernel
theorem dL_law_602 : decode cL_law 602 = .ok (.iload_n 3, 1) := by decide +kernel
theorem dL_law_603 : decode cL_law 603 = .ok (.iconst 1, 1) := by decide +kernel
theorem dL_law_604 : decode cL_law 604 = .ok (.iadd, 1) := by decide +kernel
theorem dL_law_605 : decode cL_law 605 = .ok (.iaload, 1) := by decide +kernel
theorem dL_law_606 : decode cL_law 606 = .ok (.invokevirtual 90, 3) := by decide +kernel
theorem dL_law_609 : decode cL_law 609 = .ok (.aload_n 2, 1) := by decide +kernel
theorem dL_law_610 : decode cL_law 610 = .ok (.aload_n 0, 1) := by decide +kernel
theorem dL_law_611 : decode cL_law 611 = .ok (.iload_n 3, 1) := by decide +kernel
theorem dL_law_612 : decode cL_law 612 = .ok (.iconst 1, 1) := by decide +kernel
theorem dL_law_613 : decode cL_law 613 = .ok (.iadd, 1) := by decide +kernel
theorem dL_law_614 : decode cL_law 614 = .ok (.iaload, 1) := by decide +kernel
theorem dL_law_615 : decode cL_law 615 = .ok (.invokevirtual 93, 3) := by decide +kernel
theorem dL_law_618 : decode cL_law 618 = .ok (.if_icmp .eq 120, 3) := by decide +kernel
theorem dL_law_621 : decode cL_law 621 = .ok (.iconst 0, 1) := by decide +kernel
theorem dL_law_622 : decode cL_law 622 = .ok (.ireturn, 1) := by decide +kernel
theorem dL_law_623 : decode cL_law 623 = .ok (.aload_n 1, 1) := by decide +kernel
theorem dL_law_624 : decode cL_law 624 = .ok (.aload_n 0, 1) := by decide +kernel
theorem dL_law_625 : decode cL_law 625 = .ok (.iload_n 3, 1) := by decide +kernel
theorem dL_law_626 : decode cL_law 626 = .ok (.iconst 1, 1) := by decide +kernel
theorem dL_law_627 : decode cL_law 627 = .ok (.iadd, 1) := by decide +kernel
theorem dL_law_628 : decode cL_law 628 = .ok (.iaload, 1) := by decide +kernel
theorem dL_law_629 : decode cL_law 629 = .ok (.aload_n 0, 1) := by decide +kernel
theorem dL_law_630 : decode cL_law 630 = .ok (.iload_n 3, 1) := by decide +kernel
theorem dL_law_631 : decode cL_law 631 = .ok (.iconst 2, 1) := by decide +kernel
theorem dL_law_632 : decode cL_law 632 = .ok (.iadd, 1) := by decide +kernel
theorem dL_law_633 : decode cL_law 633 = .ok (.iaload, 1) := by decide +kernel
theorem dL_law_634 : decode cL_law 634 = .ok (.invokevirtual 94, 3) := by decide +kernel
theorem dL_law_637 : decode cL_law 637 = .ok (.aload_n 2, 1) := by decide +kernel
theorem dL_law_638 : decode cL_law 638 = .ok (.aload_n 0, 1) := by decide +kernel
theorem dL_law_639 : decode cL_law 639 = .ok (.iload_n 3, 1) := by decide +kernel
theorem dL_law_640 : decode cL_law 640 = .ok (.iconst 1, 1) := by decide +kernel
theorem dL_law_641 : decode cL_law 641 = .ok (.iadd, 1) := by decide +kernel
theorem dL_law_642 : decode cL_law 642 = .ok (.iaload, 1) := by decide +kernel
theorem dL_law_643 : decode cL_law 643 = .ok (.aload_n 0, 1) := by decide +kernel
theorem dL_law_644 : decode cL_law 644 = .ok (.iload_n 3, 1) := by decide +kernel
theorem dL_law_645 : decode cL_law 645 = .ok (.iconst 2, 1) := by decide +kernel
theorem dL_law_646 : decode cL_law 646 = .ok (.iadd, 1) := by decide +kernel
theorem dL_law_647 : decode cL_law 647 = .ok (.iaload, 1) := by decide +kernel
theorem dL_law_648 : decode cL_law 648 = .ok (.invokevirtual 97, 3) := by decide +kernel
theorem dL_law_651 : decode cL_law 651 = .ok (.if_icmp .eq 87, 3) := by decide +kernel
theorem dL_law_654 : decode cL_law 654 = .ok (.iconst 0, 1) := by decide +kernel
theorem dL_law_655 : decode cL_law 655 = .ok (.ireturn, 1) := by decide +kernel
theorem dL_law_656 : decode cL_law 656 = .ok (.aload_n 1, 1) := by decide +kernel
theorem dL_law_657 : decode cL_law 657 = .ok (.invokevirtual 98, 3) := by decide +kernel
theorem dL_law_660 : decode cL_law 660 = .ok (.aload_n 2, 1) := by decide +kernel
theorem dL_law_661 : decode cL_law 661 = .ok (.invokevirtual 101, 3) := by decide +kernel
theorem dL_law_664 : decode cL_law 664 = .ok (.if_icmp .eq 74, 3) := by decide +kernel
theorem dL_law_667 : decode cL_law 667 = .ok (.iconst 0, 1) := by decide +kernel
theorem dL_law_668 : decode cL_law 668 = .ok (.ireturn, 1) := by decide +kernel
theorem dL_law_669 : decode cL_law 669 = .ok (.aload_n 1, 1) := by decide +kernel
theorem dL_law_670 : decode cL_law 670 = .ok (.aload_n 0, 1) := by decide +kernel
theorem dL_law_671 : decode cL_law 671 = .ok (.iload_n 3, 1) := by decide +kernel
theorem dL_law_672 : decode cL_law 672 = .ok (.iconst 1, 1) := by decide +kernel
theorem dL_law_673 : decode cL_law 673 = .ok (.iadd, 1) := by decide +kernel
theorem dL_law_674 : decode cL_law 674 = .ok (.iaload, 1) := by decide +kernel
theorem dL_law_675 : decode cL_law 675 = .ok (.invokevirtual 102, 3) := by decide +kernel
theorem dL_law_678 : decode cL_law 678 = .ok (.aload_n 2, 1) := by decide +kernel
theorem dL_law_679 : decode cL_law 679 = .ok (.aload_n 0, 1) := by decide +kernel
theorem dL_law_680 : decode cL_law 680 = .ok (.iload_n 3, 1) := by decide +kernel
theorem dL_law_681 : decode cL_law 681 = .ok (.iconst 1, 1) := by decide +kernel
theorem dL_law_682 : decode cL_law 682 = .ok (.iadd, 1) := by decide +kernel
theorem dL_law_683 : decode cL_law 683 = .ok (.iaload, 1) := by decide +kernel
theorem dL_law_684 : decode cL_law 684 = .ok (.invokevirtual 105, 3) := by decide +kernel
theorem dL_law_687 : decode cL_law 687 = .ok (.if_icmp .eq 51, 3) := by decide +kernel
theorem dL_law_690 : decode cL_law 690 = .ok (.iconst 0, 1) := by decide +kernel
theorem dL_law_691 : decode cL_law 691 = .ok (.ireturn, 1) := by decide +kernel
theorem dL_law_692 : decode cL_law 692 = .ok (.aload_n 1, 1) := by decide +kernel
theorem dL_law_693 : decode cL_law 693 = .ok (.aload_n 0, 1) := by decide +kernel
theorem dL_law_694 : decode cL_law 694 = .ok (.iload_n 3, 1) := by decide +kernel
theorem dL_law_695 : decode cL_law 695 = .ok (.iconst 1, 1) := by decide +kernel
theorem dL_law_696 : decode cL_law 696 = .ok (.iadd, 1) := by decide +kernel
theorem dL_law_697 : decode cL_law 697 = .ok (.iaload, 1) := by decide +kernel
theorem dL_law_698 : decode cL_law 698 = .ok (.invokevirtual 106, 3) := by decide +kernel
theorem dL_law_701 : decode cL_law 701 = .ok (.aload_n 2, 1) := by decide +kernel
theorem dL_law_702 : decode cL_law 702 = .ok (.aload_n 0, 1) := by decide +kernel
theorem dL_law_703 : decode cL_law 703 = .ok (.iload_n 3, 1) := by decide +kernel
theorem dL_law_704 : decode cL_law 704 = .ok (.iconst 1, 1) := by decide +kernel
theorem dL_law_705 : decode cL_law 705 = .ok (.iadd, 1) := by decide +kernel
theorem dL_law_706 : decode cL_law 706 = .ok (.iaload, 1) := by decide +kernel
theorem dL_law_707 : decode cL_law 707 = .ok (.invokevirtual 109, 3) := by decide +kernel
theorem dL_law_710 : decode cL_law 710 = .ok (.if_icmp .eq 28, 3) := by decide +kernel
theorem dL_law_713 : decode cL_law 713 = .ok (.iconst 0, 1) := by decide +kernel
theorem dL_law_714 : decode cL_law 714 = .ok (.ireturn, 1) := by decide +kernel
theorem dL_law_715 : decode cL_law 715 = .ok (.aload_n 1, 1) := by decide +kernel
theorem dL_law_716 : decode cL_law 716 = .ok (.aload_n 0, 1) := by decide +kernel
theorem dL_law_717 : decode cL_law 717 = .ok (.iload_n 3, 1) := by decide +kernel
theorem dL_law_718 : decode cL_law 718 = .ok (.iconst 1, 1) := by decide +kernel
theorem dL_law_719 : decode cL_law 719 = .ok (.iadd, 1) := by decide +kernel
theorem dL_law_720 : decode cL_law 720 = .ok (.iaload, 1) := by decide +kernel
theorem dL_law_721 : decode cL_law 721 = .ok (.invokevirtual 110, 3) := by decide +kernel
theorem dL_law_724 : decode cL_law 724 = .ok (.aload_n 2, 1) := by decide +kernel
theorem dL_law_725 : decode cL_law 725 = .ok (.aload_n 0, 1) := by decide +kernel
theorem dL_law_726 : decode cL_law 726 = .ok (.iload_n 3, 1) := by decide +kernel
theorem dL_law_727 : decode cL_law 727 = .ok (.iconst 1, 1) := by decide +kernel
theorem dL_law_728 : decode cL_law 728 = .ok (.iadd, 1) := by decide +kernel
theorem dL_law_729 : decode cL_law 729 = .ok (.iaload, 1) := by decide +kernel
theorem dL_law_730 : decode cL_law 730 = .ok (.invokevirtual 113, 3) := by decide +kernel
theorem dL_law_733 : decode cL_law 733 = .ok (.if_icmp .eq 5, 3) := by decide +kernel
theorem dL_law_736 : decode cL_law 736 = .ok (.iconst 0, 1) := by decide +kernel
theorem dL_law_737 : decode cL_law 737 = .ok (.ireturn, 1) := by decide +kernel
theorem dL_law_738 : decode cL_law 738 = .ok (.iinc 3 4, 3) := by decide +kernel
theorem dL_law_741 : decode cL_law 741 = .ok (.goto (-723), 3) := by decide +kernel
theorem dL_law_744 : decode cL_law 744 = .ok (.iconst 1, 1) := by decide +kernel
theorem dL_law_745 : decode cL_law 745 = .ok (.ireturn, 1) := by decide +kernel
end
section
/-- the store: what int and long places hold, by cell and place; references never change once all is made -/
abbrev zw_S : Type := (Nat → Nat → Int32) × (Nat → Nat → Int64)
/-- the geometry: the classes' numbers and slots, the array classes, the addresses of the cells, the outer arrays (182, 183 the class's tables, 184 the script) -/
abbrev zw_G : Type := va_G × (Nat → ClassId) × (Nat → Nat) × (Nat → Nat × (Nat → Int32))
abbrev zw_M : Type := MethodName × ByteArray × Nat × Option FieldType
def zw_kdT : List Nat := [8, 6, 4, 10, 10, 10, 10, 1, 13, 6, 4, 10, 10, 10, 10, 6, 4, 10, 10, 10, 10, 6, 4, 10, 10, 10, 10, 6, 4, 10, 10, 10, 10, 6, 4, 10, 10, 10, 10, 6, 4, 10, 10, 10, 10, 6, 4, 10, 10, 10, 10, 6, 4, 10, 10, 10, 10, 6, 4, 10, 10, 10, 10, 6, 4, 10, 10, 10, 10, 6, 4, 10, 10, 10, 10, 6, 4, 10, 10, 10, 10, 6, 4, 10, 10, 10, 10, 6, 4, 10, 10, 10, 10, 6, 4, 10, 10, 10, 10, 6, 4, 10, 10, 10, 10, 6, 4, 10, 10, 10, 10, 6, 4, 10, 10, 10, 10, 6, 4, 10, 10, 10, 10, 6, 4, 10, 10, 10, 10, 12, 0, 10, 10, 3, 7, 10, 10, 7, 10, 10, 5, 11, 14, 11, 11, 11, 11, 7, 10, 10, 7, 10, 10, 10, 2, 6, 4, 10, 10, 10, 10, 2, 6, 4, 10, 10, 10, 10, 9, 10, 10, 10, 10, 10, 10, 10, 10, 11, 11, 11, 11, 10]
def zw_lnT : List Nat := [0, 0, 0, 8, 8, 8, 8, 0, 20, 0, 0, 8, 8, 8, 8, 0, 0, 8, 8, 8, 8, 0, 0, 8, 8, 8, 8, 0, 0, 8, 8, 8, 8, 0, 0, 8, 8, 8, 8, 0, 0, 8, 8, 8, 8, 0, 0, 8, 8, 8, 8, 0, 0, 8, 8, 8, 8, 0, 0, 8, 8, 8, 8, 0, 0, 8, 8, 8, 8, 0, 0, 8, 8, 8, 8, 0, 0, 8, 8, 8, 8, 0, 0, 8, 8, 8, 8, 0, 0, 8, 8, 8, 8, 0, 0, 8, 8, 8, 8, 0, 0, 8, 8, 8, 8, 0, 0, 8, 8, 8, 8, 0, 0, 8, 8, 8, 8, 0, 0, 8, 8, 8, 8, 0, 0, 8, 8, 8, 8, 2, 0, 20, 20, 0, 0, 13, 13, 0, 13, 13, 0, 8, 2, 8, 8, 8, 8, 0, 13, 13, 0, 13, 13, 30, 0, 0, 0, 8, 8, 8, 8, 0, 0, 0, 8, 8, 8, 8, 0, 782, 2, 30, 20, 20, 16, 16, 16, 24, 8, 8, 8, 8]
def zw_foT : List (List (Option Nat)) := [[some 1, some 2, none], [some 1, none, none], [some 1, none, none], [some 1, some 4, none, none, none], [some 1, some 2], [some 1, some 2, some 5, some 6], [some 1, some 4, some 5, none], [some 1, some 2, none, none], [some 1, some 7, some 129, some 130, some 133, some 140, some 147, some 150, some 153, none, none, none], [some 1, none, none, none, some 2, some 3, none, none, some 4, some 5, none, some 6, none, none, some 7, none, some 8, some 9, some 10, some 11, some 12, some 13]]
/-- a cell's kind: 0 to 9 an object of vwCl's class, 10 int[], 11 long[], 12 Image[], 13 State[], 14 long[][] -/
def zw_kd (k : Nat) : Nat := zw_kdT.getD k 99
def zw_ln (k : Nat) : Nat := zw_lnT.getD k 0
def zw_fo (k : Nat) : List (Option Nat) := zw_foT.getD (zw_kd k) []
/-- what an array of references holds -/
def zw_er (k j : Nat) : Nat := if k = 8 then 9 + 6 * j else if k = 129 then 154 + 7 * j else 143 + j
def zw_fv (G : zw_G) (σ : zw_S) (k j : Nat) (o : Option Nat) : Value := match o with
  | none => .int (σ.1 k j)
  | some d => .ref (G.2.2.1 (k + d))
def zw_fs (G : zw_G) (σ : zw_S) (k : Nat) : List Value := (zw_fo k).mapIdx (fun j o => zw_fv G σ k j o)
def zw_el (G : zw_G) (k j : Nat) : Option Nat := if j < zw_ln k then some (G.2.2.1 (zw_er k j)) else none
def zw_cell (G : zw_G) (σ : zw_S) (k : Nat) : va_E :=
  if zw_kd k < 10 then .inr (zw_kd k, zw_fs G σ k)
  else if zw_kd k = 10 then .inl (G.2.1 0, zw_ln k, .inl (σ.1 k))
  else if zw_kd k = 11 then .inl (G.2.1 1, zw_ln k, .inr (.inl (σ.2 k)))
  else .inl (G.2.1 (zw_kd k - 10), zw_ln k, .inr (.inr (.inr (.inr (zw_el G k)))))
def zw_ws (G : zw_G) (σ : zw_S) : va_W := (List.range 182).map (fun k => (G.2.2.1 k, zw_cell G σ k))
def zw_A (G : zw_G) : Nat → Prop := fun q => ∃ k, k < 182 ∧ q = G.2.2.1 k
def zw_tys (G : zw_G) : List (ClassId × FieldType) := [(G.2.1 0, .int), (G.2.1 1, .long), (G.2.1 2, .object "GraftRules$Image"), (G.2.1 3, .object "GraftRules$State"), (G.2.1 4, .array .long)]
def zw_pI (σ : zw_S) (o j : Nat) (v : Int32) : zw_S := (fun k => if k = o then upd (σ.1 o) j v else σ.1 k, σ.2)
def zw_pL (σ : zw_S) (o j : Nat) (v : Int64) : zw_S := (σ.1, fun k => if k = o then vp_updL (σ.2 o) j v else σ.2 k)
def zw_pLf (σ : zw_S) (o : Nat) (f : Nat → Int64) : zw_S := (σ.1, fun k => if k = o then f else σ.2 k)
def zw_v (G : zw_G) (v : Value) : Value := match v with
  | .ref k => .ref (G.2.2.1 k)
  | v => v
theorem zw_kd_lt {k : Nat} (h : zw_kd k ≠ 99) : k < 182 := by
  rcases Nat.lt_or_ge k 182 with q | q
  · exact q
  · exact absurd (by unfold zw_kd; rw [List.getD_eq_getElem?_getD, List.getElem?_eq_none (by show 182 ≤ k; exact q)]; rfl) h
theorem zw_ws_get {G : zw_G} {σ : zw_S} {k : Nat} (h : k < 182) : (zw_ws G σ)[k]? = some (G.2.2.1 k, zw_cell G σ k) := by
  unfold zw_ws
  rw [List.getElem?_map, List.getElem?_range h]
  rfl
theorem zw_ws_len {G : zw_G} {σ : zw_S} : (zw_ws G σ).length = 182 := by simp [zw_ws]
theorem zw_ws_set {G : zw_G} {σ σ' : zw_S} {o : Nat} (ho : o < 182) {x : va_E} (hx : x = zw_cell G σ' o) (h : ∀ j, j ≠ o → zw_cell G σ' j = zw_cell G σ j) : (zw_ws G σ).set o (G.2.2.1 o, x) = zw_ws G σ' := by
  subst hx
  apply List.ext_getElem?
  intro i
  rcases Nat.lt_or_ge i 182 with hi | hi
  · rw [zw_ws_get hi]
    by_cases e : i = o
    · subst e
      rw [List.getElem?_set_self (by rw [zw_ws_len]; exact hi)]
    · rw [List.getElem?_set_ne (fun q => e q.symm), zw_ws_get hi, h i e]
  · rw [List.getElem?_eq_none (by rw [List.length_set, zw_ws_len]; exact hi), List.getElem?_eq_none (by rw [zw_ws_len]; exact hi)]
theorem zw_inD {G : zw_G} {σ : zw_S} (hi : ∀ i j, i < 182 → j < 182 → G.2.2.1 i = G.2.2.1 j → i = j) : va_D (zw_A G) (zw_ws G σ) := by
  have key : ∀ (k : Nat) (q : Nat × va_E), (zw_ws G σ)[k]? = some q → k < 182 ∧ q.1 = G.2.2.1 k := by
    intro k q h
    have hk : k < 182 := by
      have := (List.getElem?_eq_some_iff.mp h).1
      rwa [zw_ws_len] at this
    rw [zw_ws_get hk] at h
    cases h
    exact ⟨hk, rfl⟩
  refine ⟨fun i j p q h1 h2 e => ?_, fun k q h => ?_⟩
  · obtain ⟨a1, a2⟩ := key i p h1
    obtain ⟨b1, b2⟩ := key j q h2
    exact hi i j a1 b1 (by rw [← a2, ← b2]; exact e)
  · obtain ⟨a1, a2⟩ := key k q h
    exact ⟨k, a1, a2⟩
theorem zw_cell_o {G : zw_G} {σ : zw_S} {k ci : Nat} (h : zw_kd k = ci) (hc : ci < 10) : zw_cell G σ k = .inr (ci, zw_fs G σ k) := by
  unfold zw_cell
  rw [h, if_pos hc]
theorem zw_cell_i {G : zw_G} {σ : zw_S} {k : Nat} (h : zw_kd k = 10) : zw_cell G σ k = .inl (G.2.1 0, zw_ln k, .inl (σ.1 k)) := by
  unfold zw_cell
  rw [h]
  rfl
theorem zw_cell_l {G : zw_G} {σ : zw_S} {k : Nat} (h : zw_kd k = 11) : zw_cell G σ k = .inl (G.2.1 1, zw_ln k, .inr (.inl (σ.2 k))) := by
  unfold zw_cell
  rw [h]
  rfl
theorem zw_cell_q {G : zw_G} {σ : zw_S} {k c : Nat} (h : zw_kd k = 12 + c) : zw_cell G σ k = .inl (G.2.1 (2 + c), zw_ln k, .inr (.inr (.inr (.inr (zw_el G k))))) := by
  unfold zw_cell
  rw [h, if_neg (by omega), if_neg (by omega), if_neg (by omega), show 12 + c - 10 = 2 + c by omega]
theorem zw_cell_cong {G : zw_G} {σ σ' : zw_S} {k : Nat} (h1 : σ'.1 k = σ.1 k) (h2 : σ'.2 k = σ.2 k) : zw_cell G σ' k = zw_cell G σ k := by
  have : zw_fs G σ' k = zw_fs G σ k := by
    unfold zw_fs
    congr 1
    funext j o
    cases o with
    | none => show Value.int (σ'.1 k j) = Value.int (σ.1 k j); rw [h1]
    | some d => rfl
  unfold zw_cell
  rw [h1, h2, this]
theorem zw_fs_get {G : zw_G} {σ : zw_S} {k j : Nat} {o : Option Nat} (h : (zw_fo k)[j]? = some o) : (zw_fs G σ k)[j]? = some (zw_fv G σ k j o) := by
  unfold zw_fs
  rw [List.getElem?_mapIdx, h]
  rfl
theorem zw_ws_pI {G : zw_G} {σ : zw_S} {o ci j : Nat} {v : Int32} (h : zw_kd o = ci) (hc : ci < 10) (hj : (zw_fo o)[j]? = some none) : (zw_ws G σ).set o (G.2.2.1 o, .inr (ci, (zw_fs G σ o).set j (.int v))) = zw_ws G (zw_pI σ o j v) := by
  have ho : o < 182 := zw_kd_lt (by rw [h]; omega)
  refine zw_ws_set ho ?_ (fun k hk => zw_cell_cong (by simp [zw_pI, hk]) rfl)
  rw [zw_cell_o h hc]
  congr 2
  apply List.ext_getElem?
  intro i
  have hlen : j < (zw_fs G σ o).length := by
    have := (List.getElem?_eq_some_iff.mp (zw_fs_get (G := G) (σ := σ) hj)).1
    exact this
  by_cases e : i = j
  · subst e
    rw [List.getElem?_set_self hlen, zw_fs_get hj]
    simp [zw_fv, zw_pI, upd]
  · rw [List.getElem?_set_ne (fun q => e q.symm)]
    unfold zw_fs
    rw [List.getElem?_mapIdx, List.getElem?_mapIdx]
    cases (zw_fo o)[i]? with
    | none => rfl
    | some x =>
      cases x with
      | none => simp [zw_fv, zw_pI, upd, e]
      | some d => rfl
theorem zw_ws_ai {G : zw_G} {σ : zw_S} {o i : Nat} {v : Int32} (h : zw_kd o = 10) : (zw_ws G σ).set o (G.2.2.1 o, .inl (G.2.1 0, zw_ln o, .inl (upd (σ.1 o) i v))) = zw_ws G (zw_pI σ o i v) := by
  have ho : o < 182 := zw_kd_lt (by rw [h]; omega)
  refine zw_ws_set ho ?_ (fun k hk => zw_cell_cong (by simp [zw_pI, hk]) rfl)
  rw [zw_cell_i h]
  simp [zw_pI]
theorem zw_ws_al {G : zw_G} {σ : zw_S} {o i : Nat} {v : Int64} (h : zw_kd o = 11) : (zw_ws G σ).set o (G.2.2.1 o, .inl (G.2.1 1, zw_ln o, .inr (.inl (vp_updL (σ.2 o) i v)))) = zw_ws G (zw_pL σ o i v) := by
  have ho : o < 182 := zw_kd_lt (by rw [h]; omega)
  refine zw_ws_set ho ?_ (fun k hk => zw_cell_cong rfl (by simp [zw_pL, hk]))
  rw [zw_cell_l h]
  simp [zw_pL]
theorem zw_ws_alf {G : zw_G} {σ : zw_S} {o : Nat} {f : Nat → Int64} (h : zw_kd o = 11) : (zw_ws G σ).set o (G.2.2.1 o, .inl (G.2.1 1, zw_ln o, .inr (.inl f))) = zw_ws G (zw_pLf σ o f) := by
  have ho : o < 182 := zw_kd_lt (by rw [h]; omega)
  refine zw_ws_set ho ?_ (fun k hk => zw_cell_cong rfl (by simp [zw_pLf, hk]))
  rw [zw_cell_l h]
  simp [zw_pLf]
end
section
/-- the words of the tables that a callee may use too -/
def zw_tb : List Cond := lw_tbl.filter goodWord
theorem zw_tb_of {w : Cond} (h : w ∈ lw_tbl) (g : goodWord w = true) : w ∈ zw_tb := List.mem_filter.mpr ⟨h, g⟩
/-- what a method knows of the machine besides the store -/
def zw_K (G : zw_G) (s : State) (H : Heap) : Prop :=
  va_K G.1 vwCl (zw_tys G) s ∧ (∀ i j, i < 182 → j < 182 → G.2.2.1 i = G.2.2.1 j → i = j) ∧
  va_Z "GraftRules" "SECOND_WEIGHT" "[I" (.ref (G.2.2.1 182)) (zw_A G) s H ∧ va_Z "GraftRules" "THIRD_WEIGHT" "[I" (.ref (G.2.2.1 183)) (zw_A G) s H ∧
  (∀ k, (k = 182 ∨ k = 183 ∨ k = 184) → va_T .int (G.2.2.1 k) (G.2.2.2 k).1 (fun j => .int ((G.2.2.2 k).2 j)) (zw_A G) s H) ∧
  ∀ (a : String) (i : Nat) (b n d h : String), Cond.fieldLinkNest a i b n d h ∈ lw_tbl → va_Nw (.fieldLinkNest a i b n d h) s
theorem zw_K.go {G : zw_G} {s U : State} {H H1 : Heap} (h : zw_K G s H) (hvm : s.vm.Alike U.vm) (hn : ∀ (a : String) (i : Nat) (b n d h : String), va_Nw (.fieldLinkNest a i b n d h) s → va_Nw (.fieldLinkNest a i b n d h) U) (hq : ∀ a : Nat, a < H.size → ¬ zw_A G a → H1[a]? = H[a]?) : zw_K G U H1 :=
  ⟨va_K.moved hvm h.1, h.2.1, (h.2.2.1.moved hvm).kept hq, (h.2.2.2.1.moved hvm).kept hq, fun k hk => ((h.2.2.2.2.1 k hk).moved hvm).kept hq, fun a i b n d k hk => hn a i b n d k (h.2.2.2.2.2 a i b n d k hk)⟩
def zw_as (G : zw_G) : Nat → List (Option Value) → List (Nat × Value)
  | _, [] => []
  | i, none :: t => zw_as G (i + 1) t
  | i, some v :: t => (i, zw_v G v) :: zw_as G (i + 1) t
theorem zw_as_mem {G : zw_G} : ∀ {L : List (Option Value)} {i k : Nat} {w : Value}, (k, w) ∈ zw_as G i L ↔ ∃ j v, k = i + j ∧ L[j]? = some (some v) ∧ w = zw_v G v
  | [], i, k, w => by simp [zw_as]
  | none :: t, i, k, w => by
    rw [zw_as, zw_as_mem]
    constructor
    · rintro ⟨j, v, e, h, hw⟩
      exact ⟨j + 1, v, by omega, by simpa using h, hw⟩
    · rintro ⟨j, v, e, h, hw⟩
      cases j with
      | zero => simp at h
      | succ j => exact ⟨j, v, by omega, by simpa using h, hw⟩
  | some u :: t, i, k, w => by
    rw [zw_as, List.mem_cons, zw_as_mem]
    constructor
    · rintro (h | ⟨j, v, e, h, hw⟩)
      · cases h
        exact ⟨0, u, by omega, rfl, rfl⟩
      · exact ⟨j + 1, v, by omega, by simpa using h, hw⟩
    · rintro ⟨j, v, e, h, hw⟩
      cases j with
      | zero =>
        simp at h
        subst h
        left
        rw [hw, show k = i by omega]
      | succ j => exact Or.inr ⟨j, v, by omega, by simpa using h, hw⟩
def zw_L (G : zw_G) (nL : Nat) (L : List (Option Value)) (ls : Array Slot) : Prop := lv_has ls nL (zw_as G 0 L)
theorem zw_L.at {G : zw_G} {nL : Nat} {L : List (Option Value)} {ls : Array Slot} (h : zw_L G nL L ls) {k : Nat} {v : Value} (hk : L[k]? = some (some v)) : ls[k]? = some (.val (zw_v G v)) :=
  h.2.2 (k, zw_v G v) (zw_as_mem.mpr ⟨k, v, by omega, hk, rfl⟩)
theorem zw_cat (G : zw_G) (v : Value) : (zw_v G v).category = v.category := by cases v <;> rfl
theorem zw_L.set1 {G : zw_G} {nL i : Nat} {L : List (Option Value)} {ls : Array Slot} {x : Value} (h : lv_has ls nL ((i, zw_v G x) :: (zw_as G 0 L).filter (fun q => !(q.1 == i) && !(q.1 + 1 == i && q.2.category == 2)))) (hc : ∀ j v, j + 1 = i → L[j]? = some (some v) → ¬ v.category = 2) : zw_L G nL (L.set i (some x)) ls := by
  refine ⟨h.1, h.2.1, fun q hq => ?_⟩
  obtain ⟨k, w⟩ := q
  obtain ⟨j, v, e, hj, hw⟩ := zw_as_mem.mp hq
  have ek : k = j := by omega
  subst ek
  apply h.2.2
  by_cases hi : k = i
  · subst hi
    have : v = x := by
      rw [List.getElem?_set] at hj
      simp at hj
      exact hj.2.symm
    rw [hw, this]
    exact List.mem_cons_self
  · rw [List.getElem?_set_ne (fun q => hi q.symm)] at hj
    refine List.mem_cons_of_mem _ (List.mem_filter.mpr ⟨zw_as_mem.mpr ⟨k, v, by omega, hj, hw⟩, ?_⟩)
    by_cases h2 : k + 1 = i
    · have h3 := hc k v h2 hj
      have h4 : ¬ w.category = 2 := by rw [hw, zw_cat]; exact h3
      simp [hi, h4]
    · simp [hi, h2]
theorem zw_L.set2 {G : zw_G} {nL i : Nat} {L : List (Option Value)} {ls : Array Slot} {x : Value} (h : lv_has ls nL ((i, zw_v G x) :: (zw_as G 0 L).filter (fun q => !(q.1 == i) && (!(q.1 == i + 1) && !(q.1 + 1 == i && q.2.category == 2))))) (hc : ∀ j v, j + 1 = i → L[j]? = some (some v) → ¬ v.category = 2) : zw_L G nL ((L.set i (some x)).set (i + 1) none) ls := by
  refine ⟨h.1, h.2.1, fun q hq => ?_⟩
  obtain ⟨k, w⟩ := q
  obtain ⟨j, v, e, hj, hw⟩ := zw_as_mem.mp hq
  have ek : k = j := by omega
  subst ek
  apply h.2.2
  by_cases hi1 : k = i + 1
  · subst hi1
    rw [List.getElem?_set] at hj
    simp at hj
  · rw [List.getElem?_set_ne (fun q => hi1 q.symm)] at hj
    by_cases hi : k = i
    · subst hi
      have : v = x := by
        rw [List.getElem?_set] at hj
        simp at hj
        exact hj.2.symm
      rw [hw, this]
      exact List.mem_cons_self
    · rw [List.getElem?_set_ne (fun q => hi q.symm)] at hj
      refine List.mem_cons_of_mem _ (List.mem_filter.mpr ⟨zw_as_mem.mpr ⟨k, v, by omega, hj, hw⟩, ?_⟩)
      by_cases h2 : k + 1 = i
      · have h3 := hc k v h2 hj
        have h4 : ¬ w.category = 2 := by rw [hw, zw_cat]; exact h3
        simp [hi, hi1, h4]
      · simp [hi, hi1, h2]
/-- where a method's body stands: the machine, the words, the room for d calls more -/
def zw_C (G : zw_G) (d : Nat) (M : zw_M) (p : Program) (R : Room) (s : State) (m : MethodId) (args : Array Value) (meth : Method) (c : Code) (cells slots : Nat) : Prop :=
  p.tables.exec = Jvm.exec ∧ c.code = M.2.1 ∧ c.maxLocals = M.2.2.1 ∧ meth.sig.returnType = M.2.2.2 ∧ meth.locks = false ∧ s.vm.findClass M.1.cls = some m.cls ∧ (∀ w ∈ zw_tb, w.before args s = true) ∧ zw_K G s s.heap ∧ d ≤ R.frames ∧ 36 * d ≤ R.locals ∧ cells ≤ R.cells ∧ slots ≤ R.slots
/-- at pc a return instruction that fits the answer -/
def zw_rd (M : zw_M) (pc : Nat) (r : Option Value) : Prop :=
  (r = none ∧ M.2.2.2 = none ∧ decode M.2.1 pc = .ok (.return_, 1)) ∨
  (∃ v ty, r = some (.int v) ∧ M.2.2.2 = some ty ∧ narrow ty (.int v) = .int v ∧ decode M.2.1 pc = .ok (.ireturn, 1)) ∨
  (∃ v, r = some (.long v) ∧ M.2.2.2 = some .long ∧ decode M.2.1 pc = .ok (.lreturn, 1)) ∨
  (∃ v n, r = some v ∧ (v = .null ∨ ∃ a, v = .ref a) ∧ M.2.2.2 = some (.object n) ∧ decode M.2.1 pc = .ok (.areturn, 1))
/-- from pc, with locals L, operand stack st and store σ, the method comes to its end with an answer and a store of which P holds -/
def zw_W (l : Launch) (G : zw_G) (d : Nat) (M : zw_M) (pc : Nat) (L : List (Option Value)) (st : List Value) (σ : zw_S) (P : Option Value → zw_S → Prop) : Prop :=
  ∀ (p : Program) (e : Env) (R : Room) (s : State) (m : MethodId) (args : Array Value) (below : List Frame) (meth : Method) (c : Code) (H : Heap) (locs : List Loc) (cells slots : Nat) (Q : State → Prop) (ls : Array Slot),
    zw_C G d M p R s m args meth c cells slots → va_P G.1 vwCl (zw_ws G σ) H → va_S (zw_A G) s.heap H locs → zw_L G M.2.2.1 L ls →
    (∀ (r : Option Value) (σ' : zw_S) (H' : Heap) (locs' : List Loc) (pc' : Nat) (ls' : Array Slot), P r σ' → va_P G.1 vwCl (zw_ws G σ') H' → va_S (zw_A G) s.heap H' locs' → zw_rd M pc' r → W p l e R s m args below meth c H' locs' cells slots Q (F0 m pc' ls' (r.toList.map (zw_v G)))) →
    W p l e R s m args below meth c H locs cells slots Q (F0 m pc ls (st.map (zw_v G)))
def zw_rm (d : Nat) : Room := { frames := d, cells := 0, slots := 0, locals := 36 * d }
def zw_wds (M : zw_M) : List Cond := Cond.code M.1 M.2.1 M.2.2.1 M.2.2.2 :: zw_tb
def zw_Q (G : zw_G) (P : Option Value → zw_S → Prop) : Array Value → State → Outcome → State → Prop := fun _ st oc t =>
  (∃ (r : Option Value) (σ' : zw_S), oc = .returned (r.map (zw_v G)) ∧ P r σ' ∧ va_P G.1 vwCl (zw_ws G σ') t.heap) ∧ va_F (zw_A G) st t
/-- a method's contract: called with these arguments in store σ it ends with P -/
def zw_T (l : Launch) (G : zw_G) (d : Nat) (M : zw_M) (as : List Value) (σ : zw_S) (P : Option Value → zw_S → Prop) : Prop :=
  Met l M.1 (zw_wds M) (zw_rm d) (va_Pc (as.map (zw_v G)) (fun U => va_P G.1 vwCl (zw_ws G σ) U.heap ∧ zw_K G U U.heap)) (zw_Q G P) 0 0 (zw_A G)
def zw_eL : List Value → List (Option Value)
  | [] => []
  | v :: vs => if v.category = 2 then some v :: none :: zw_eL vs else some v :: zw_eL vs
theorem zw_eL_args (G : zw_G) : ∀ (as : List Value) (i k : Nat) (v : Value), (zw_eL as)[k]? = some (some v) → (i + k, zw_v G v) ∈ lv_args i (as.map (zw_v G))
  | [], i, k, v, h => by simp [zw_eL] at h
  | a :: t, i, k, v, h => by
    rw [List.map_cons, lv_args, zw_cat]
    rw [zw_eL] at h
    by_cases c : a.category = 2
    · rw [if_pos c] at h
      rw [if_pos c]
      match k, h with
      | 0, h => simp at h; subst h; exact List.mem_cons_self
      | 1, h => simp at h
      | k + 2, h =>
        simp at h
        have := zw_eL_args G t (i + 2) k v h
        rw [show i + 2 + k = i + (k + 2) by omega] at this
        exact List.mem_cons_of_mem _ this
    · rw [if_neg c] at h
      rw [if_neg c]
      match k, h with
      | 0, h => simp at h; subst h; exact List.mem_cons_self
      | k + 1, h =>
        simp at h
        have := zw_eL_args G t (i + 1) k v h
        rw [show i + 1 + k = i + (k + 1) by omega] at this
        exact List.mem_cons_of_mem _ this
theorem zw_eL_len (G : zw_G) : ∀ (as : List Value), (lg_sl (as.map (zw_v G))).length = (zw_eL as).length
  | [] => rfl
  | a :: t => by
    have ih := zw_eL_len G t
    unfold lg_sl at ih ⊢
    rw [List.map_cons, List.flatMap_cons, List.length_append, ih, zw_eL, zw_cat]
    by_cases c : a.category = 2
    · rw [if_pos c, if_pos c]; simp; omega
    · rw [if_neg c, if_neg c]; simp; omega
/-- a contract out of a walk of the body -/
theorem zw_enter {l : Launch} {G : zw_G} {d : Nat} {M : zw_M} {as : List Value} {σ : zw_S} {P : Option Value → zw_S → Prop} {L : List (Option Value)} (hy : plainName M.1.cls = true) (hl : ((zw_eL as).length ≤ M.2.2.1)) (hL : ∀ (k : Nat) (v : Value), L[k]? = some (some v) → (zw_eL as)[k]? = some (some v)) (k : zw_W l G d M 0 L [] σ P) : zw_T l G d M as σ P := by
  refine Met.ofW (cc := M.2.1) (maxL := M.2.2.1) (ret := M.2.2.2) hy rfl ?_
  intro p e s m args below meth c s₁ B hml hv
  obtain ⟨rfl, hP, hK⟩ := hv
  have hts := atoms_spec (ws := zw_wds M) B.pre
  have hlocks := B.notSynchronized
  have hls := lv_entry (as.map (zw_v G)) (n := M.2.2.1) (by rw [zw_eL_len]; exact hl)
  rw [lg_entry_eq]
  generalize (lg_sl (as.map (zw_v G)) ++ List.replicate (M.2.2.1 - (lg_sl (as.map (zw_v G))).length) Slot.unset).toArray = ls at hls ⊢
  have hL2 : zw_L G M.2.2.1 L ls := by
    refine ⟨hls.1, hls.2.1, fun q hq => ?_⟩
    obtain ⟨j, w⟩ := q
    obtain ⟨i, v, e1, e2, e3⟩ := zw_as_mem.mp hq
    have := zw_eL_args G as 0 i v (hL i v e2)
    have h2 := hls.2.2 _ this
    rw [e3, e1]
    exact h2
  refine k p e _ s m _ below meth c s.heap [] 0 0 _ ls ⟨B.exec, B.bytes, hml, B.returns, hlocks, findClass_of_methodNamed B.named, fun w hw => hts w (List.mem_cons_of_mem _ hw), hK, Nat.le_refl _, Nat.le_refl _, Nat.zero_le _, Nat.zero_le _⟩ hP va_S.rf hL2 ?_
  intro r σ' H' locs' pc' ls' hPr hP' hS' hrd
  have hq : ∀ t : State, t.heap = H' → s.WarmedH t.vm → zw_Q G P (as.map (zw_v G)).toArray s (.returned (r.map (zw_v G))) t := fun t ht hW => ⟨⟨r, σ', rfl, hPr, by rw [ht]; exact hP'⟩, hS'.F ht⟩
  rcases hrd with ⟨rfl, hr, hd⟩ | ⟨v, ty, rfl, hr, hn, hd⟩ | ⟨v, rfl, hr, hd⟩ | ⟨v, n, rfl, hv, hr, hd⟩
  · exact W.vret B.exec B.bytes (B.returns.trans hr) hq hS'.2.2 hd
  · exact W.zret B.exec B.bytes (B.returns.trans hr) hn hq hS'.2.2 hd
  · exact W.lret B.exec B.bytes (B.returns.trans hr) hq hS'.2.2 hd
  · refine W.aret B.exec B.bytes (B.returns.trans hr) (Or.inl ⟨n, rfl⟩) ?_ hq hS'.2.2 hd
    rcases hv with rfl | ⟨a, rfl⟩
    · exact Or.inl rfl
    · exact Or.inr ⟨_, rfl⟩
end
section
section ZI
variable {l : Launch} {G : zw_G} {d : Nat} {M : zw_M} {pc : Nat} {L : List (Option Value)} {st : List Value} {σ : zw_S} {P : Option Value → zw_S → Prop}
theorem zi_lift {pc' : Nat} {st' : List Value} (h : ∀ (p : Program) (e : Env) (R : Room) (s : State) (m : MethodId) (args : Array Value) (below : List Frame) (meth : Method) (c : Code) (H : Heap) (locs : List Loc) (cells slots : Nat) (Q : State → Prop) (ls : Array Slot), p.tables.exec = Jvm.exec → c.code = M.2.1 → W p l e R s m args below meth c H locs cells slots Q (F0 m pc' ls (st'.map (zw_v G))) → W p l e R s m args below meth c H locs cells slots Q (F0 m pc ls (st.map (zw_v G)))) (k : zw_W l G d M pc' L st' σ P) : zw_W l G d M pc L st σ P :=
  fun p e R s m args below meth c H locs cells slots Q ls hC hP hS hL hR => h p e R s m args below meth c H locs cells slots Q ls hC.1 hC.2.1 (k p e R s m args below meth c H locs cells slots Q ls hC hP hS hL hR)
theorem zi_iadd {x y : Int32} (hd : decode M.2.1 pc = .ok (.iadd, 1)) (k : zw_W l G d M (pc + 1) L (.int (x + y) :: st) σ P) : zw_W l G d M pc L (.int y :: .int x :: st) σ P := zi_lift (fun _ _ _ _ _ _ _ _ _ _ _ _ _ _ _ hx hb => lv_iadd hx hb hd) k
theorem zi_isub {x y : Int32} (hd : decode M.2.1 pc = .ok (.isub, 1)) (k : zw_W l G d M (pc + 1) L (.int (x - y) :: st) σ P) : zw_W l G d M pc L (.int y :: .int x :: st) σ P := zi_lift (fun _ _ _ _ _ _ _ _ _ _ _ _ _ _ _ hx hb => lv_isub hx hb hd) k
theorem zi_imul {x y : Int32} (hd : decode M.2.1 pc = .ok (.imul, 1)) (k : zw_W l G d M (pc + 1) L (.int (x * y) :: st) σ P) : zw_W l G d M pc L (.int y :: .int x :: st) σ P := zi_lift (fun _ _ _ _ _ _ _ _ _ _ _ _ _ _ _ hx hb => lv_imul hx hb hd) k
theorem zi_iand {x y : Int32} (hd : decode M.2.1 pc = .ok (.iand, 1)) (k : zw_W l G d M (pc + 1) L (.int (x &&& y) :: st) σ P) : zw_W l G d M pc L (.int y :: .int x :: st) σ P := zi_lift (fun _ _ _ _ _ _ _ _ _ _ _ _ _ _ _ hx hb => lv_iand hx hb hd) k
theorem zi_ior {x y : Int32} (hd : decode M.2.1 pc = .ok (.ior, 1)) (k : zw_W l G d M (pc + 1) L (.int (x ||| y) :: st) σ P) : zw_W l G d M pc L (.int y :: .int x :: st) σ P := zi_lift (fun _ _ _ _ _ _ _ _ _ _ _ _ _ _ _ hx hb => lv_ior hx hb hd) k
theorem zi_ladd {x y : Int64} (hd : decode M.2.1 pc = .ok (.ladd, 1)) (k : zw_W l G d M (pc + 1) L (.long (x + y) :: st) σ P) : zw_W l G d M pc L (.long y :: .long x :: st) σ P := zi_lift (fun _ _ _ _ _ _ _ _ _ _ _ _ _ _ _ hx hb => lv_ladd hx hb hd) k
theorem zi_lmul {x y : Int64} (hd : decode M.2.1 pc = .ok (.lmul, 1)) (k : zw_W l G d M (pc + 1) L (.long (x * y) :: st) σ P) : zw_W l G d M pc L (.long y :: .long x :: st) σ P := zi_lift (fun _ _ _ _ _ _ _ _ _ _ _ _ _ _ _ hx hb => lv_lmul hx hb hd) k
theorem zi_land {x y : Int64} (hd : decode M.2.1 pc = .ok (.land, 1)) (k : zw_W l G d M (pc + 1) L (.long (x &&& y) :: st) σ P) : zw_W l G d M pc L (.long y :: .long x :: st) σ P := zi_lift (fun _ _ _ _ _ _ _ _ _ _ _ _ _ _ _ hx hb => lv_land hx hb hd) k
theorem zi_idiv {x y : Int32} (hd : decode M.2.1 pc = .ok (.idiv, 1)) (hne : ¬ y = 0) (k : zw_W l G d M (pc + 1) L (.int (x / y) :: st) σ P) : zw_W l G d M pc L (.int y :: .int x :: st) σ P := zi_lift (fun _ _ _ _ _ _ _ _ _ _ _ _ _ _ _ hx hb => lv_idiv hx hb hd hne) k
theorem zi_irem {x y : Int32} (hd : decode M.2.1 pc = .ok (.irem, 1)) (hne : ¬ y = 0) (k : zw_W l G d M (pc + 1) L (.int (x - x / y * y) :: st) σ P) : zw_W l G d M pc L (.int y :: .int x :: st) σ P := zi_lift (fun _ _ _ _ _ _ _ _ _ _ _ _ _ _ _ hx hb => lv_irem hx hb hd hne) k
theorem zi_lrem {x y : Int64} (hd : decode M.2.1 pc = .ok (.lrem, 1)) (hne : ¬ y = 0) (k : zw_W l G d M (pc + 1) L (.long (x - x / y * y) :: st) σ P) : zw_W l G d M pc L (.long y :: .long x :: st) σ P := zi_lift (fun _ _ _ _ _ _ _ _ _ _ _ _ _ _ _ hx hb => lv_lrem hx hb hd hne) k
theorem zi_ineg {x : Int32} (hd : decode M.2.1 pc = .ok (.ineg, 1)) (k : zw_W l G d M (pc + 1) L (.int (-x) :: st) σ P) : zw_W l G d M pc L (.int x :: st) σ P := zi_lift (fun _ _ _ _ _ _ _ _ _ _ _ _ _ _ _ hx hb => lv_ineg hx hb hd) k
theorem zi_lneg {x : Int64} (hd : decode M.2.1 pc = .ok (.lneg, 1)) (k : zw_W l G d M (pc + 1) L (.long (-x) :: st) σ P) : zw_W l G d M pc L (.long x :: st) σ P := zi_lift (fun _ _ _ _ _ _ _ _ _ _ _ _ _ _ _ hx hb => lv_lneg hx hb hd) k
theorem zi_ishl {x y : Int32} (hd : decode M.2.1 pc = .ok (.ishl, 1)) (k : zw_W l G d M (pc + 1) L (.int (x <<< (y &&& 31)) :: st) σ P) : zw_W l G d M pc L (.int y :: .int x :: st) σ P := zi_lift (fun _ _ _ _ _ _ _ _ _ _ _ _ _ _ _ hx hb => lv_ishl hx hb hd) k
theorem zi_ishr {x y : Int32} (hd : decode M.2.1 pc = .ok (.ishr, 1)) (k : zw_W l G d M (pc + 1) L (.int (x >>> (y &&& 31)) :: st) σ P) : zw_W l G d M pc L (.int y :: .int x :: st) σ P := zi_lift (fun _ _ _ _ _ _ _ _ _ _ _ _ _ _ _ hx hb => lv_ishr hx hb hd) k
theorem zi_i2l {x : Int32} (hd : decode M.2.1 pc = .ok (.i2l, 1)) (k : zw_W l G d M (pc + 1) L (.long x.toInt64 :: st) σ P) : zw_W l G d M pc L (.int x :: st) σ P := zi_lift (fun _ _ _ _ _ _ _ _ _ _ _ _ _ _ _ hx hb => lv_i2l hx hb hd rfl) k
theorem zi_l2i {x : Int64} (hd : decode M.2.1 pc = .ok (.l2i, 1)) (k : zw_W l G d M (pc + 1) L (.int x.toInt32 :: st) σ P) : zw_W l G d M pc L (.long x :: st) σ P := zi_lift (fun _ _ _ _ _ _ _ _ _ _ _ _ _ _ _ hx hb => lv_l2i hx hb hd rfl) k
theorem zi_lcmp {x y : Int64} (hd : decode M.2.1 pc = .ok (.lcmp, 1)) (k : zw_W l G d M (pc + 1) L (.int (lg_cmp x y) :: st) σ P) : zw_W l G d M pc L (.long y :: .long x :: st) σ P := zi_lift (fun _ _ _ _ _ _ _ _ _ _ _ _ _ _ _ hx hb => W.lcmp hx hb hd) k
theorem zi_null (hd : decode M.2.1 pc = .ok (.aconst_null, 1)) (k : zw_W l G d M (pc + 1) L (.null :: st) σ P) : zw_W l G d M pc L (st) σ P := zi_lift (fun _ _ _ _ _ _ _ _ _ _ _ _ _ _ _ hx hb => lv_null hx hb hd) k
theorem zi_dupi {x : Int32} (hd : decode M.2.1 pc = .ok (.dup, 1)) (k : zw_W l G d M (pc + 1) L (.int x :: .int x :: st) σ P) : zw_W l G d M pc L (.int x :: st) σ P := zi_lift (fun _ _ _ _ _ _ _ _ _ _ _ _ _ _ _ hx hb => lv_dup hx hb hd rfl) k
theorem zi_dupr {x : Nat} (hd : decode M.2.1 pc = .ok (.dup, 1)) (k : zw_W l G d M (pc + 1) L (.ref x :: .ref x :: st) σ P) : zw_W l G d M pc L (.ref x :: st) σ P := zi_lift (fun _ _ _ _ _ _ _ _ _ _ _ _ _ _ _ hx hb => lv_dup hx hb hd rfl) k
theorem zi_popi {x : Int32} (hd : decode M.2.1 pc = .ok (.pop, 1)) (k : zw_W l G d M (pc + 1) L (st) σ P) : zw_W l G d M pc L (.int x :: st) σ P := zi_lift (fun _ _ _ _ _ _ _ _ _ _ _ _ _ _ _ hx hb => lv_pop hx hb hd rfl) k
theorem zi_popr {x : Nat} (hd : decode M.2.1 pc = .ok (.pop, 1)) (k : zw_W l G d M (pc + 1) L (st) σ P) : zw_W l G d M pc L (.ref x :: st) σ P := zi_lift (fun _ _ _ _ _ _ _ _ _ _ _ _ _ _ _ hx hb => lv_pop hx hb hd rfl) k
theorem zi_dup2ri {x : Nat} {y : Int32} (hd : decode M.2.1 pc = .ok (.dup2, 1)) (k : zw_W l G d M (pc + 1) L (.int y :: .ref x :: .int y :: .ref x :: st) σ P) : zw_W l G d M pc L (.int y :: .ref x :: st) σ P := zi_lift (fun _ _ _ _ _ _ _ _ _ _ _ _ _ _ _ hx hb => lv_dup2_11 hx hb hd rfl rfl) k
theorem zi_iconst {n : Int} (v : Int32) (hd : decode M.2.1 pc = .ok (.iconst n, 1)) (hv : Int32.ofInt n = v) (k : zw_W l G d M (pc + 1) L (.int v :: st) σ P) : zw_W l G d M pc L (st) σ P := zi_lift (fun _ _ _ _ _ _ _ _ _ _ _ _ _ _ _ hx hb => lv_iconst hx hb hd hv) k
theorem zi_bipush {n : Int} (v : Int32) (hd : decode M.2.1 pc = .ok (.bipush n, 2)) (hv : (Int8.ofInt n).toInt32 = v) (k : zw_W l G d M (pc + 2) L (.int v :: st) σ P) : zw_W l G d M pc L (st) σ P := zi_lift (fun _ _ _ _ _ _ _ _ _ _ _ _ _ _ _ hx hb => lv_bipush hx hb hd hv) k
theorem zi_sipush {n : Int} (v : Int32) (hd : decode M.2.1 pc = .ok (.sipush n, 3)) (hv : (Int16.ofInt n).toInt32 = v) (k : zw_W l G d M (pc + 3) L (.int v :: st) σ P) : zw_W l G d M pc L (st) σ P := zi_lift (fun _ _ _ _ _ _ _ _ _ _ _ _ _ _ _ hx hb => lv_sipush hx hb hd hv) k
theorem zi_lconst {n : Fin 2} (v : Int64) (hd : decode M.2.1 pc = .ok (.lconst n, 1)) (hv : Int64.ofNat (n : Nat) = v) (k : zw_W l G d M (pc + 1) L (.long v :: st) σ P) : zw_W l G d M pc L (st) σ P := zi_lift (fun _ _ _ _ _ _ _ _ _ _ _ _ _ _ _ hx hb => lv_lconst hx hb hd hv) k
theorem zi_goto {off : Int} (tgt : Nat) (hd : decode M.2.1 pc = .ok (.goto off, 3)) (ht : (pc : Int) + off = (tgt : Int)) (k : zw_W l G d M tgt L st σ P) : zw_W l G d M pc L st σ P := zi_lift (fun _ _ _ _ _ _ _ _ _ _ _ _ _ _ _ hx hb => lv_goto hx hb hd ht) k
theorem zi_icmp_eq {x y : Int32} {off : Int} (tgt : Nat) (hd : decode M.2.1 pc = .ok (.if_icmp .eq off, 3)) (ht : (pc : Int) + off = (tgt : Int)) (kt : x = y → zw_W l G d M tgt L st σ P) (kf : ¬ x = y → zw_W l G d M (pc + 3) L st σ P) : zw_W l G d M pc L (.int y :: .int x :: st) σ P :=
  fun p e R s m args below meth c H locs cells slots Q ls hC hP hS hL hR => lv_icmp_eq hC.1 hC.2.1 hd ht (fun h => kt h p e R s m args below meth c H locs cells slots Q ls hC hP hS hL hR) (fun h => kf h p e R s m args below meth c H locs cells slots Q ls hC hP hS hL hR)
theorem zi_if_eq {x : Int32} {off : Int} (tgt : Nat) (hd : decode M.2.1 pc = .ok (.ifCond .eq off, 3)) (ht : (pc : Int) + off = (tgt : Int)) (kt : x = 0 → zw_W l G d M tgt L st σ P) (kf : ¬ x = 0 → zw_W l G d M (pc + 3) L st σ P) : zw_W l G d M pc L (.int x :: st) σ P :=
  fun p e R s m args below meth c H locs cells slots Q ls hC hP hS hL hR => lv_if_eq hC.1 hC.2.1 hd ht (fun h => kt h p e R s m args below meth c H locs cells slots Q ls hC hP hS hL hR) (fun h => kf h p e R s m args below meth c H locs cells slots Q ls hC hP hS hL hR)
theorem zi_icmp_ne {x y : Int32} {off : Int} (tgt : Nat) (hd : decode M.2.1 pc = .ok (.if_icmp .ne off, 3)) (ht : (pc : Int) + off = (tgt : Int)) (kt : ¬ x = y → zw_W l G d M tgt L st σ P) (kf : x = y → zw_W l G d M (pc + 3) L st σ P) : zw_W l G d M pc L (.int y :: .int x :: st) σ P :=
  fun p e R s m args below meth c H locs cells slots Q ls hC hP hS hL hR => lv_icmp_ne hC.1 hC.2.1 hd ht (fun h => kt h p e R s m args below meth c H locs cells slots Q ls hC hP hS hL hR) (fun h => kf h p e R s m args below meth c H locs cells slots Q ls hC hP hS hL hR)
theorem zi_if_ne {x : Int32} {off : Int} (tgt : Nat) (hd : decode M.2.1 pc = .ok (.ifCond .ne off, 3)) (ht : (pc : Int) + off = (tgt : Int)) (kt : ¬ x = 0 → zw_W l G d M tgt L st σ P) (kf : x = 0 → zw_W l G d M (pc + 3) L st σ P) : zw_W l G d M pc L (.int x :: st) σ P :=
  fun p e R s m args below meth c H locs cells slots Q ls hC hP hS hL hR => lv_if_ne hC.1 hC.2.1 hd ht (fun h => kt h p e R s m args below meth c H locs cells slots Q ls hC hP hS hL hR) (fun h => kf h p e R s m args below meth c H locs cells slots Q ls hC hP hS hL hR)
theorem zi_icmp_lt {x y : Int32} {off : Int} (tgt : Nat) (hd : decode M.2.1 pc = .ok (.if_icmp .lt off, 3)) (ht : (pc : Int) + off = (tgt : Int)) (kt : x < y → zw_W l G d M tgt L st σ P) (kf : ¬ x < y → zw_W l G d M (pc + 3) L st σ P) : zw_W l G d M pc L (.int y :: .int x :: st) σ P :=
  fun p e R s m args below meth c H locs cells slots Q ls hC hP hS hL hR => lv_icmp_lt hC.1 hC.2.1 hd ht (fun h => kt h p e R s m args below meth c H locs cells slots Q ls hC hP hS hL hR) (fun h => kf h p e R s m args below meth c H locs cells slots Q ls hC hP hS hL hR)
theorem zi_if_lt {x : Int32} {off : Int} (tgt : Nat) (hd : decode M.2.1 pc = .ok (.ifCond .lt off, 3)) (ht : (pc : Int) + off = (tgt : Int)) (kt : x < 0 → zw_W l G d M tgt L st σ P) (kf : ¬ x < 0 → zw_W l G d M (pc + 3) L st σ P) : zw_W l G d M pc L (.int x :: st) σ P :=
  fun p e R s m args below meth c H locs cells slots Q ls hC hP hS hL hR => lv_if_lt hC.1 hC.2.1 hd ht (fun h => kt h p e R s m args below meth c H locs cells slots Q ls hC hP hS hL hR) (fun h => kf h p e R s m args below meth c H locs cells slots Q ls hC hP hS hL hR)
theorem zi_icmp_ge {x y : Int32} {off : Int} (tgt : Nat) (hd : decode M.2.1 pc = .ok (.if_icmp .ge off, 3)) (ht : (pc : Int) + off = (tgt : Int)) (kt : y ≤ x → zw_W l G d M tgt L st σ P) (kf : ¬ y ≤ x → zw_W l G d M (pc + 3) L st σ P) : zw_W l G d M pc L (.int y :: .int x :: st) σ P :=
  fun p e R s m args below meth c H locs cells slots Q ls hC hP hS hL hR => lv_icmp_ge hC.1 hC.2.1 hd ht (fun h => kt h p e R s m args below meth c H locs cells slots Q ls hC hP hS hL hR) (fun h => kf h p e R s m args below meth c H locs cells slots Q ls hC hP hS hL hR)
theorem zi_if_ge {x : Int32} {off : Int} (tgt : Nat) (hd : decode M.2.1 pc = .ok (.ifCond .ge off, 3)) (ht : (pc : Int) + off = (tgt : Int)) (kt : 0 ≤ x → zw_W l G d M tgt L st σ P) (kf : ¬ 0 ≤ x → zw_W l G d M (pc + 3) L st σ P) : zw_W l G d M pc L (.int x :: st) σ P :=
  fun p e R s m args below meth c H locs cells slots Q ls hC hP hS hL hR => lv_if_ge hC.1 hC.2.1 hd ht (fun h => kt h p e R s m args below meth c H locs cells slots Q ls hC hP hS hL hR) (fun h => kf h p e R s m args below meth c H locs cells slots Q ls hC hP hS hL hR)
theorem zi_icmp_gt {x y : Int32} {off : Int} (tgt : Nat) (hd : decode M.2.1 pc = .ok (.if_icmp .gt off, 3)) (ht : (pc : Int) + off = (tgt : Int)) (kt : y < x → zw_W l G d M tgt L st σ P) (kf : ¬ y < x → zw_W l G d M (pc + 3) L st σ P) : zw_W l G d M pc L (.int y :: .int x :: st) σ P :=
  fun p e R s m args below meth c H locs cells slots Q ls hC hP hS hL hR => lv_icmp_gt hC.1 hC.2.1 hd ht (fun h => kt h p e R s m args below meth c H locs cells slots Q ls hC hP hS hL hR) (fun h => kf h p e R s m args below meth c H locs cells slots Q ls hC hP hS hL hR)
theorem zi_if_gt {x : Int32} {off : Int} (tgt : Nat) (hd : decode M.2.1 pc = .ok (.ifCond .gt off, 3)) (ht : (pc : Int) + off = (tgt : Int)) (kt : 0 < x → zw_W l G d M tgt L st σ P) (kf : ¬ 0 < x → zw_W l G d M (pc + 3) L st σ P) : zw_W l G d M pc L (.int x :: st) σ P :=
  fun p e R s m args below meth c H locs cells slots Q ls hC hP hS hL hR => lv_if_gt hC.1 hC.2.1 hd ht (fun h => kt h p e R s m args below meth c H locs cells slots Q ls hC hP hS hL hR) (fun h => kf h p e R s m args below meth c H locs cells slots Q ls hC hP hS hL hR)
theorem zi_icmp_le {x y : Int32} {off : Int} (tgt : Nat) (hd : decode M.2.1 pc = .ok (.if_icmp .le off, 3)) (ht : (pc : Int) + off = (tgt : Int)) (kt : x ≤ y → zw_W l G d M tgt L st σ P) (kf : ¬ x ≤ y → zw_W l G d M (pc + 3) L st σ P) : zw_W l G d M pc L (.int y :: .int x :: st) σ P :=
  fun p e R s m args below meth c H locs cells slots Q ls hC hP hS hL hR => lv_icmp_le hC.1 hC.2.1 hd ht (fun h => kt h p e R s m args below meth c H locs cells slots Q ls hC hP hS hL hR) (fun h => kf h p e R s m args below meth c H locs cells slots Q ls hC hP hS hL hR)
theorem zi_if_le {x : Int32} {off : Int} (tgt : Nat) (hd : decode M.2.1 pc = .ok (.ifCond .le off, 3)) (ht : (pc : Int) + off = (tgt : Int)) (kt : x ≤ 0 → zw_W l G d M tgt L st σ P) (kf : ¬ x ≤ 0 → zw_W l G d M (pc + 3) L st σ P) : zw_W l G d M pc L (.int x :: st) σ P :=
  fun p e R s m args below meth c H locs cells slots Q ls hC hP hS hL hR => lv_if_le hC.1 hC.2.1 hd ht (fun h => kt h p e R s m args below meth c H locs cells slots Q ls hC hP hS hL hR) (fun h => kf h p e R s m args below meth c H locs cells slots Q ls hC hP hS hL hR)
theorem zi_nonnull {x : Nat} {off : Int} (tgt : Nat) (hd : decode M.2.1 pc = .ok (.ifnonnull off, 3)) (ht : (pc : Int) + off = (tgt : Int)) (k : zw_W l G d M tgt L st σ P) : zw_W l G d M pc L (.ref x :: st) σ P := zi_lift (fun _ _ _ _ _ _ _ _ _ _ _ _ _ _ _ hx hb => lv_ifnonnull hx hb hd ht) k
theorem zi_nonnullN {off : Int} (hd : decode M.2.1 pc = .ok (.ifnonnull off, 3)) (k : zw_W l G d M (pc + 3) L st σ P) : zw_W l G d M pc L (.null :: st) σ P := zi_lift (fun _ _ _ _ _ _ _ _ _ _ _ _ _ _ _ hx hb => lv_ifnonnullN hx hb hd) k
theorem zi_ifnull {x : Nat} {off : Int} (hd : decode M.2.1 pc = .ok (.ifnull off, 3)) (k : zw_W l G d M (pc + 3) L st σ P) : zw_W l G d M pc L (.ref x :: st) σ P := zi_lift (fun _ _ _ _ _ _ _ _ _ _ _ _ _ _ _ hx hb => lv_ifnull hx hb hd) k
theorem zi_ifnullN {off : Int} (tgt : Nat) (hd : decode M.2.1 pc = .ok (.ifnull off, 3)) (ht : (pc : Int) + off = (tgt : Int)) (k : zw_W l G d M tgt L st σ P) : zw_W l G d M pc L (.null :: st) σ P := zi_lift (fun _ _ _ _ _ _ _ _ _ _ _ _ _ _ _ hx hb => lv_ifnullN hx hb hd ht) k
theorem zi_lookup {x : Int32} {dflt : Int} {ps : Array (Int × Int)} {len : Nat} {off : Int} (tgt : Nat) (hd : decode M.2.1 pc = .ok (.lookupswitch dflt ps, len)) (hp : (ps.toList.zip (ps.toList.drop 1)).all (fun (a, next) => a.1 < next.1) = true) (ho : Op.lookupswitch.offset ps.toList dflt x.toInt = off) (ht : (pc : Int) + off = (tgt : Int)) (k : zw_W l G d M tgt L st σ P) : zw_W l G d M pc L (.int x :: st) σ P := zi_lift (fun _ _ _ _ _ _ _ _ _ _ _ _ _ _ _ hx hb => lv_lookup hx hb hd hp ho ht) k
theorem zi_tableOut {x : Int32} {dflt lo hi : Int} {offs : Array Int} {len : Nat} (tgt : Nat) (hd : decode M.2.1 pc = .ok (.tableswitch dflt lo hi offs, len)) (h : x.toInt < lo ∨ hi < x.toInt) (ht : (pc : Int) + dflt = (tgt : Int)) (k : zw_W l G d M tgt L st σ P) : zw_W l G d M pc L (.int x :: st) σ P := zi_lift (fun _ _ _ _ _ _ _ _ _ _ _ _ _ _ _ hx hb => lv_tableOut hx hb hd h ht) k
theorem zi_tableIn {x : Int32} {dflt lo hi : Int} {offs : Array Int} {len : Nat} {off : Int} (tgt : Nat) (hd : decode M.2.1 pc = .ok (.tableswitch dflt lo hi offs, len)) (h1 : ¬ x.toInt < lo) (h2 : ¬ hi < x.toInt) (ho : offs[(x.toInt - lo).toNat]? = some off) (ht : (pc : Int) + off = (tgt : Int)) (k : zw_W l G d M tgt L st σ P) : zw_W l G d M pc L (.int x :: st) σ P := zi_lift (fun _ _ _ _ _ _ _ _ _ _ _ _ _ _ _ hx hb => lv_tableIn hx hb hd h1 h2 ho ht) k
theorem zi_ldc {idx : Nat} {v : Int32} (hd : decode M.2.1 pc = .ok (.ldc idx, 2)) (hw : Cond.constant M.1.cls idx v ∈ zw_tb) (k : zw_W l G d M (pc + 2) L (.int v :: st) σ P) : zw_W l G d M pc L st σ P :=
  fun p e R s m args below meth c H locs cells slots Q ls hC hP hS hL hR => lv_ldc hC.1 hC.2.1 hC.2.2.2.2.2.1 (hC.2.2.2.2.2.2.1 _ hw) hd (k p e R s m args below meth c H locs cells slots Q ls hC hP hS hL hR)
theorem zi_ldc2 {idx : Nat} {v : Int64} (hd : decode M.2.1 pc = .ok (.ldc2_w idx, 3)) (hw : Cond.constantLong M.1.cls idx v ∈ zw_tb) (k : zw_W l G d M (pc + 3) L (.long v :: st) σ P) : zw_W l G d M pc L st σ P :=
  fun p e R s m args below meth c H locs cells slots Q ls hC hP hS hL hR => lv_ldc2 hC.1 hC.2.1 hC.2.2.2.2.2.1 (hC.2.2.2.2.2.2.1 _ hw) hd (k p e R s m args below meth c H locs cells slots Q ls hC hP hS hL hR)
theorem zi_iload_n {x : Int32} {k : Fin 4} (hd : decode M.2.1 pc = .ok (.iload_n k, 1)) (hl : L[(k : Nat)]? = some (some (.int x))) (kk : zw_W l G d M (pc + 1) L (.int x :: st) σ P) : zw_W l G d M pc L st σ P :=
  fun p e R s m args below meth c H locs cells slots Q ls hC hP hS hL hR => lv_iload_n hC.1 hC.2.1 hd rfl (hL.at hl) (kk p e R s m args below meth c H locs cells slots Q ls hC hP hS hL hR)
theorem zi_iload {x : Int32} {i : Nat} (hd : decode M.2.1 pc = .ok (.iload i, 2)) (hl : L[i]? = some (some (.int x))) (kk : zw_W l G d M (pc + 2) L (.int x :: st) σ P) : zw_W l G d M pc L st σ P :=
  fun p e R s m args below meth c H locs cells slots Q ls hC hP hS hL hR => lv_iload hC.1 hC.2.1 hd (hL.at hl) (kk p e R s m args below meth c H locs cells slots Q ls hC hP hS hL hR)
theorem zi_lload_n {x : Int64} {k : Fin 4} (hd : decode M.2.1 pc = .ok (.lload_n k, 1)) (hl : L[(k : Nat)]? = some (some (.long x))) (kk : zw_W l G d M (pc + 1) L (.long x :: st) σ P) : zw_W l G d M pc L st σ P :=
  fun p e R s m args below meth c H locs cells slots Q ls hC hP hS hL hR => lv_lload_n hC.1 hC.2.1 hd rfl (hL.at hl) (kk p e R s m args below meth c H locs cells slots Q ls hC hP hS hL hR)
theorem zi_lload {x : Int64} {i : Nat} (hd : decode M.2.1 pc = .ok (.lload i, 2)) (hl : L[i]? = some (some (.long x))) (kk : zw_W l G d M (pc + 2) L (.long x :: st) σ P) : zw_W l G d M pc L st σ P :=
  fun p e R s m args below meth c H locs cells slots Q ls hC hP hS hL hR => lv_lload hC.1 hC.2.1 hd (hL.at hl) (kk p e R s m args below meth c H locs cells slots Q ls hC hP hS hL hR)
theorem zi_aload_n {x : Nat} {k : Fin 4} (hd : decode M.2.1 pc = .ok (.aload_n k, 1)) (hl : L[(k : Nat)]? = some (some (.ref x))) (kk : zw_W l G d M (pc + 1) L (.ref x :: st) σ P) : zw_W l G d M pc L st σ P :=
  fun p e R s m args below meth c H locs cells slots Q ls hC hP hS hL hR => lv_aload_n hC.1 hC.2.1 hd rfl (hL.at hl) (kk p e R s m args below meth c H locs cells slots Q ls hC hP hS hL hR)
theorem zi_aload {x : Nat} {i : Nat} (hd : decode M.2.1 pc = .ok (.aload i, 2)) (hl : L[i]? = some (some (.ref x))) (kk : zw_W l G d M (pc + 2) L (.ref x :: st) σ P) : zw_W l G d M pc L st σ P :=
  fun p e R s m args below meth c H locs cells slots Q ls hC hP hS hL hR => lv_aload hC.1 hC.2.1 hd (hL.at hl) (kk p e R s m args below meth c H locs cells slots Q ls hC hP hS hL hR)
/-- no long stands there -/
def zw_n2 (o : Option Value) : Bool := match o with
  | some v => !(v.category == 2)
  | none => true
theorem zw_n2_of {o : Option Value} (h : zw_n2 o = true) (v : Value) (e : o = some v) : ¬ v.category = 2 := by
  subst e
  simpa [zw_n2] using h
theorem zw_hc {L : List (Option Value)} {i : Nat} {o : Option Value} (ho : L[i]? = some o) (h2 : zw_n2 o = true) : ∀ (j : Nat) (v : Value), j + 1 = i + 1 → L[j]? = some (some v) → ¬ v.category = 2 := by
  intro j v e h
  obtain rfl : j = i := by omega
  rw [ho] at h
  exact zw_n2_of h2 v (Option.some.inj h)
theorem zi_istore_n {x : Int32} {k : Fin 4} (hd : decode M.2.1 pc = .ok (.istore_n k, 1)) (hn : (k : Nat) < M.2.2.1) (hc : ∀ (j : Nat) (v : Value), j + 1 = (k : Nat) → L[j]? = some (some v) → ¬ v.category = 2) (kk : zw_W l G d M (pc + 1) (L.set (k : Nat) (some (.int x))) st σ P) : zw_W l G d M pc L (.int x :: st) σ P :=
  fun p e R s m args below meth c H locs cells slots Q ls hC hP hS hL hR => lv_istore_n hC.1 hC.2.1 hd rfl hL hn rfl (fun ls' hL' => kk p e R s m args below meth c H locs cells slots Q ls' hC hP hS (zw_L.set1 (x := .int x) hL' hc) hR)
theorem zi_istore {x : Int32} {i : Nat} (hd : decode M.2.1 pc = .ok (.istore i, 2)) (hn : i < M.2.2.1) (hc : ∀ (j : Nat) (v : Value), j + 1 = i → L[j]? = some (some v) → ¬ v.category = 2) (kk : zw_W l G d M (pc + 2) (L.set i (some (.int x))) st σ P) : zw_W l G d M pc L (.int x :: st) σ P :=
  fun p e R s m args below meth c H locs cells slots Q ls hC hP hS hL hR => lv_istore hC.1 hC.2.1 hd hL hn rfl (fun ls' hL' => kk p e R s m args below meth c H locs cells slots Q ls' hC hP hS (zw_L.set1 (x := .int x) hL' hc) hR)
theorem zi_lstore_n {x : Int64} {k : Fin 4} (hd : decode M.2.1 pc = .ok (.lstore_n k, 1)) (hn : (k : Nat) + 1 < M.2.2.1) (hc : ∀ (j : Nat) (v : Value), j + 1 = (k : Nat) → L[j]? = some (some v) → ¬ v.category = 2) (kk : zw_W l G d M (pc + 1) ((L.set (k : Nat) (some (.long x))).set ((k : Nat) + 1) none) st σ P) : zw_W l G d M pc L (.long x :: st) σ P :=
  fun p e R s m args below meth c H locs cells slots Q ls hC hP hS hL hR => lv_lstore_n hC.1 hC.2.1 hd rfl hL hn rfl (fun ls' hL' => kk p e R s m args below meth c H locs cells slots Q ls' hC hP hS (zw_L.set2 (x := .long x) hL' hc) hR)
theorem zi_lstore {x : Int64} {i : Nat} (hd : decode M.2.1 pc = .ok (.lstore i, 2)) (hn : i + 1 < M.2.2.1) (hc : ∀ (j : Nat) (v : Value), j + 1 = i → L[j]? = some (some v) → ¬ v.category = 2) (kk : zw_W l G d M (pc + 2) ((L.set i (some (.long x))).set (i + 1) none) st σ P) : zw_W l G d M pc L (.long x :: st) σ P :=
  fun p e R s m args below meth c H locs cells slots Q ls hC hP hS hL hR => lv_lstore hC.1 hC.2.1 hd hL hn rfl (fun ls' hL' => kk p e R s m args below meth c H locs cells slots Q ls' hC hP hS (zw_L.set2 (x := .long x) hL' hc) hR)
theorem zi_astore_n {x : Nat} {k : Fin 4} (hd : decode M.2.1 pc = .ok (.astore_n k, 1)) (hn : (k : Nat) < M.2.2.1) (hc : ∀ (j : Nat) (v : Value), j + 1 = (k : Nat) → L[j]? = some (some v) → ¬ v.category = 2) (kk : zw_W l G d M (pc + 1) (L.set (k : Nat) (some (.ref x))) st σ P) : zw_W l G d M pc L (.ref x :: st) σ P :=
  fun p e R s m args below meth c H locs cells slots Q ls hC hP hS hL hR => lv_astore_n hC.1 hC.2.1 hd rfl hL hn rfl (fun ls' hL' => kk p e R s m args below meth c H locs cells slots Q ls' hC hP hS (zw_L.set1 (x := .ref x) hL' hc) hR)
theorem zi_astore {x : Nat} {i : Nat} (hd : decode M.2.1 pc = .ok (.astore i, 2)) (hn : i < M.2.2.1) (hc : ∀ (j : Nat) (v : Value), j + 1 = i → L[j]? = some (some v) → ¬ v.category = 2) (kk : zw_W l G d M (pc + 2) (L.set i (some (.ref x))) st σ P) : zw_W l G d M pc L (.ref x :: st) σ P :=
  fun p e R s m args below meth c H locs cells slots Q ls hC hP hS hL hR => lv_astore hC.1 hC.2.1 hd hL hn rfl (fun ls' hL' => kk p e R s m args below meth c H locs cells slots Q ls' hC hP hS (zw_L.set1 (x := .ref x) hL' hc) hR)
theorem zi_astore_nN {k : Fin 4} (hd : decode M.2.1 pc = .ok (.astore_n k, 1)) (hn : (k : Nat) < M.2.2.1) (hc : ∀ (j : Nat) (v : Value), j + 1 = (k : Nat) → L[j]? = some (some v) → ¬ v.category = 2) (kk : zw_W l G d M (pc + 1) (L.set (k : Nat) (some .null)) st σ P) : zw_W l G d M pc L (.null :: st) σ P :=
  fun p e R s m args below meth c H locs cells slots Q ls hC hP hS hL hR => lv_astore_nN hC.1 hC.2.1 hd rfl hL hn rfl (fun ls' hL' => kk p e R s m args below meth c H locs cells slots Q ls' hC hP hS (zw_L.set1 (x := .null) hL' hc) hR)
theorem zi_aload_nN {k : Fin 4} (hd : decode M.2.1 pc = .ok (.aload_n k, 1)) (hl : L[(k : Nat)]? = some (some .null)) (kk : zw_W l G d M (pc + 1) L (.null :: st) σ P) : zw_W l G d M pc L st σ P :=
  fun p e R s m args below meth c H locs cells slots Q ls hC hP hS hL hR => lv_aload_nN hC.1 hC.2.1 hd rfl (hL.at hl) (kk p e R s m args below meth c H locs cells slots Q ls hC hP hS hL hR)
theorem zi_iinc {x : Int32} {i : Nat} {n : Int} (v : Int32) (hd : decode M.2.1 pc = .ok (.iinc i n, 3)) (hl : L[i]? = some (some (.int x))) (hv : Int32.ofInt n = v) (hn : i < M.2.2.1) (hc : ∀ (j : Nat) (v : Value), j + 1 = i → L[j]? = some (some v) → ¬ v.category = 2) (kk : zw_W l G d M (pc + 3) (L.set i (some (.int (x + v)))) st σ P) : zw_W l G d M pc L st σ P :=
  fun p e R s m args below meth c H locs cells slots Q ls hC hP hS hL hR => by
    obtain ⟨k, hk⟩ := List.getElem?_of_mem (zw_as_mem.mpr ⟨i, .int x, (Nat.zero_add i).symm, hl, rfl⟩ : (i, zw_v G (.int x)) ∈ zw_as G 0 L)
    exact lv_iinc (v := x + v) hC.1 hC.2.1 hd hL hk (by rw [hv]) hn rfl (fun ls' hL' => kk p e R s m args below meth c H locs cells slots Q ls' hC hP hS (zw_L.set1 (x := .int (x + v)) hL' hc) hR)
theorem zi_ild0 {x : Int32} {r : List (Option Value)} (hd : decode M.2.1 pc = .ok (.iload_n 0, 1)) (k : zw_W l G d M (pc + 1) (some (.int x) :: r) (.int x :: st) σ P) : zw_W l G d M pc (some (.int x) :: r) st σ P := zi_iload_n (k := 0) hd rfl k
theorem zi_ist0 {x : Int32} {y : Option Value} {r : List (Option Value)} (hd : decode M.2.1 pc = .ok (.istore_n 0, 1)) (hn : 0 < M.2.2.1) (k : zw_W l G d M (pc + 1) (some (.int x) :: r) st σ P) : zw_W l G d M pc (y :: r) (.int x :: st) σ P := zi_istore_n (k := 0) hd hn (fun j v e => by omega) k
theorem zi_lld0 {x : Int64} {r : List (Option Value)} (hd : decode M.2.1 pc = .ok (.lload_n 0, 1)) (k : zw_W l G d M (pc + 1) (some (.long x) :: r) (.long x :: st) σ P) : zw_W l G d M pc (some (.long x) :: r) st σ P := zi_lload_n (k := 0) hd rfl k
theorem zi_lst0 {x : Int64} {y y2 : Option Value} {r : List (Option Value)} (hd : decode M.2.1 pc = .ok (.lstore_n 0, 1)) (hn : 0 + 1 < M.2.2.1) (k : zw_W l G d M (pc + 1) (some (.long x) :: none :: r) st σ P) : zw_W l G d M pc (y :: y2 :: r) (.long x :: st) σ P := zi_lstore_n (k := 0) hd hn (fun j v e => by omega) k
theorem zi_ald0 {x : Nat} {r : List (Option Value)} (hd : decode M.2.1 pc = .ok (.aload_n 0, 1)) (k : zw_W l G d M (pc + 1) (some (.ref x) :: r) (.ref x :: st) σ P) : zw_W l G d M pc (some (.ref x) :: r) st σ P := zi_aload_n (k := 0) hd rfl k
theorem zi_ast0 {x : Nat} {y : Option Value} {r : List (Option Value)} (hd : decode M.2.1 pc = .ok (.astore_n 0, 1)) (hn : 0 < M.2.2.1) (k : zw_W l G d M (pc + 1) (some (.ref x) :: r) st σ P) : zw_W l G d M pc (y :: r) (.ref x :: st) σ P := zi_astore_n (k := 0) hd hn (fun j v e => by omega) k
theorem zi_inc0 {x : Int32} {n : Int} {r : List (Option Value)} (v : Int32) (hd : decode M.2.1 pc = .ok (.iinc 0 n, 3)) (hv : Int32.ofInt n = v) (hn : 0 < M.2.2.1) (k : zw_W l G d M (pc + 3) (some (.int (x + v)) :: r) st σ P) : zw_W l G d M pc (some (.int x) :: r) st σ P := zi_iinc v hd rfl hv hn (fun j v e => by omega) k
theorem zi_ild1 {a0 : Option Value} {x : Int32} {r : List (Option Value)} (hd : decode M.2.1 pc = .ok (.iload_n 1, 1)) (k : zw_W l G d M (pc + 1) (a0 :: some (.int x) :: r) (.int x :: st) σ P) : zw_W l G d M pc (a0 :: some (.int x) :: r) st σ P := zi_iload_n (k := 1) hd rfl k
theorem zi_ist1 {a0 : Option Value} {x : Int32} {y : Option Value} {r : List (Option Value)} (hd : decode M.2.1 pc = .ok (.istore_n 1, 1)) (hn : 1 < M.2.2.1) (h2 : zw_n2 a0 = true) (k : zw_W l G d M (pc + 1) (a0 :: some (.int x) :: r) st σ P) : zw_W l G d M pc (a0 :: y :: r) (.int x :: st) σ P := zi_istore_n (k := 1) hd hn (zw_hc (i := 0) rfl h2) k
theorem zi_lld1 {a0 : Option Value} {x : Int64} {r : List (Option Value)} (hd : decode M.2.1 pc = .ok (.lload_n 1, 1)) (k : zw_W l G d M (pc + 1) (a0 :: some (.long x) :: r) (.long x :: st) σ P) : zw_W l G d M pc (a0 :: some (.long x) :: r) st σ P := zi_lload_n (k := 1) hd rfl k
theorem zi_lst1 {a0 : Option Value} {x : Int64} {y y2 : Option Value} {r : List (Option Value)} (hd : decode M.2.1 pc = .ok (.lstore_n 1, 1)) (hn : 1 + 1 < M.2.2.1) (h2 : zw_n2 a0 = true) (k : zw_W l G d M (pc + 1) (a0 :: some (.long x) :: none :: r) st σ P) : zw_W l G d M pc (a0 :: y :: y2 :: r) (.long x :: st) σ P := zi_lstore_n (k := 1) hd hn (zw_hc (i := 0) rfl h2) k
theorem zi_ald1 {a0 : Option Value} {x : Nat} {r : List (Option Value)} (hd : decode M.2.1 pc = .ok (.aload_n 1, 1)) (k : zw_W l G d M (pc + 1) (a0 :: some (.ref x) :: r) (.ref x :: st) σ P) : zw_W l G d M pc (a0 :: some (.ref x) :: r) st σ P := zi_aload_n (k := 1) hd rfl k
theorem zi_ast1 {a0 : Option Value} {x : Nat} {y : Option Value} {r : List (Option Value)} (hd : decode M.2.1 pc = .ok (.astore_n 1, 1)) (hn : 1 < M.2.2.1) (h2 : zw_n2 a0 = true) (k : zw_W l G d M (pc + 1) (a0 :: some (.ref x) :: r) st σ P) : zw_W l G d M pc (a0 :: y :: r) (.ref x :: st) σ P := zi_astore_n (k := 1) hd hn (zw_hc (i := 0) rfl h2) k
theorem zi_inc1 {a0 : Option Value} {x : Int32} {n : Int} {r : List (Option Value)} (v : Int32) (hd : decode M.2.1 pc = .ok (.iinc 1 n, 3)) (hv : Int32.ofInt n = v) (hn : 1 < M.2.2.1) (h2 : zw_n2 a0 = true) (k : zw_W l G d M (pc + 3) (a0 :: some (.int (x + v)) :: r) st σ P) : zw_W l G d M pc (a0 :: some (.int x) :: r) st σ P := zi_iinc v hd rfl hv hn (zw_hc (i := 0) rfl h2) k
theorem zi_ild2 {a0 a1 : Option Value} {x : Int32} {r : List (Option Value)} (hd : decode M.2.1 pc = .ok (.iload_n 2, 1)) (k : zw_W l G d M (pc + 1) (a0 :: a1 :: some (.int x) :: r) (.int x :: st) σ P) : zw_W l G d M pc (a0 :: a1 :: some (.int x) :: r) st σ P := zi_iload_n (k := 2) hd rfl k
theorem zi_ist2 {a0 a1 : Option Value} {x : Int32} {y : Option Value} {r : List (Option Value)} (hd : decode M.2.1 pc = .ok (.istore_n 2, 1)) (hn : 2 < M.2.2.1) (h2 : zw_n2 a1 = true) (k : zw_W l G d M (pc + 1) (a0 :: a1 :: some (.int x) :: r) st σ P) : zw_W l G d M pc (a0 :: a1 :: y :: r) (.int x :: st) σ P := zi_istore_n (k := 2) hd hn (zw_hc (i := 1) rfl h2) k
theorem zi_lld2 {a0 a1 : Option Value} {x : Int64} {r : List (Option Value)} (hd : decode M.2.1 pc = .ok (.lload_n 2, 1)) (k : zw_W l G d M (pc + 1) (a0 :: a1 :: some (.long x) :: r) (.long x :: st) σ P) : zw_W l G d M pc (a0 :: a1 :: some (.long x) :: r) st σ P := zi_lload_n (k := 2) hd rfl k
theorem zi_lst2 {a0 a1 : Option Value} {x : Int64} {y y2 : Option Value} {r : List (Option Value)} (hd : decode M.2.1 pc = .ok (.lstore_n 2, 1)) (hn : 2 + 1 < M.2.2.1) (h2 : zw_n2 a1 = true) (k : zw_W l G d M (pc + 1) (a0 :: a1 :: some (.long x) :: none :: r) st σ P) : zw_W l G d M pc (a0 :: a1 :: y :: y2 :: r) (.long x :: st) σ P := zi_lstore_n (k := 2) hd hn (zw_hc (i := 1) rfl h2) k
theorem zi_ald2 {a0 a1 : Option Value} {x : Nat} {r : List (Option Value)} (hd : decode M.2.1 pc = .ok (.aload_n 2, 1)) (k : zw_W l G d M (pc + 1) (a0 :: a1 :: some (.ref x) :: r) (.ref x :: st) σ P) : zw_W l G d M pc (a0 :: a1 :: some (.ref x) :: r) st σ P := zi_aload_n (k := 2) hd rfl k
theorem zi_ast2 {a0 a1 : Option Value} {x : Nat} {y : Option Value} {r : List (Option Value)} (hd : decode M.2.1 pc = .ok (.astore_n 2, 1)) (hn : 2 < M.2.2.1) (h2 : zw_n2 a1 = true) (k : zw_W l G d M (pc + 1) (a0 :: a1 :: some (.ref x) :: r) st σ P) : zw_W l G d M pc (a0 :: a1 :: y :: r) (.ref x :: st) σ P := zi_astore_n (k := 2) hd hn (zw_hc (i := 1) rfl h2) k
theorem zi_inc2 {a0 a1 : Option Value} {x : Int32} {n : Int} {r : List (Option Value)} (v : Int32) (hd : decode M.2.1 pc = .ok (.iinc 2 n, 3)) (hv : Int32.ofInt n = v) (hn : 2 < M.2.2.1) (h2 : zw_n2 a1 = true) (k : zw_W l G d M (pc + 3) (a0 :: a1 :: some (.int (x + v)) :: r) st σ P) : zw_W l G d M pc (a0 :: a1 :: some (.int x) :: r) st σ P := zi_iinc v hd rfl hv hn (zw_hc (i := 1) rfl h2) k
theorem zi_ild3 {a0 a1 a2 : Option Value} {x : Int32} {r : List (Option Value)} (hd : decode M.2.1 pc = .ok (.iload_n 3, 1)) (k : zw_W l G d M (pc + 1) (a0 :: a1 :: a2 :: some (.int x) :: r) (.int x :: st) σ P) : zw_W l G d M pc (a0 :: a1 :: a2 :: some (.int x) :: r) st σ P := zi_iload_n (k := 3) hd rfl k
theorem zi_ist3 {a0 a1 a2 : Option Value} {x : Int32} {y : Option Value} {r : List (Option Value)} (hd : decode M.2.1 pc = .ok (.istore_n 3, 1)) (hn : 3 < M.2.2.1) (h2 : zw_n2 a2 = true) (k : zw_W l G d M (pc + 1) (a0 :: a1 :: a2 :: some (.int x) :: r) st σ P) : zw_W l G d M pc (a0 :: a1 :: a2 :: y :: r) (.int x :: st) σ P := zi_istore_n (k := 3) hd hn (zw_hc (i := 2) rfl h2) k
theorem zi_lld3 {a0 a1 a2 : Option Value} {x : Int64} {r : List (Option Value)} (hd : decode M.2.1 pc = .ok (.lload_n 3, 1)) (k : zw_W l G d M (pc + 1) (a0 :: a1 :: a2 :: some (.long x) :: r) (.long x :: st) σ P) : zw_W l G d M pc (a0 :: a1 :: a2 :: some (.long x) :: r) st σ P := zi_lload_n (k := 3) hd rfl k
theorem zi_lst3 {a0 a1 a2 : Option Value} {x : Int64} {y y2 : Option Value} {r : List (Option Value)} (hd : decode M.2.1 pc = .ok (.lstore_n 3, 1)) (hn : 3 + 1 < M.2.2.1) (h2 : zw_n2 a2 = true) (k : zw_W l G d M (pc + 1) (a0 :: a1 :: a2 :: some (.long x) :: none :: r) st σ P) : zw_W l G d M pc (a0 :: a1 :: a2 :: y :: y2 :: r) (.long x :: st) σ P := zi_lstore_n (k := 3) hd hn (zw_hc (i := 2) rfl h2) k
theorem zi_ald3 {a0 a1 a2 : Option Value} {x : Nat} {r : List (Option Value)} (hd : decode M.2.1 pc = .ok (.aload_n 3, 1)) (k : zw_W l G d M (pc + 1) (a0 :: a1 :: a2 :: some (.ref x) :: r) (.ref x :: st) σ P) : zw_W l G d M pc (a0 :: a1 :: a2 :: some (.ref x) :: r) st σ P := zi_aload_n (k := 3) hd rfl k
theorem zi_ast3 {a0 a1 a2 : Option Value} {x : Nat} {y : Option Value} {r : List (Option Value)} (hd : decode M.2.1 pc = .ok (.astore_n 3, 1)) (hn : 3 < M.2.2.1) (h2 : zw_n2 a2 = true) (k : zw_W l G d M (pc + 1) (a0 :: a1 :: a2 :: some (.ref x) :: r) st σ P) : zw_W l G d M pc (a0 :: a1 :: a2 :: y :: r) (.ref x :: st) σ P := zi_astore_n (k := 3) hd hn (zw_hc (i := 2) rfl h2) k
theorem zi_inc3 {a0 a1 a2 : Option Value} {x : Int32} {n : Int} {r : List (Option Value)} (v : Int32) (hd : decode M.2.1 pc = .ok (.iinc 3 n, 3)) (hv : Int32.ofInt n = v) (hn : 3 < M.2.2.1) (h2 : zw_n2 a2 = true) (k : zw_W l G d M (pc + 3) (a0 :: a1 :: a2 :: some (.int (x + v)) :: r) st σ P) : zw_W l G d M pc (a0 :: a1 :: a2 :: some (.int x) :: r) st σ P := zi_iinc v hd rfl hv hn (zw_hc (i := 2) rfl h2) k
theorem zi_ild4 {a0 a1 a2 a3 : Option Value} {x : Int32} {r : List (Option Value)} (hd : decode M.2.1 pc = .ok (.iload 4, 2)) (k : zw_W l G d M (pc + 2) (a0 :: a1 :: a2 :: a3 :: some (.int x) :: r) (.int x :: st) σ P) : zw_W l G d M pc (a0 :: a1 :: a2 :: a3 :: some (.int x) :: r) st σ P := zi_iload hd rfl k
theorem zi_ist4 {a0 a1 a2 a3 : Option Value} {x : Int32} {y : Option Value} {r : List (Option Value)} (hd : decode M.2.1 pc = .ok (.istore 4, 2)) (hn : 4 < M.2.2.1) (h2 : zw_n2 a3 = true) (k : zw_W l G d M (pc + 2) (a0 :: a1 :: a2 :: a3 :: some (.int x) :: r) st σ P) : zw_W l G d M pc (a0 :: a1 :: a2 :: a3 :: y :: r) (.int x :: st) σ P := zi_istore hd hn (zw_hc (i := 3) rfl h2) k
theorem zi_lld4 {a0 a1 a2 a3 : Option Value} {x : Int64} {r : List (Option Value)} (hd : decode M.2.1 pc = .ok (.lload 4, 2)) (k : zw_W l G d M (pc + 2) (a0 :: a1 :: a2 :: a3 :: some (.long x) :: r) (.long x :: st) σ P) : zw_W l G d M pc (a0 :: a1 :: a2 :: a3 :: some (.long x) :: r) st σ P := zi_lload hd rfl k
theorem zi_lst4 {a0 a1 a2 a3 : Option Value} {x : Int64} {y y2 : Option Value} {r : List (Option Value)} (hd : decode M.2.1 pc = .ok (.lstore 4, 2)) (hn : 4 + 1 < M.2.2.1) (h2 : zw_n2 a3 = true) (k : zw_W l G d M (pc + 2) (a0 :: a1 :: a2 :: a3 :: some (.long x) :: none :: r) st σ P) : zw_W l G d M pc (a0 :: a1 :: a2 :: a3 :: y :: y2 :: r) (.long x :: st) σ P := zi_lstore hd hn (zw_hc (i := 3) rfl h2) k
theorem zi_ald4 {a0 a1 a2 a3 : Option Value} {x : Nat} {r : List (Option Value)} (hd : decode M.2.1 pc = .ok (.aload 4, 2)) (k : zw_W l G d M (pc + 2) (a0 :: a1 :: a2 :: a3 :: some (.ref x) :: r) (.ref x :: st) σ P) : zw_W l G d M pc (a0 :: a1 :: a2 :: a3 :: some (.ref x) :: r) st σ P := zi_aload hd rfl k
theorem zi_ast4 {a0 a1 a2 a3 : Option Value} {x : Nat} {y : Option Value} {r : List (Option Value)} (hd : decode M.2.1 pc = .ok (.astore 4, 2)) (hn : 4 < M.2.2.1) (h2 : zw_n2 a3 = true) (k : zw_W l G d M (pc + 2) (a0 :: a1 :: a2 :: a3 :: some (.ref x) :: r) st σ P) : zw_W l G d M pc (a0 :: a1 :: a2 :: a3 :: y :: r) (.ref x :: st) σ P := zi_astore hd hn (zw_hc (i := 3) rfl h2) k
theorem zi_inc4 {a0 a1 a2 a3 : Option Value} {x : Int32} {n : Int} {r : List (Option Value)} (v : Int32) (hd : decode M.2.1 pc = .ok (.iinc 4 n, 3)) (hv : Int32.ofInt n = v) (hn : 4 < M.2.2.1) (h2 : zw_n2 a3 = true) (k : zw_W l G d M (pc + 3) (a0 :: a1 :: a2 :: a3 :: some (.int (x + v)) :: r) st σ P) : zw_W l G d M pc (a0 :: a1 :: a2 :: a3 :: some (.int x) :: r) st σ P := zi_iinc v hd rfl hv hn (zw_hc (i := 3) rfl h2) k
theorem zi_ild5 {a0 a1 a2 a3 a4 : Option Value} {x : Int32} {r : List (Option Value)} (hd : decode M.2.1 pc = .ok (.iload 5, 2)) (k : zw_W l G d M (pc + 2) (a0 :: a1 :: a2 :: a3 :: a4 :: some (.int x) :: r) (.int x :: st) σ P) : zw_W l G d M pc (a0 :: a1 :: a2 :: a3 :: a4 :: some (.int x) :: r) st σ P := zi_iload hd rfl k
theorem zi_ist5 {a0 a1 a2 a3 a4 : Option Value} {x : Int32} {y : Option Value} {r : List (Option Value)} (hd : decode M.2.1 pc = .ok (.istore 5, 2)) (hn : 5 < M.2.2.1) (h2 : zw_n2 a4 = true) (k : zw_W l G d M (pc + 2) (a0 :: a1 :: a2 :: a3 :: a4 :: some (.int x) :: r) st σ P) : zw_W l G d M pc (a0 :: a1 :: a2 :: a3 :: a4 :: y :: r) (.int x :: st) σ P := zi_istore hd hn (zw_hc (i := 4) rfl h2) k
theorem zi_lld5 {a0 a1 a2 a3 a4 : Option Value} {x : Int64} {r : List (Option Value)} (hd : decode M.2.1 pc = .ok (.lload 5, 2)) (k : zw_W l G d M (pc + 2) (a0 :: a1 :: a2 :: a3 :: a4 :: some (.long x) :: r) (.long x :: st) σ P) : zw_W l G d M pc (a0 :: a1 :: a2 :: a3 :: a4 :: some (.long x) :: r) st σ P := zi_lload hd rfl k
theorem zi_lst5 {a0 a1 a2 a3 a4 : Option Value} {x : Int64} {y y2 : Option Value} {r : List (Option Value)} (hd : decode M.2.1 pc = .ok (.lstore 5, 2)) (hn : 5 + 1 < M.2.2.1) (h2 : zw_n2 a4 = true) (k : zw_W l G d M (pc + 2) (a0 :: a1 :: a2 :: a3 :: a4 :: some (.long x) :: none :: r) st σ P) : zw_W l G d M pc (a0 :: a1 :: a2 :: a3 :: a4 :: y :: y2 :: r) (.long x :: st) σ P := zi_lstore hd hn (zw_hc (i := 4) rfl h2) k
theorem zi_ald5 {a0 a1 a2 a3 a4 : Option Value} {x : Nat} {r : List (Option Value)} (hd : decode M.2.1 pc = .ok (.aload 5, 2)) (k : zw_W l G d M (pc + 2) (a0 :: a1 :: a2 :: a3 :: a4 :: some (.ref x) :: r) (.ref x :: st) σ P) : zw_W l G d M pc (a0 :: a1 :: a2 :: a3 :: a4 :: some (.ref x) :: r) st σ P := zi_aload hd rfl k
theorem zi_ast5 {a0 a1 a2 a3 a4 : Option Value} {x : Nat} {y : Option Value} {r : List (Option Value)} (hd : decode M.2.1 pc = .ok (.astore 5, 2)) (hn : 5 < M.2.2.1) (h2 : zw_n2 a4 = true) (k : zw_W l G d M (pc + 2) (a0 :: a1 :: a2 :: a3 :: a4 :: some (.ref x) :: r) st σ P) : zw_W l G d M pc (a0 :: a1 :: a2 :: a3 :: a4 :: y :: r) (.ref x :: st) σ P := zi_astore hd hn (zw_hc (i := 4) rfl h2) k
theorem zi_inc5 {a0 a1 a2 a3 a4 : Option Value} {x : Int32} {n : Int} {r : List (Option Value)} (v : Int32) (hd : decode M.2.1 pc = .ok (.iinc 5 n, 3)) (hv : Int32.ofInt n = v) (hn : 5 < M.2.2.1) (h2 : zw_n2 a4 = true) (k : zw_W l G d M (pc + 3) (a0 :: a1 :: a2 :: a3 :: a4 :: some (.int (x + v)) :: r) st σ P) : zw_W l G d M pc (a0 :: a1 :: a2 :: a3 :: a4 :: some (.int x) :: r) st σ P := zi_iinc v hd rfl hv hn (zw_hc (i := 4) rfl h2) k
theorem zi_ild6 {a0 a1 a2 a3 a4 a5 : Option Value} {x : Int32} {r : List (Option Value)} (hd : decode M.2.1 pc = .ok (.iload 6, 2)) (k : zw_W l G d M (pc + 2) (a0 :: a1 :: a2 :: a3 :: a4 :: a5 :: some (.int x) :: r) (.int x :: st) σ P) : zw_W l G d M pc (a0 :: a1 :: a2 :: a3 :: a4 :: a5 :: some (.int x) :: r) st σ P := zi_iload hd rfl k
theorem zi_ist6 {a0 a1 a2 a3 a4 a5 : Option Value} {x : Int32} {y : Option Value} {r : List (Option Value)} (hd : decode M.2.1 pc = .ok (.istore 6, 2)) (hn : 6 < M.2.2.1) (h2 : zw_n2 a5 = true) (k : zw_W l G d M (pc + 2) (a0 :: a1 :: a2 :: a3 :: a4 :: a5 :: some (.int x) :: r) st σ P) : zw_W l G d M pc (a0 :: a1 :: a2 :: a3 :: a4 :: a5 :: y :: r) (.int x :: st) σ P := zi_istore hd hn (zw_hc (i := 5) rfl h2) k
theorem zi_lld6 {a0 a1 a2 a3 a4 a5 : Option Value} {x : Int64} {r : List (Option Value)} (hd : decode M.2.1 pc = .ok (.lload 6, 2)) (k : zw_W l G d M (pc + 2) (a0 :: a1 :: a2 :: a3 :: a4 :: a5 :: some (.long x) :: r) (.long x :: st) σ P) : zw_W l G d M pc (a0 :: a1 :: a2 :: a3 :: a4 :: a5 :: some (.long x) :: r) st σ P := zi_lload hd rfl k
theorem zi_lst6 {a0 a1 a2 a3 a4 a5 : Option Value} {x : Int64} {y y2 : Option Value} {r : List (Option Value)} (hd : decode M.2.1 pc = .ok (.lstore 6, 2)) (hn : 6 + 1 < M.2.2.1) (h2 : zw_n2 a5 = true) (k : zw_W l G d M (pc + 2) (a0 :: a1 :: a2 :: a3 :: a4 :: a5 :: some (.long x) :: none :: r) st σ P) : zw_W l G d M pc (a0 :: a1 :: a2 :: a3 :: a4 :: a5 :: y :: y2 :: r) (.long x :: st) σ P := zi_lstore hd hn (zw_hc (i := 5) rfl h2) k
theorem zi_ald6 {a0 a1 a2 a3 a4 a5 : Option Value} {x : Nat} {r : List (Option Value)} (hd : decode M.2.1 pc = .ok (.aload 6, 2)) (k : zw_W l G d M (pc + 2) (a0 :: a1 :: a2 :: a3 :: a4 :: a5 :: some (.ref x) :: r) (.ref x :: st) σ P) : zw_W l G d M pc (a0 :: a1 :: a2 :: a3 :: a4 :: a5 :: some (.ref x) :: r) st σ P := zi_aload hd rfl k
theorem zi_ast6 {a0 a1 a2 a3 a4 a5 : Option Value} {x : Nat} {y : Option Value} {r : List (Option Value)} (hd : decode M.2.1 pc = .ok (.astore 6, 2)) (hn : 6 < M.2.2.1) (h2 : zw_n2 a5 = true) (k : zw_W l G d M (pc + 2) (a0 :: a1 :: a2 :: a3 :: a4 :: a5 :: some (.ref x) :: r) st σ P) : zw_W l G d M pc (a0 :: a1 :: a2 :: a3 :: a4 :: a5 :: y :: r) (.ref x :: st) σ P := zi_astore hd hn (zw_hc (i := 5) rfl h2) k
theorem zi_inc6 {a0 a1 a2 a3 a4 a5 : Option Value} {x : Int32} {n : Int} {r : List (Option Value)} (v : Int32) (hd : decode M.2.1 pc = .ok (.iinc 6 n, 3)) (hv : Int32.ofInt n = v) (hn : 6 < M.2.2.1) (h2 : zw_n2 a5 = true) (k : zw_W l G d M (pc + 3) (a0 :: a1 :: a2 :: a3 :: a4 :: a5 :: some (.int (x + v)) :: r) st σ P) : zw_W l G d M pc (a0 :: a1 :: a2 :: a3 :: a4 :: a5 :: some (.int x) :: r) st σ P := zi_iinc v hd rfl hv hn (zw_hc (i := 5) rfl h2) k
theorem zi_ild7 {a0 a1 a2 a3 a4 a5 a6 : Option Value} {x : Int32} {r : List (Option Value)} (hd : decode M.2.1 pc = .ok (.iload 7, 2)) (k : zw_W l G d M (pc + 2) (a0 :: a1 :: a2 :: a3 :: a4 :: a5 :: a6 :: some (.int x) :: r) (.int x :: st) σ P) : zw_W l G d M pc (a0 :: a1 :: a2 :: a3 :: a4 :: a5 :: a6 :: some (.int x) :: r) st σ P := zi_iload hd rfl k
theorem zi_ist7 {a0 a1 a2 a3 a4 a5 a6 : Option Value} {x : Int32} {y : Option Value} {r : List (Option Value)} (hd : decode M.2.1 pc = .ok (.istore 7, 2)) (hn : 7 < M.2.2.1) (h2 : zw_n2 a6 = true) (k : zw_W l G d M (pc + 2) (a0 :: a1 :: a2 :: a3 :: a4 :: a5 :: a6 :: some (.int x) :: r) st σ P) : zw_W l G d M pc (a0 :: a1 :: a2 :: a3 :: a4 :: a5 :: a6 :: y :: r) (.int x :: st) σ P := zi_istore hd hn (zw_hc (i := 6) rfl h2) k
theorem zi_lld7 {a0 a1 a2 a3 a4 a5 a6 : Option Value} {x : Int64} {r : List (Option Value)} (hd : decode M.2.1 pc = .ok (.lload 7, 2)) (k : zw_W l G d M (pc + 2) (a0 :: a1 :: a2 :: a3 :: a4 :: a5 :: a6 :: some (.long x) :: r) (.long x :: st) σ P) : zw_W l G d M pc (a0 :: a1 :: a2 :: a3 :: a4 :: a5 :: a6 :: some (.long x) :: r) st σ P := zi_lload hd rfl k
theorem zi_lst7 {a0 a1 a2 a3 a4 a5 a6 : Option Value} {x : Int64} {y y2 : Option Value} {r : List (Option Value)} (hd : decode M.2.1 pc = .ok (.lstore 7, 2)) (hn : 7 + 1 < M.2.2.1) (h2 : zw_n2 a6 = true) (k : zw_W l G d M (pc + 2) (a0 :: a1 :: a2 :: a3 :: a4 :: a5 :: a6 :: some (.long x) :: none :: r) st σ P) : zw_W l G d M pc (a0 :: a1 :: a2 :: a3 :: a4 :: a5 :: a6 :: y :: y2 :: r) (.long x :: st) σ P := zi_lstore hd hn (zw_hc (i := 6) rfl h2) k
theorem zi_ald7 {a0 a1 a2 a3 a4 a5 a6 : Option Value} {x : Nat} {r : List (Option Value)} (hd : decode M.2.1 pc = .ok (.aload 7, 2)) (k : zw_W l G d M (pc + 2) (a0 :: a1 :: a2 :: a3 :: a4 :: a5 :: a6 :: some (.ref x) :: r) (.ref x :: st) σ P) : zw_W l G d M pc (a0 :: a1 :: a2 :: a3 :: a4 :: a5 :: a6 :: some (.ref x) :: r) st σ P := zi_aload hd rfl k
theorem zi_ast7 {a0 a1 a2 a3 a4 a5 a6 : Option Value} {x : Nat} {y : Option Value} {r : List (Option Value)} (hd : decode M.2.1 pc = .ok (.astore 7, 2)) (hn : 7 < M.2.2.1) (h2 : zw_n2 a6 = true) (k : zw_W l G d M (pc + 2) (a0 :: a1 :: a2 :: a3 :: a4 :: a5 :: a6 :: some (.ref x) :: r) st σ P) : zw_W l G d M pc (a0 :: a1 :: a2 :: a3 :: a4 :: a5 :: a6 :: y :: r) (.ref x :: st) σ P := zi_astore hd hn (zw_hc (i := 6) rfl h2) k
theorem zi_inc7 {a0 a1 a2 a3 a4 a5 a6 : Option Value} {x : Int32} {n : Int} {r : List (Option Value)} (v : Int32) (hd : decode M.2.1 pc = .ok (.iinc 7 n, 3)) (hv : Int32.ofInt n = v) (hn : 7 < M.2.2.1) (h2 : zw_n2 a6 = true) (k : zw_W l G d M (pc + 3) (a0 :: a1 :: a2 :: a3 :: a4 :: a5 :: a6 :: some (.int (x + v)) :: r) st σ P) : zw_W l G d M pc (a0 :: a1 :: a2 :: a3 :: a4 :: a5 :: a6 :: some (.int x) :: r) st σ P := zi_iinc v hd rfl hv hn (zw_hc (i := 6) rfl h2) k
theorem zi_ild8 {a0 a1 a2 a3 a4 a5 a6 a7 : Option Value} {x : Int32} {r : List (Option Value)} (hd : decode M.2.1 pc = .ok (.iload 8, 2)) (k : zw_W l G d M (pc + 2) (a0 :: a1 :: a2 :: a3 :: a4 :: a5 :: a6 :: a7 :: some (.int x) :: r) (.int x :: st) σ P) : zw_W l G d M pc (a0 :: a1 :: a2 :: a3 :: a4 :: a5 :: a6 :: a7 :: some (.int x) :: r) st σ P := zi_iload hd rfl k
theorem zi_ist8 {a0 a1 a2 a3 a4 a5 a6 a7 : Option Value} {x : Int32} {y : Option Value} {r : List (Option Value)} (hd : decode M.2.1 pc = .ok (.istore 8, 2)) (hn : 8 < M.2.2.1) (h2 : zw_n2 a7 = true) (k : zw_W l G d M (pc + 2) (a0 :: a1 :: a2 :: a3 :: a4 :: a5 :: a6 :: a7 :: some (.int x) :: r) st σ P) : zw_W l G d M pc (a0 :: a1 :: a2 :: a3 :: a4 :: a5 :: a6 :: a7 :: y :: r) (.int x :: st) σ P := zi_istore hd hn (zw_hc (i := 7) rfl h2) k
theorem zi_lld8 {a0 a1 a2 a3 a4 a5 a6 a7 : Option Value} {x : Int64} {r : List (Option Value)} (hd : decode M.2.1 pc = .ok (.lload 8, 2)) (k : zw_W l G d M (pc + 2) (a0 :: a1 :: a2 :: a3 :: a4 :: a5 :: a6 :: a7 :: some (.long x) :: r) (.long x :: st) σ P) : zw_W l G d M pc (a0 :: a1 :: a2 :: a3 :: a4 :: a5 :: a6 :: a7 :: some (.long x) :: r) st σ P := zi_lload hd rfl k
theorem zi_lst8 {a0 a1 a2 a3 a4 a5 a6 a7 : Option Value} {x : Int64} {y y2 : Option Value} {r : List (Option Value)} (hd : decode M.2.1 pc = .ok (.lstore 8, 2)) (hn : 8 + 1 < M.2.2.1) (h2 : zw_n2 a7 = true) (k : zw_W l G d M (pc + 2) (a0 :: a1 :: a2 :: a3 :: a4 :: a5 :: a6 :: a7 :: some (.long x) :: none :: r) st σ P) : zw_W l G d M pc (a0 :: a1 :: a2 :: a3 :: a4 :: a5 :: a6 :: a7 :: y :: y2 :: r) (.long x :: st) σ P := zi_lstore hd hn (zw_hc (i := 7) rfl h2) k
theorem zi_ald8 {a0 a1 a2 a3 a4 a5 a6 a7 : Option Value} {x : Nat} {r : List (Option Value)} (hd : decode M.2.1 pc = .ok (.aload 8, 2)) (k : zw_W l G d M (pc + 2) (a0 :: a1 :: a2 :: a3 :: a4 :: a5 :: a6 :: a7 :: some (.ref x) :: r) (.ref x :: st) σ P) : zw_W l G d M pc (a0 :: a1 :: a2 :: a3 :: a4 :: a5 :: a6 :: a7 :: some (.ref x) :: r) st σ P := zi_aload hd rfl k
theorem zi_ast8 {a0 a1 a2 a3 a4 a5 a6 a7 : Option Value} {x : Nat} {y : Option Value} {r : List (Option Value)} (hd : decode M.2.1 pc = .ok (.astore 8, 2)) (hn : 8 < M.2.2.1) (h2 : zw_n2 a7 = true) (k : zw_W l G d M (pc + 2) (a0 :: a1 :: a2 :: a3 :: a4 :: a5 :: a6 :: a7 :: some (.ref x) :: r) st σ P) : zw_W l G d M pc (a0 :: a1 :: a2 :: a3 :: a4 :: a5 :: a6 :: a7 :: y :: r) (.ref x :: st) σ P := zi_astore hd hn (zw_hc (i := 7) rfl h2) k
theorem zi_inc8 {a0 a1 a2 a3 a4 a5 a6 a7 : Option Value} {x : Int32} {n : Int} {r : List (Option Value)} (v : Int32) (hd : decode M.2.1 pc = .ok (.iinc 8 n, 3)) (hv : Int32.ofInt n = v) (hn : 8 < M.2.2.1) (h2 : zw_n2 a7 = true) (k : zw_W l G d M (pc + 3) (a0 :: a1 :: a2 :: a3 :: a4 :: a5 :: a6 :: a7 :: some (.int (x + v)) :: r) st σ P) : zw_W l G d M pc (a0 :: a1 :: a2 :: a3 :: a4 :: a5 :: a6 :: a7 :: some (.int x) :: r) st σ P := zi_iinc v hd rfl hv hn (zw_hc (i := 7) rfl h2) k
theorem zi_ild9 {a0 a1 a2 a3 a4 a5 a6 a7 a8 : Option Value} {x : Int32} {r : List (Option Value)} (hd : decode M.2.1 pc = .ok (.iload 9, 2)) (k : zw_W l G d M (pc + 2) (a0 :: a1 :: a2 :: a3 :: a4 :: a5 :: a6 :: a7 :: a8 :: some (.int x) :: r) (.int x :: st) σ P) : zw_W l G d M pc (a0 :: a1 :: a2 :: a3 :: a4 :: a5 :: a6 :: a7 :: a8 :: some (.int x) :: r) st σ P := zi_iload hd rfl k
theorem zi_ist9 {a0 a1 a2 a3 a4 a5 a6 a7 a8 : Option Value} {x : Int32} {y : Option Value} {r : List (Option Value)} (hd : decode M.2.1 pc = .ok (.istore 9, 2)) (hn : 9 < M.2.2.1) (h2 : zw_n2 a8 = true) (k : zw_W l G d M (pc + 2) (a0 :: a1 :: a2 :: a3 :: a4 :: a5 :: a6 :: a7 :: a8 :: some (.int x) :: r) st σ P) : zw_W l G d M pc (a0 :: a1 :: a2 :: a3 :: a4 :: a5 :: a6 :: a7 :: a8 :: y :: r) (.int x :: st) σ P := zi_istore hd hn (zw_hc (i := 8) rfl h2) k
theorem zi_lld9 {a0 a1 a2 a3 a4 a5 a6 a7 a8 : Option Value} {x : Int64} {r : List (Option Value)} (hd : decode M.2.1 pc = .ok (.lload 9, 2)) (k : zw_W l G d M (pc + 2) (a0 :: a1 :: a2 :: a3 :: a4 :: a5 :: a6 :: a7 :: a8 :: some (.long x) :: r) (.long x :: st) σ P) : zw_W l G d M pc (a0 :: a1 :: a2 :: a3 :: a4 :: a5 :: a6 :: a7 :: a8 :: some (.long x) :: r) st σ P := zi_lload hd rfl k
theorem zi_lst9 {a0 a1 a2 a3 a4 a5 a6 a7 a8 : Option Value} {x : Int64} {y y2 : Option Value} {r : List (Option Value)} (hd : decode M.2.1 pc = .ok (.lstore 9, 2)) (hn : 9 + 1 < M.2.2.1) (h2 : zw_n2 a8 = true) (k : zw_W l G d M (pc + 2) (a0 :: a1 :: a2 :: a3 :: a4 :: a5 :: a6 :: a7 :: a8 :: some (.long x) :: none :: r) st σ P) : zw_W l G d M pc (a0 :: a1 :: a2 :: a3 :: a4 :: a5 :: a6 :: a7 :: a8 :: y :: y2 :: r) (.long x :: st) σ P := zi_lstore hd hn (zw_hc (i := 8) rfl h2) k
theorem zi_ald9 {a0 a1 a2 a3 a4 a5 a6 a7 a8 : Option Value} {x : Nat} {r : List (Option Value)} (hd : decode M.2.1 pc = .ok (.aload 9, 2)) (k : zw_W l G d M (pc + 2) (a0 :: a1 :: a2 :: a3 :: a4 :: a5 :: a6 :: a7 :: a8 :: some (.ref x) :: r) (.ref x :: st) σ P) : zw_W l G d M pc (a0 :: a1 :: a2 :: a3 :: a4 :: a5 :: a6 :: a7 :: a8 :: some (.ref x) :: r) st σ P := zi_aload hd rfl k
theorem zi_ast9 {a0 a1 a2 a3 a4 a5 a6 a7 a8 : Option Value} {x : Nat} {y : Option Value} {r : List (Option Value)} (hd : decode M.2.1 pc = .ok (.astore 9, 2)) (hn : 9 < M.2.2.1) (h2 : zw_n2 a8 = true) (k : zw_W l G d M (pc + 2) (a0 :: a1 :: a2 :: a3 :: a4 :: a5 :: a6 :: a7 :: a8 :: some (.ref x) :: r) st σ P) : zw_W l G d M pc (a0 :: a1 :: a2 :: a3 :: a4 :: a5 :: a6 :: a7 :: a8 :: y :: r) (.ref x :: st) σ P := zi_astore hd hn (zw_hc (i := 8) rfl h2) k
theorem zi_inc9 {a0 a1 a2 a3 a4 a5 a6 a7 a8 : Option Value} {x : Int32} {n : Int} {r : List (Option Value)} (v : Int32) (hd : decode M.2.1 pc = .ok (.iinc 9 n, 3)) (hv : Int32.ofInt n = v) (hn : 9 < M.2.2.1) (h2 : zw_n2 a8 = true) (k : zw_W l G d M (pc + 3) (a0 :: a1 :: a2 :: a3 :: a4 :: a5 :: a6 :: a7 :: a8 :: some (.int (x + v)) :: r) st σ P) : zw_W l G d M pc (a0 :: a1 :: a2 :: a3 :: a4 :: a5 :: a6 :: a7 :: a8 :: some (.int x) :: r) st σ P := zi_iinc v hd rfl hv hn (zw_hc (i := 8) rfl h2) k
theorem zi_ild10 {a0 a1 a2 a3 a4 a5 a6 a7 a8 a9 : Option Value} {x : Int32} {r : List (Option Value)} (hd : decode M.2.1 pc = .ok (.iload 10, 2)) (k : zw_W l G d M (pc + 2) (a0 :: a1 :: a2 :: a3 :: a4 :: a5 :: a6 :: a7 :: a8 :: a9 :: some (.int x) :: r) (.int x :: st) σ P) : zw_W l G d M pc (a0 :: a1 :: a2 :: a3 :: a4 :: a5 :: a6 :: a7 :: a8 :: a9 :: some (.int x) :: r) st σ P := zi_iload hd rfl k
theorem zi_ist10 {a0 a1 a2 a3 a4 a5 a6 a7 a8 a9 : Option Value} {x : Int32} {y : Option Value} {r : List (Option Value)} (hd : decode M.2.1 pc = .ok (.istore 10, 2)) (hn : 10 < M.2.2.1) (h2 : zw_n2 a9 = true) (k : zw_W l G d M (pc + 2) (a0 :: a1 :: a2 :: a3 :: a4 :: a5 :: a6 :: a7 :: a8 :: a9 :: some (.int x) :: r) st σ P) : zw_W l G d M pc (a0 :: a1 :: a2 :: a3 :: a4 :: a5 :: a6 :: a7 :: a8 :: a9 :: y :: r) (.int x :: st) σ P := zi_istore hd hn (zw_hc (i := 9) rfl h2) k
theorem zi_lld10 {a0 a1 a2 a3 a4 a5 a6 a7 a8 a9 : Option Value} {x : Int64} {r : List (Option Value)} (hd : decode M.2.1 pc = .ok (.lload 10, 2)) (k : zw_W l G d M (pc + 2) (a0 :: a1 :: a2 :: a3 :: a4 :: a5 :: a6 :: a7 :: a8 :: a9 :: some (.long x) :: r) (.long x :: st) σ P) : zw_W l G d M pc (a0 :: a1 :: a2 :: a3 :: a4 :: a5 :: a6 :: a7 :: a8 :: a9 :: some (.long x) :: r) st σ P := zi_lload hd rfl k
theorem zi_lst10 {a0 a1 a2 a3 a4 a5 a6 a7 a8 a9 : Option Value} {x : Int64} {y y2 : Option Value} {r : List (Option Value)} (hd : decode M.2.1 pc = .ok (.lstore 10, 2)) (hn : 10 + 1 < M.2.2.1) (h2 : zw_n2 a9 = true) (k : zw_W l G d M (pc + 2) (a0 :: a1 :: a2 :: a3 :: a4 :: a5 :: a6 :: a7 :: a8 :: a9 :: some (.long x) :: none :: r) st σ P) : zw_W l G d M pc (a0 :: a1 :: a2 :: a3 :: a4 :: a5 :: a6 :: a7 :: a8 :: a9 :: y :: y2 :: r) (.long x :: st) σ P := zi_lstore hd hn (zw_hc (i := 9) rfl h2) k
theorem zi_ald10 {a0 a1 a2 a3 a4 a5 a6 a7 a8 a9 : Option Value} {x : Nat} {r : List (Option Value)} (hd : decode M.2.1 pc = .ok (.aload 10, 2)) (k : zw_W l G d M (pc + 2) (a0 :: a1 :: a2 :: a3 :: a4 :: a5 :: a6 :: a7 :: a8 :: a9 :: some (.ref x) :: r) (.ref x :: st) σ P) : zw_W l G d M pc (a0 :: a1 :: a2 :: a3 :: a4 :: a5 :: a6 :: a7 :: a8 :: a9 :: some (.ref x) :: r) st σ P := zi_aload hd rfl k
theorem zi_ast10 {a0 a1 a2 a3 a4 a5 a6 a7 a8 a9 : Option Value} {x : Nat} {y : Option Value} {r : List (Option Value)} (hd : decode M.2.1 pc = .ok (.astore 10, 2)) (hn : 10 < M.2.2.1) (h2 : zw_n2 a9 = true) (k : zw_W l G d M (pc + 2) (a0 :: a1 :: a2 :: a3 :: a4 :: a5 :: a6 :: a7 :: a8 :: a9 :: some (.ref x) :: r) st σ P) : zw_W l G d M pc (a0 :: a1 :: a2 :: a3 :: a4 :: a5 :: a6 :: a7 :: a8 :: a9 :: y :: r) (.ref x :: st) σ P := zi_astore hd hn (zw_hc (i := 9) rfl h2) k
theorem zi_inc10 {a0 a1 a2 a3 a4 a5 a6 a7 a8 a9 : Option Value} {x : Int32} {n : Int} {r : List (Option Value)} (v : Int32) (hd : decode M.2.1 pc = .ok (.iinc 10 n, 3)) (hv : Int32.ofInt n = v) (hn : 10 < M.2.2.1) (h2 : zw_n2 a9 = true) (k : zw_W l G d M (pc + 3) (a0 :: a1 :: a2 :: a3 :: a4 :: a5 :: a6 :: a7 :: a8 :: a9 :: some (.int (x + v)) :: r) st σ P) : zw_W l G d M pc (a0 :: a1 :: a2 :: a3 :: a4 :: a5 :: a6 :: a7 :: a8 :: a9 :: some (.int x) :: r) st σ P := zi_iinc v hd rfl hv hn (zw_hc (i := 9) rfl h2) k
theorem zi_ild11 {a0 a1 a2 a3 a4 a5 a6 a7 a8 a9 a10 : Option Value} {x : Int32} {r : List (Option Value)} (hd : decode M.2.1 pc = .ok (.iload 11, 2)) (k : zw_W l G d M (pc + 2) (a0 :: a1 :: a2 :: a3 :: a4 :: a5 :: a6 :: a7 :: a8 :: a9 :: a10 :: some (.int x) :: r) (.int x :: st) σ P) : zw_W l G d M pc (a0 :: a1 :: a2 :: a3 :: a4 :: a5 :: a6 :: a7 :: a8 :: a9 :: a10 :: some (.int x) :: r) st σ P := zi_iload hd rfl k
theorem zi_ist11 {a0 a1 a2 a3 a4 a5 a6 a7 a8 a9 a10 : Option Value} {x : Int32} {y : Option Value} {r : List (Option Value)} (hd : decode M.2.1 pc = .ok (.istore 11, 2)) (hn : 11 < M.2.2.1) (h2 : zw_n2 a10 = true) (k : zw_W l G d M (pc + 2) (a0 :: a1 :: a2 :: a3 :: a4 :: a5 :: a6 :: a7 :: a8 :: a9 :: a10 :: some (.int x) :: r) st σ P) : zw_W l G d M pc (a0 :: a1 :: a2 :: a3 :: a4 :: a5 :: a6 :: a7 :: a8 :: a9 :: a10 :: y :: r) (.int x :: st) σ P := zi_istore hd hn (zw_hc (i := 10) rfl h2) k
theorem zi_lld11 {a0 a1 a2 a3 a4 a5 a6 a7 a8 a9 a10 : Option Value} {x : Int64} {r : List (Option Value)} (hd : decode M.2.1 pc = .ok (.lload 11, 2)) (k : zw_W l G d M (pc + 2) (a0 :: a1 :: a2 :: a3 :: a4 :: a5 :: a6 :: a7 :: a8 :: a9 :: a10 :: some (.long x) :: r) (.long x :: st) σ P) : zw_W l G d M pc (a0 :: a1 :: a2 :: a3 :: a4 :: a5 :: a6 :: a7 :: a8 :: a9 :: a10 :: some (.long x) :: r) st σ P := zi_lload hd rfl k
theorem zi_lst11 {a0 a1 a2 a3 a4 a5 a6 a7 a8 a9 a10 : Option Value} {x : Int64} {y y2 : Option Value} {r : List (Option Value)} (hd : decode M.2.1 pc = .ok (.lstore 11, 2)) (hn : 11 + 1 < M.2.2.1) (h2 : zw_n2 a10 = true) (k : zw_W l G d M (pc + 2) (a0 :: a1 :: a2 :: a3 :: a4 :: a5 :: a6 :: a7 :: a8 :: a9 :: a10 :: some (.long x) :: none :: r) st σ P) : zw_W l G d M pc (a0 :: a1 :: a2 :: a3 :: a4 :: a5 :: a6 :: a7 :: a8 :: a9 :: a10 :: y :: y2 :: r) (.long x :: st) σ P := zi_lstore hd hn (zw_hc (i := 10) rfl h2) k
theorem zi_ald11 {a0 a1 a2 a3 a4 a5 a6 a7 a8 a9 a10 : Option Value} {x : Nat} {r : List (Option Value)} (hd : decode M.2.1 pc = .ok (.aload 11, 2)) (k : zw_W l G d M (pc + 2) (a0 :: a1 :: a2 :: a3 :: a4 :: a5 :: a6 :: a7 :: a8 :: a9 :: a10 :: some (.ref x) :: r) (.ref x :: st) σ P) : zw_W l G d M pc (a0 :: a1 :: a2 :: a3 :: a4 :: a5 :: a6 :: a7 :: a8 :: a9 :: a10 :: some (.ref x) :: r) st σ P := zi_aload hd rfl k
theorem zi_ast11 {a0 a1 a2 a3 a4 a5 a6 a7 a8 a9 a10 : Option Value} {x : Nat} {y : Option Value} {r : List (Option Value)} (hd : decode M.2.1 pc = .ok (.astore 11, 2)) (hn : 11 < M.2.2.1) (h2 : zw_n2 a10 = true) (k : zw_W l G d M (pc + 2) (a0 :: a1 :: a2 :: a3 :: a4 :: a5 :: a6 :: a7 :: a8 :: a9 :: a10 :: some (.ref x) :: r) st σ P) : zw_W l G d M pc (a0 :: a1 :: a2 :: a3 :: a4 :: a5 :: a6 :: a7 :: a8 :: a9 :: a10 :: y :: r) (.ref x :: st) σ P := zi_astore hd hn (zw_hc (i := 10) rfl h2) k
theorem zi_inc11 {a0 a1 a2 a3 a4 a5 a6 a7 a8 a9 a10 : Option Value} {x : Int32} {n : Int} {r : List (Option Value)} (v : Int32) (hd : decode M.2.1 pc = .ok (.iinc 11 n, 3)) (hv : Int32.ofInt n = v) (hn : 11 < M.2.2.1) (h2 : zw_n2 a10 = true) (k : zw_W l G d M (pc + 3) (a0 :: a1 :: a2 :: a3 :: a4 :: a5 :: a6 :: a7 :: a8 :: a9 :: a10 :: some (.int (x + v)) :: r) st σ P) : zw_W l G d M pc (a0 :: a1 :: a2 :: a3 :: a4 :: a5 :: a6 :: a7 :: a8 :: a9 :: a10 :: some (.int x) :: r) st σ P := zi_iinc v hd rfl hv hn (zw_hc (i := 10) rfl h2) k
theorem zi_ild12 {a0 a1 a2 a3 a4 a5 a6 a7 a8 a9 a10 a11 : Option Value} {x : Int32} {r : List (Option Value)} (hd : decode M.2.1 pc = .ok (.iload 12, 2)) (k : zw_W l G d M (pc + 2) (a0 :: a1 :: a2 :: a3 :: a4 :: a5 :: a6 :: a7 :: a8 :: a9 :: a10 :: a11 :: some (.int x) :: r) (.int x :: st) σ P) : zw_W l G d M pc (a0 :: a1 :: a2 :: a3 :: a4 :: a5 :: a6 :: a7 :: a8 :: a9 :: a10 :: a11 :: some (.int x) :: r) st σ P := zi_iload hd rfl k
theorem zi_ist12 {a0 a1 a2 a3 a4 a5 a6 a7 a8 a9 a10 a11 : Option Value} {x : Int32} {y : Option Value} {r : List (Option Value)} (hd : decode M.2.1 pc = .ok (.istore 12, 2)) (hn : 12 < M.2.2.1) (h2 : zw_n2 a11 = true) (k : zw_W l G d M (pc + 2) (a0 :: a1 :: a2 :: a3 :: a4 :: a5 :: a6 :: a7 :: a8 :: a9 :: a10 :: a11 :: some (.int x) :: r) st σ P) : zw_W l G d M pc (a0 :: a1 :: a2 :: a3 :: a4 :: a5 :: a6 :: a7 :: a8 :: a9 :: a10 :: a11 :: y :: r) (.int x :: st) σ P := zi_istore hd hn (zw_hc (i := 11) rfl h2) k
theorem zi_lld12 {a0 a1 a2 a3 a4 a5 a6 a7 a8 a9 a10 a11 : Option Value} {x : Int64} {r : List (Option Value)} (hd : decode M.2.1 pc = .ok (.lload 12, 2)) (k : zw_W l G d M (pc + 2) (a0 :: a1 :: a2 :: a3 :: a4 :: a5 :: a6 :: a7 :: a8 :: a9 :: a10 :: a11 :: some (.long x) :: r) (.long x :: st) σ P) : zw_W l G d M pc (a0 :: a1 :: a2 :: a3 :: a4 :: a5 :: a6 :: a7 :: a8 :: a9 :: a10 :: a11 :: some (.long x) :: r) st σ P := zi_lload hd rfl k
theorem zi_lst12 {a0 a1 a2 a3 a4 a5 a6 a7 a8 a9 a10 a11 : Option Value} {x : Int64} {y y2 : Option Value} {r : List (Option Value)} (hd : decode M.2.1 pc = .ok (.lstore 12, 2)) (hn : 12 + 1 < M.2.2.1) (h2 : zw_n2 a11 = true) (k : zw_W l G d M (pc + 2) (a0 :: a1 :: a2 :: a3 :: a4 :: a5 :: a6 :: a7 :: a8 :: a9 :: a10 :: a11 :: some (.long x) :: none :: r) st σ P) : zw_W l G d M pc (a0 :: a1 :: a2 :: a3 :: a4 :: a5 :: a6 :: a7 :: a8 :: a9 :: a10 :: a11 :: y :: y2 :: r) (.long x :: st) σ P := zi_lstore hd hn (zw_hc (i := 11) rfl h2) k
theorem zi_ald12 {a0 a1 a2 a3 a4 a5 a6 a7 a8 a9 a10 a11 : Option Value} {x : Nat} {r : List (Option Value)} (hd : decode M.2.1 pc = .ok (.aload 12, 2)) (k : zw_W l G d M (pc + 2) (a0 :: a1 :: a2 :: a3 :: a4 :: a5 :: a6 :: a7 :: a8 :: a9 :: a10 :: a11 :: some (.ref x) :: r) (.ref x :: st) σ P) : zw_W l G d M pc (a0 :: a1 :: a2 :: a3 :: a4 :: a5 :: a6 :: a7 :: a8 :: a9 :: a10 :: a11 :: some (.ref x) :: r) st σ P := zi_aload hd rfl k
theorem zi_ast12 {a0 a1 a2 a3 a4 a5 a6 a7 a8 a9 a10 a11 : Option Value} {x : Nat} {y : Option Value} {r : List (Option Value)} (hd : decode M.2.1 pc = .ok (.astore 12, 2)) (hn : 12 < M.2.2.1) (h2 : zw_n2 a11 = true) (k : zw_W l G d M (pc + 2) (a0 :: a1 :: a2 :: a3 :: a4 :: a5 :: a6 :: a7 :: a8 :: a9 :: a10 :: a11 :: some (.ref x) :: r) st σ P) : zw_W l G d M pc (a0 :: a1 :: a2 :: a3 :: a4 :: a5 :: a6 :: a7 :: a8 :: a9 :: a10 :: a11 :: y :: r) (.ref x :: st) σ P := zi_astore hd hn (zw_hc (i := 11) rfl h2) k
theorem zi_inc12 {a0 a1 a2 a3 a4 a5 a6 a7 a8 a9 a10 a11 : Option Value} {x : Int32} {n : Int} {r : List (Option Value)} (v : Int32) (hd : decode M.2.1 pc = .ok (.iinc 12 n, 3)) (hv : Int32.ofInt n = v) (hn : 12 < M.2.2.1) (h2 : zw_n2 a11 = true) (k : zw_W l G d M (pc + 3) (a0 :: a1 :: a2 :: a3 :: a4 :: a5 :: a6 :: a7 :: a8 :: a9 :: a10 :: a11 :: some (.int (x + v)) :: r) st σ P) : zw_W l G d M pc (a0 :: a1 :: a2 :: a3 :: a4 :: a5 :: a6 :: a7 :: a8 :: a9 :: a10 :: a11 :: some (.int x) :: r) st σ P := zi_iinc v hd rfl hv hn (zw_hc (i := 11) rfl h2) k
theorem zi_ild13 {a0 a1 a2 a3 a4 a5 a6 a7 a8 a9 a10 a11 a12 : Option Value} {x : Int32} {r : List (Option Value)} (hd : decode M.2.1 pc = .ok (.iload 13, 2)) (k : zw_W l G d M (pc + 2) (a0 :: a1 :: a2 :: a3 :: a4 :: a5 :: a6 :: a7 :: a8 :: a9 :: a10 :: a11 :: a12 :: some (.int x) :: r) (.int x :: st) σ P) : zw_W l G d M pc (a0 :: a1 :: a2 :: a3 :: a4 :: a5 :: a6 :: a7 :: a8 :: a9 :: a10 :: a11 :: a12 :: some (.int x) :: r) st σ P := zi_iload hd rfl k
theorem zi_ist13 {a0 a1 a2 a3 a4 a5 a6 a7 a8 a9 a10 a11 a12 : Option Value} {x : Int32} {y : Option Value} {r : List (Option Value)} (hd : decode M.2.1 pc = .ok (.istore 13, 2)) (hn : 13 < M.2.2.1) (h2 : zw_n2 a12 = true) (k : zw_W l G d M (pc + 2) (a0 :: a1 :: a2 :: a3 :: a4 :: a5 :: a6 :: a7 :: a8 :: a9 :: a10 :: a11 :: a12 :: some (.int x) :: r) st σ P) : zw_W l G d M pc (a0 :: a1 :: a2 :: a3 :: a4 :: a5 :: a6 :: a7 :: a8 :: a9 :: a10 :: a11 :: a12 :: y :: r) (.int x :: st) σ P := zi_istore hd hn (zw_hc (i := 12) rfl h2) k
theorem zi_lld13 {a0 a1 a2 a3 a4 a5 a6 a7 a8 a9 a10 a11 a12 : Option Value} {x : Int64} {r : List (Option Value)} (hd : decode M.2.1 pc = .ok (.lload 13, 2)) (k : zw_W l G d M (pc + 2) (a0 :: a1 :: a2 :: a3 :: a4 :: a5 :: a6 :: a7 :: a8 :: a9 :: a10 :: a11 :: a12 :: some (.long x) :: r) (.long x :: st) σ P) : zw_W l G d M pc (a0 :: a1 :: a2 :: a3 :: a4 :: a5 :: a6 :: a7 :: a8 :: a9 :: a10 :: a11 :: a12 :: some (.long x) :: r) st σ P := zi_lload hd rfl k
theorem zi_lst13 {a0 a1 a2 a3 a4 a5 a6 a7 a8 a9 a10 a11 a12 : Option Value} {x : Int64} {y y2 : Option Value} {r : List (Option Value)} (hd : decode M.2.1 pc = .ok (.lstore 13, 2)) (hn : 13 + 1 < M.2.2.1) (h2 : zw_n2 a12 = true) (k : zw_W l G d M (pc + 2) (a0 :: a1 :: a2 :: a3 :: a4 :: a5 :: a6 :: a7 :: a8 :: a9 :: a10 :: a11 :: a12 :: some (.long x) :: none :: r) st σ P) : zw_W l G d M pc (a0 :: a1 :: a2 :: a3 :: a4 :: a5 :: a6 :: a7 :: a8 :: a9 :: a10 :: a11 :: a12 :: y :: y2 :: r) (.long x :: st) σ P := zi_lstore hd hn (zw_hc (i := 12) rfl h2) k
theorem zi_ald13 {a0 a1 a2 a3 a4 a5 a6 a7 a8 a9 a10 a11 a12 : Option Value} {x : Nat} {r : List (Option Value)} (hd : decode M.2.1 pc = .ok (.aload 13, 2)) (k : zw_W l G d M (pc + 2) (a0 :: a1 :: a2 :: a3 :: a4 :: a5 :: a6 :: a7 :: a8 :: a9 :: a10 :: a11 :: a12 :: some (.ref x) :: r) (.ref x :: st) σ P) : zw_W l G d M pc (a0 :: a1 :: a2 :: a3 :: a4 :: a5 :: a6 :: a7 :: a8 :: a9 :: a10 :: a11 :: a12 :: some (.ref x) :: r) st σ P := zi_aload hd rfl k
theorem zi_ast13 {a0 a1 a2 a3 a4 a5 a6 a7 a8 a9 a10 a11 a12 : Option Value} {x : Nat} {y : Option Value} {r : List (Option Value)} (hd : decode M.2.1 pc = .ok (.astore 13, 2)) (hn : 13 < M.2.2.1) (h2 : zw_n2 a12 = true) (k : zw_W l G d M (pc + 2) (a0 :: a1 :: a2 :: a3 :: a4 :: a5 :: a6 :: a7 :: a8 :: a9 :: a10 :: a11 :: a12 :: some (.ref x) :: r) st σ P) : zw_W l G d M pc (a0 :: a1 :: a2 :: a3 :: a4 :: a5 :: a6 :: a7 :: a8 :: a9 :: a10 :: a11 :: a12 :: y :: r) (.ref x :: st) σ P := zi_astore hd hn (zw_hc (i := 12) rfl h2) k
theorem zi_inc13 {a0 a1 a2 a3 a4 a5 a6 a7 a8 a9 a10 a11 a12 : Option Value} {x : Int32} {n : Int} {r : List (Option Value)} (v : Int32) (hd : decode M.2.1 pc = .ok (.iinc 13 n, 3)) (hv : Int32.ofInt n = v) (hn : 13 < M.2.2.1) (h2 : zw_n2 a12 = true) (k : zw_W l G d M (pc + 3) (a0 :: a1 :: a2 :: a3 :: a4 :: a5 :: a6 :: a7 :: a8 :: a9 :: a10 :: a11 :: a12 :: some (.int (x + v)) :: r) st σ P) : zw_W l G d M pc (a0 :: a1 :: a2 :: a3 :: a4 :: a5 :: a6 :: a7 :: a8 :: a9 :: a10 :: a11 :: a12 :: some (.int x) :: r) st σ P := zi_iinc v hd rfl hv hn (zw_hc (i := 12) rfl h2) k
theorem zi_ald0N {r : List (Option Value)} (hd : decode M.2.1 pc = .ok (.aload_n 0, 1)) (k : zw_W l G d M (pc + 1) (some .null :: r) (.null :: st) σ P) : zw_W l G d M pc (some .null :: r) st σ P := zi_aload_nN (k := 0) hd rfl k
theorem zi_ast0N {y : Option Value} {r : List (Option Value)} (hd : decode M.2.1 pc = .ok (.astore_n 0, 1)) (hn : 0 < M.2.2.1) (k : zw_W l G d M (pc + 1) (some .null :: r) st σ P) : zw_W l G d M pc (y :: r) (.null :: st) σ P := zi_astore_nN (k := 0) hd hn (fun j v e => by omega) k
theorem zi_ald1N {a0 : Option Value} {r : List (Option Value)} (hd : decode M.2.1 pc = .ok (.aload_n 1, 1)) (k : zw_W l G d M (pc + 1) (a0 :: some .null :: r) (.null :: st) σ P) : zw_W l G d M pc (a0 :: some .null :: r) st σ P := zi_aload_nN (k := 1) hd rfl k
theorem zi_ast1N {a0 : Option Value} {y : Option Value} {r : List (Option Value)} (hd : decode M.2.1 pc = .ok (.astore_n 1, 1)) (hn : 1 < M.2.2.1) (h2 : zw_n2 a0 = true) (k : zw_W l G d M (pc + 1) (a0 :: some .null :: r) st σ P) : zw_W l G d M pc (a0 :: y :: r) (.null :: st) σ P := zi_astore_nN (k := 1) hd hn (zw_hc (i := 0) rfl h2) k
theorem zi_ald2N {a0 a1 : Option Value} {r : List (Option Value)} (hd : decode M.2.1 pc = .ok (.aload_n 2, 1)) (k : zw_W l G d M (pc + 1) (a0 :: a1 :: some .null :: r) (.null :: st) σ P) : zw_W l G d M pc (a0 :: a1 :: some .null :: r) st σ P := zi_aload_nN (k := 2) hd rfl k
theorem zi_ast2N {a0 a1 : Option Value} {y : Option Value} {r : List (Option Value)} (hd : decode M.2.1 pc = .ok (.astore_n 2, 1)) (hn : 2 < M.2.2.1) (h2 : zw_n2 a1 = true) (k : zw_W l G d M (pc + 1) (a0 :: a1 :: some .null :: r) st σ P) : zw_W l G d M pc (a0 :: a1 :: y :: r) (.null :: st) σ P := zi_astore_nN (k := 2) hd hn (zw_hc (i := 1) rfl h2) k
theorem zi_ald3N {a0 a1 a2 : Option Value} {r : List (Option Value)} (hd : decode M.2.1 pc = .ok (.aload_n 3, 1)) (k : zw_W l G d M (pc + 1) (a0 :: a1 :: a2 :: some .null :: r) (.null :: st) σ P) : zw_W l G d M pc (a0 :: a1 :: a2 :: some .null :: r) st σ P := zi_aload_nN (k := 3) hd rfl k
theorem zi_ast3N {a0 a1 a2 : Option Value} {y : Option Value} {r : List (Option Value)} (hd : decode M.2.1 pc = .ok (.astore_n 3, 1)) (hn : 3 < M.2.2.1) (h2 : zw_n2 a2 = true) (k : zw_W l G d M (pc + 1) (a0 :: a1 :: a2 :: some .null :: r) st σ P) : zw_W l G d M pc (a0 :: a1 :: a2 :: y :: r) (.null :: st) σ P := zi_astore_nN (k := 3) hd hn (zw_hc (i := 2) rfl h2) k
theorem zi_ret (hd : decode M.2.1 pc = .ok (.return_, 1)) (hr : M.2.2.2 = none) (h : P none σ) : zw_W l G d M pc L [] σ P :=
  fun p e R s m args below meth c H locs cells slots Q ls hC hP hS hL hR => hR none σ H locs pc ls h hP hS (Or.inl ⟨rfl, hr, hd⟩)
theorem zi_iret {v : Int32} (hd : decode M.2.1 pc = .ok (.ireturn, 1)) (hr : M.2.2.2 = some .int) (h : P (some (.int v)) σ) : zw_W l G d M pc L [.int v] σ P :=
  fun p e R s m args below meth c H locs cells slots Q ls hC hP hS hL hR => hR (some (.int v)) σ H locs pc ls h hP hS (Or.inr (Or.inl ⟨v, .int, rfl, hr, rfl, hd⟩))
theorem zi_zret {v : Int32} (hd : decode M.2.1 pc = .ok (.ireturn, 1)) (hr : M.2.2.2 = some .boolean) (hv : v = 0 ∨ v = 1) (h : P (some (.int v)) σ) : zw_W l G d M pc L [.int v] σ P :=
  fun p e R s m args below meth c H locs cells slots Q ls hC hP hS hL hR => hR (some (.int v)) σ H locs pc ls h hP hS (Or.inr (Or.inl ⟨v, .boolean, rfl, hr, (by rcases hv with rfl | rfl <;> rfl), hd⟩))
theorem zi_lret {v : Int64} (hd : decode M.2.1 pc = .ok (.lreturn, 1)) (hr : M.2.2.2 = some .long) (h : P (some (.long v)) σ) : zw_W l G d M pc L [.long v] σ P :=
  fun p e R s m args below meth c H locs cells slots Q ls hC hP hS hL hR => hR (some (.long v)) σ H locs pc ls h hP hS (Or.inr (Or.inr (Or.inl ⟨v, rfl, hr, hd⟩)))
theorem zi_aret {v : Value} {n : String} (hd : decode M.2.1 pc = .ok (.areturn, 1)) (hr : M.2.2.2 = some (.object n)) (hv : v = .null ∨ ∃ a, v = .ref a) (h : P (some v) σ) : zw_W l G d M pc L [v] σ P :=
  fun p e R s m args below meth c H locs cells slots Q ls hC hP hS hL hR => hR (some v) σ H locs pc ls h hP hS (Or.inr (Or.inr (Or.inr ⟨v, n, rfl, hv, hr, hd⟩)))
/-- a field link of the class own: class ci's field j -/
def zw_FL (own : String) (idx ci j : Nat) : Prop := ∃ (C : String) (T : u_T) (N : Nat), vwCl[ci]? = some (C, T, N) ∧ (∀ w ∈ u_ws C T N, w ∈ zw_tb) ∧ j < N ∧ ci < 10 ∧ (Cond.fieldLink own idx (T j).1 (T j).2.1 (T j).2.2.1 ∈ zw_tb ∨ ∃ host, Cond.fieldLinkNest own idx (T j).1 (T j).2.1 (T j).2.2.1 host ∈ lw_tbl)
/-- the field may be written: an int or a boolean -/
def zw_FP (ci j : Nat) (ty : FieldType) : Prop := ∃ (C : String) (T : u_T) (N : Nat) (ty0 : Nat → FieldType), vwCl[ci]? = some (C, T, N) ∧ (∀ k, k < N → parseFieldDescriptor (T k).2.2.1 = some (ty0 k)) ∧ (∀ a, a < N → ∀ b, b < N → a ≠ b → (T a).2.1 ≠ (T b).2.1) ∧ (T j).2.2.2 = false ∧ parseFieldDescriptor (T j).2.2.1 = some ty
theorem zi_getG {o idx ci j : Nat} {x : Option Nat} (hd : decode M.2.1 pc = .ok (.getfield idx, 3)) (hf : zw_FL M.1.cls idx ci j) (hk : zw_kd o = ci) (hj : (zw_foT.getD ci [])[j]? = some x) (k : ∀ v, zw_v G v = zw_fv G σ o j x → zw_W l G d M (pc + 3) L (v :: st) σ P) (v : Value) (hv : zw_v G v = zw_fv G σ o j x) : zw_W l G d M pc L (.ref o :: st) σ P :=
  fun p e R s m args below meth c H locs cells slots Q ls hC hP hS hL hR => by
    obtain ⟨C, T, N, hc, hin, hN, hci, hlk⟩ := hf
    have ho : o < 182 := zw_kd_lt (by rw [hk]; omega)
    have he : (zw_ws G σ)[o]? = some (G.2.2.1 o, .inr (ci, zw_fs G σ o)) := by rw [zw_ws_get ho, zw_cell_o hk hci]
    have hv2 : (zw_fs G σ o)[j]? = some (zw_v G v) := by rw [hv]; exact zw_fs_get (by unfold zw_fo; rw [hk]; exact hj)
    rcases hlk with hlk | ⟨host, hlk⟩
    · exact va_get hC.1 hC.2.1 hC.2.2.2.2.2.2.1 hin hC.2.2.2.2.2.1 hC.2.2.2.2.2.2.2.1.1 hP o he hc j hN (hC.2.2.2.2.2.2.1 _ hlk) (fun _ h9 => h9) hv2 hd (k v hv p e R s m args below meth c H locs cells slots Q ls hC hP hS hL hR)
    · exact va_getN hC.1 hC.2.1 hC.2.2.2.2.2.2.1 hin hC.2.2.2.2.2.1 hC.2.2.2.2.2.2.2.1.1 hP o he hc j hN (va_Nw.use rfl (hC.2.2.2.2.2.2.2.1.2.2.2.2.2 _ _ _ _ _ _ hlk)) (fun _ h9 => h9) hv2 hd (k v hv p e R s m args below meth c H locs cells slots Q ls hC hP hS hL hR)
theorem zi_getI {o idx ci j : Nat} (hd : decode M.2.1 pc = .ok (.getfield idx, 3)) (hf : zw_FL M.1.cls idx ci j) (hj : (zw_foT.getD ci [])[j]? = some none) (hk : zw_kd o = ci) (k : zw_W l G d M (pc + 3) L (.int (σ.1 o j) :: st) σ P) : zw_W l G d M pc L (.ref o :: st) σ P := by
  refine zi_getG hd hf hk hj (fun v hv => ?_) (.int (σ.1 o j)) rfl
  have : v = .int (σ.1 o j) := by
    cases v <;> first | exact hv | (cases hv)
  rw [this]
  exact k
theorem zi_getR {o idx ci j e9 : Nat} (hd : decode M.2.1 pc = .ok (.getfield idx, 3)) (hf : zw_FL M.1.cls idx ci j) (hj : (zw_foT.getD ci [])[j]? = some (some e9)) (hk : zw_kd o = ci) (k : zw_W l G d M (pc + 3) L (.ref (o + e9) :: st) σ P) : zw_W l G d M pc L (.ref o :: st) σ P :=
  fun p e R s m args below meth c H locs cells slots Q ls hC hP hS hL hR => by
    obtain ⟨C, T, N, hc, hin, hN, hci, hlk⟩ := hf
    have ho : o < 182 := zw_kd_lt (by rw [hk]; omega)
    have he : (zw_ws G σ)[o]? = some (G.2.2.1 o, .inr (ci, zw_fs G σ o)) := by rw [zw_ws_get ho, zw_cell_o hk hci]
    have hv2 : (zw_fs G σ o)[j]? = some (zw_v G (.ref (o + e9))) := zw_fs_get (by unfold zw_fo; rw [hk]; exact hj)
    rcases hlk with hlk | ⟨host, hlk⟩
    · exact va_get hC.1 hC.2.1 hC.2.2.2.2.2.2.1 hin hC.2.2.2.2.2.1 hC.2.2.2.2.2.2.2.1.1 hP o he hc j hN (hC.2.2.2.2.2.2.1 _ hlk) (fun _ h9 => h9) hv2 hd (k p e R s m args below meth c H locs cells slots Q ls hC hP hS hL hR)
    · exact va_getN hC.1 hC.2.1 hC.2.2.2.2.2.2.1 hin hC.2.2.2.2.2.1 hC.2.2.2.2.2.2.2.1.1 hP o he hc j hN (va_Nw.use rfl (hC.2.2.2.2.2.2.2.1.2.2.2.2.2 _ _ _ _ _ _ hlk)) (fun _ h9 => h9) hv2 hd (k p e R s m args below meth c H locs cells slots Q ls hC hP hS hL hR)
theorem zi_putG {o idx ci j : Nat} {v : Int32} {ty : FieldType} (hd : decode M.2.1 pc = .ok (.putfield idx, 3)) (hf : zw_FL M.1.cls idx ci j) (hp : zw_FP ci j ty) (hn : narrow ty (.int v) = .int v) (hfit : fits ty (.int v) = true) (hj : (zw_foT.getD ci [])[j]? = some none) (hk : zw_kd o = ci) (k : zw_W l G d M (pc + 3) L st (zw_pI σ o j v) P) : zw_W l G d M pc L (.int v :: .ref o :: st) σ P :=
  fun p e R s m args below meth c H locs cells slots Q ls hC hP hS hL hR => by
    obtain ⟨C, T, N, hc, hin, hN, hci, hlk⟩ := hf
    obtain ⟨C', T', N', ty0, hc', hty, hnm, hfin, hpd⟩ := hp
    cases hc.symm.trans hc'
    have ho : o < 182 := zw_kd_lt (by rw [hk]; omega)
    have he : (zw_ws G σ)[o]? = some (G.2.2.1 o, .inr (ci, zw_fs G σ o)) := by rw [zw_ws_get ho, zw_cell_o hk hci]
    have hj2 : (zw_fo o)[j]? = some none := by unfold zw_fo; rw [hk]; exact hj
    have hlen : j < (zw_fs G σ o).length := (List.getElem?_eq_some_iff.mp (zw_fs_get (G := G) (σ := σ) hj2)).1
    have hset := zw_ws_pI (G := G) (σ := σ) (v := v) hk hci hj2
    have hD := zw_inD (G := G) (σ := σ) hC.2.2.2.2.2.2.2.1.2.1
    rcases hlk with hlk | ⟨host, hlk⟩
    · refine va_put (v := .int v) hC.1 hC.2.1 hC.2.2.2.2.2.2.1 hin ty0 hty hnm hC.2.2.2.2.2.1 hC.2.2.2.2.2.2.2.1.1 hP hD hS o he hc j hN (hC.2.2.2.2.2.2.1 _ hlk) (fun _ h9 => h9) hfin hpd hn hfit hlen hd (fun H1 locs1 hP1 _ hS1 => ?_)
      rw [hset] at hP1
      exact k p e R s m args below meth c H1 locs1 cells slots Q ls hC hP1 hS1 hL hR
    · refine va_putN (v := .int v) hC.1 hC.2.1 hC.2.2.2.2.2.2.1 hin ty0 hty hnm hC.2.2.2.2.2.1 hC.2.2.2.2.2.2.2.1.1 hP hD hS o he hc j hN (va_Nw.use rfl (hC.2.2.2.2.2.2.2.1.2.2.2.2.2 _ _ _ _ _ _ hlk)) (fun _ h9 => h9) hfin hpd hn hfit hlen hd (fun H1 locs1 hP1 _ hS1 => ?_)
      rw [hset] at hP1
      exact k p e R s m args below meth c H1 locs1 cells slots Q ls hC hP1 hS1 hL hR
theorem zi_putI {o idx ci j : Nat} {v : Int32} (hd : decode M.2.1 pc = .ok (.putfield idx, 3)) (hf : zw_FL M.1.cls idx ci j) (hp : zw_FP ci j .int) (hj : (zw_foT.getD ci [])[j]? = some none) (hk : zw_kd o = ci) (k : zw_W l G d M (pc + 3) L st (zw_pI σ o j v) P) : zw_W l G d M pc L (.int v :: .ref o :: st) σ P := zi_putG hd hf hp rfl rfl hj hk k
theorem zi_putZ {o idx ci j : Nat} {v : Int32} (hd : decode M.2.1 pc = .ok (.putfield idx, 3)) (hf : zw_FL M.1.cls idx ci j) (hp : zw_FP ci j .boolean) (hv : v = 0 ∨ v = 1) (hj : (zw_foT.getD ci [])[j]? = some none) (hk : zw_kd o = ci) (k : zw_W l G d M (pc + 3) L st (zw_pI σ o j v) P) : zw_W l G d M pc L (.int v :: .ref o :: st) σ P := zi_putG hd hf hp (by rcases hv with rfl | rfl <;> rfl) (by rcases hv with rfl | rfl <;> rfl) hj hk k
theorem zi_iald {o : Nat} {i : Int32} (hd : decode M.2.1 pc = .ok (.iaload, 1)) (hk : zw_kd o = 10) (hin : vp_in i (zw_ln o)) (k : zw_W l G d M (pc + 1) L (.int (σ.1 o i.toNatClampNeg) :: st) σ P) : zw_W l G d M pc L (.int i :: .ref o :: st) σ P :=
  fun p e R s m args below meth c H locs cells slots Q ls hC hP hS hL hR => by
    have ho : o < 182 := zw_kd_lt (by rw [hk]; omega)
    exact va_iald hC.1 hC.2.1 hC.2.2.2.2.2.2.2.1.1 hP o 0 (by rw [zw_ws_get ho, zw_cell_i hk]) rfl hin hd (k p e R s m args below meth c H locs cells slots Q ls hC hP hS hL hR)
theorem zi_ialdN {o : Nat} {i : Int32} (n : Nat) (hd : decode M.2.1 pc = .ok (.iaload, 1)) (hk : zw_kd o = 10) (hi : i = nI n) (hn : n < zw_ln o) (hl : zw_ln o < 2 ^ 31) (k : zw_W l G d M (pc + 1) L (.int (σ.1 o n) :: st) σ P) : zw_W l G d M pc L (.int i :: .ref o :: st) σ P := by
  subst hi
  refine zi_iald hd hk (vp_in_nI hn hl) ?_
  rw [nI_clamp (Nat.lt_trans hn hl)]
  exact k
theorem zi_iast {o : Nat} {i v : Int32} (hd : decode M.2.1 pc = .ok (.iastore, 1)) (hk : zw_kd o = 10) (hin : vp_in i (zw_ln o)) (k : zw_W l G d M (pc + 1) L st (zw_pI σ o i.toNatClampNeg v) P) : zw_W l G d M pc L (.int v :: .int i :: .ref o :: st) σ P :=
  fun p e R s m args below meth c H locs cells slots Q ls hC hP hS hL hR => by
    have ho : o < 182 := zw_kd_lt (by rw [hk]; omega)
    refine va_iast hC.1 hC.2.1 hC.2.2.2.2.2.2.2.1.1 hP (zw_inD hC.2.2.2.2.2.2.2.1.2.1) hS o 0 (by rw [zw_ws_get ho, zw_cell_i hk]) rfl hin hd (fun H1 locs1 hP1 _ hS1 => ?_)
    rw [zw_ws_ai hk] at hP1
    exact k p e R s m args below meth c H1 locs1 cells slots Q ls hC hP1 hS1 hL hR
theorem zi_iastN {o : Nat} {i v : Int32} (n : Nat) (hd : decode M.2.1 pc = .ok (.iastore, 1)) (hk : zw_kd o = 10) (hi : i = nI n) (hn : n < zw_ln o) (hl : zw_ln o < 2 ^ 31) (k : zw_W l G d M (pc + 1) L st (zw_pI σ o n v) P) : zw_W l G d M pc L (.int v :: .int i :: .ref o :: st) σ P := by
  subst hi
  refine zi_iast hd hk (vp_in_nI hn hl) ?_
  rw [nI_clamp (Nat.lt_trans hn hl)]
  exact k
theorem zi_laldN {o : Nat} {i : Int32} (n : Nat) (hd : decode M.2.1 pc = .ok (.laload, 1)) (hk : zw_kd o = 11) (hi : i = nI n) (hn : n < zw_ln o) (hl : zw_ln o < 2 ^ 31) (k : zw_W l G d M (pc + 1) L (.long (σ.2 o n) :: st) σ P) : zw_W l G d M pc L (.int i :: .ref o :: st) σ P :=
  fun p e R s m args below meth c H locs cells slots Q ls hC hP hS hL hR => by
    have ho : o < 182 := zw_kd_lt (by rw [hk]; omega)
    subst hi
    refine va_lald hC.1 hC.2.1 hC.2.2.2.2.2.2.2.1.1 hP o 1 (by rw [zw_ws_get ho, zw_cell_l hk]) rfl (vp_in_nI hn hl) hd ?_
    rw [nI_clamp (Nat.lt_trans hn hl)]
    exact k p e R s m args below meth c H locs cells slots Q ls hC hP hS hL hR
theorem zi_lastN {o : Nat} {i : Int32} {v : Int64} (n : Nat) (hd : decode M.2.1 pc = .ok (.lastore, 1)) (hk : zw_kd o = 11) (hi : i = nI n) (hn : n < zw_ln o) (hl : zw_ln o < 2 ^ 31) (k : zw_W l G d M (pc + 1) L st (zw_pL σ o n v) P) : zw_W l G d M pc L (.long v :: .int i :: .ref o :: st) σ P :=
  fun p e R s m args below meth c H locs cells slots Q ls hC hP hS hL hR => by
    have ho : o < 182 := zw_kd_lt (by rw [hk]; omega)
    subst hi
    refine va_last hC.1 hC.2.1 hC.2.2.2.2.2.2.2.1.1 hP (zw_inD hC.2.2.2.2.2.2.2.1.2.1) hS o 1 (by rw [zw_ws_get ho, zw_cell_l hk]) rfl (vp_in_nI hn hl) hd (fun H1 locs1 hP1 _ hS1 => ?_)
    rw [nI_clamp (Nat.lt_trans hn hl), zw_ws_al hk] at hP1
    exact k p e R s m args below meth c H1 locs1 cells slots Q ls hC hP1 hS1 hL hR
theorem zi_aaldN {o : Nat} {i : Int32} (c9 n : Nat) (hd : decode M.2.1 pc = .ok (.aaload, 1)) (hk : zw_kd o = 12 + c9) (hc9 : c9 < 3) (hi : i = nI n) (hn : n < zw_ln o) (hl : zw_ln o < 2 ^ 31) (k : zw_W l G d M (pc + 1) L (.ref (zw_er o n) :: st) σ P) : zw_W l G d M pc L (.int i :: .ref o :: st) σ P :=
  fun p e R s m args below meth c H locs cells slots Q ls hC hP hS hL hR => by
    have ho : o < 182 := zw_kd_lt (by rw [hk]; omega)
    subst hi
    have he : (zw_ws G σ)[o]? = some (G.2.2.1 o, .inl (G.2.1 (2 + c9), zw_ln o, .inr (.inr (.inr (.inr (zw_el G o)))))) := by rw [zw_ws_get ho, zw_cell_q hk]
    have hcl : (nI n).toNatClampNeg = n := nI_clamp (Nat.lt_trans hn hl)
    have hread : va_rf (zw_el G o n) = zw_v G (.ref (zw_er o n)) := by unfold zw_el; rw [if_pos hn]; rfl
    have key : ∀ ty : FieldType, (zw_tys G)[2 + c9]? = some (G.2.1 (2 + c9), ty) → ty.isReference = true → W p l e R s m args below meth c H locs cells slots Q (F0 m pc ls ((.int (nI n) :: .ref o :: st).map (zw_v G))) := by
      intro ty hty hrf
      refine W.aald (v := zw_v G (.ref (zw_er o n))) (ty := ty) hC.1 hC.2.1 (hP o _ he) ((hC.2.2.2.2.2.2.2.1.1.2 (2 + c9) _ hty).1 (zw_ln o) (fun j => va_rf (zw_el G o j))) hrf (fun q => by cases q) (by show ¬ (nI n < 0 ∨ (arrV _ _ _).slots.size ≤ _); rw [arrV_size]; exact vp_in_nI hn hl) (by show (arrV _ _ _).slots[_]? = _; rw [hcl, arrV_read _ _ hn, hread]) rfl rfl hd (k p e R s m args below meth c H locs cells slots Q ls hC hP hS hL hR)
    match c9, hc9, key with
    | 0, _, key => exact key _ rfl rfl
    | 1, _, key => exact key _ rfl rfl
    | 2, _, key => exact key _ rfl rfl
theorem zi_alen {o : Nat} (v : Int32) (hd : decode M.2.1 pc = .ok (.arraylength, 1)) (hk : 10 ≤ zw_kd o ∧ zw_kd o < 15) (hv : Int32.ofNat (zw_ln o) = v) (k : zw_W l G d M (pc + 1) L (.int v :: st) σ P) : zw_W l G d M pc L (.ref o :: st) σ P :=
  fun p e R s m args below meth c H locs cells slots Q ls hC hP hS hL hR => by
    have ho : o < 182 := zw_kd_lt (by omega)
    have hK := hC.2.2.2.2.2.2.2.1.1
    rcases (show zw_kd o = 10 ∨ zw_kd o = 11 ∨ zw_kd o = 12 + 0 ∨ zw_kd o = 12 + 1 ∨ zw_kd o = 12 + 2 by omega) with h | h | h | h | h
    · exact va_alen hC.1 hC.2.1 hK hP o 0 (by rw [zw_ws_get ho, zw_cell_i h]) rfl hv hd (k p e R s m args below meth c H locs cells slots Q ls hC hP hS hL hR)
    · exact va_alen hC.1 hC.2.1 hK hP o 1 (by rw [zw_ws_get ho, zw_cell_l h]) rfl hv hd (k p e R s m args below meth c H locs cells slots Q ls hC hP hS hL hR)
    · exact va_alen hC.1 hC.2.1 hK hP o 2 (by rw [zw_ws_get ho, zw_cell_q h]) rfl hv hd (k p e R s m args below meth c H locs cells slots Q ls hC hP hS hL hR)
    · exact va_alen hC.1 hC.2.1 hK hP o 3 (by rw [zw_ws_get ho, zw_cell_q h]) rfl hv hd (k p e R s m args below meth c H locs cells slots Q ls hC hP hS hL hR)
    · exact va_alen hC.1 hC.2.1 hK hP o 4 (by rw [zw_ws_get ho, zw_cell_q h]) rfl hv hd (k p e R s m args below meth c H locs cells slots Q ls hC hP hS hL hR)
/-- the outer arrays: the class's tables, the script -/
theorem zi_xlen {o : Nat} (v : Int32) (hd : decode M.2.1 pc = .ok (.arraylength, 1)) (hk : o = 182 ∨ o = 183 ∨ o = 184) (hv : Int32.ofNat (G.2.2.2 o).1 = v) (k : zw_W l G d M (pc + 1) L (.int v :: st) σ P) : zw_W l G d M pc L (.ref o :: st) σ P :=
  fun p e R s m args below meth c H locs cells slots Q ls hC hP hS hL hR => va_tlen hC.1 hC.2.1 (hC.2.2.2.2.2.2.2.1.2.2.2.2.1 o hk) hS hv hd (k p e R s m args below meth c H locs cells slots Q ls hC hP hS hL hR)
theorem zi_xald {o : Nat} {i : Int32} (n : Nat) (hd : decode M.2.1 pc = .ok (.iaload, 1)) (hk : o = 182 ∨ o = 183 ∨ o = 184) (hi : i = nI n) (hn : n < (G.2.2.2 o).1) (hl : (G.2.2.2 o).1 < 2 ^ 31) (k : zw_W l G d M (pc + 1) L (.int ((G.2.2.2 o).2 n) :: st) σ P) : zw_W l G d M pc L (.int i :: .ref o :: st) σ P :=
  fun p e R s m args below meth c H locs cells slots Q ls hC hP hS hL hR => by
    subst hi
    exact va_ti (v := .int ((G.2.2.2 o).2 n)) hC.1 hC.2.1 (hC.2.2.2.2.2.2.2.1.2.2.2.2.1 o hk) hS (vp_in_nI hn hl) (by rw [nI_clamp (Nat.lt_trans hn hl)]) hd (k p e R s m args below meth c H locs cells slots Q ls hC hP hS hL hR)
theorem zi_gets2 {idx : Nat} {host : String} (hd : decode M.2.1 pc = .ok (.getstatic idx, 3)) (hw : Cond.fieldLinkNest M.1.cls idx "GraftRules" "SECOND_WEIGHT" "[I" host ∈ lw_tbl) (k : zw_W l G d M (pc + 3) L (.ref 182 :: st) σ P) : zw_W l G d M pc L st σ P :=
  fun p e R s m args below meth c H locs cells slots Q ls hC hP hS hL hR => va_getsN hC.1 hC.2.1 hC.2.2.2.2.2.2.2.1.2.2.1 hS hC.2.2.2.2.2.1 (va_Nw.use rfl (hC.2.2.2.2.2.2.2.1.2.2.2.2.2 _ _ _ _ _ _ hw)) (fun _ h9 => h9) hd (k p e R s m args below meth c H locs cells slots Q ls hC hP hS hL hR)
theorem zi_gets3 {idx : Nat} {host : String} (hd : decode M.2.1 pc = .ok (.getstatic idx, 3)) (hw : Cond.fieldLinkNest M.1.cls idx "GraftRules" "THIRD_WEIGHT" "[I" host ∈ lw_tbl) (k : zw_W l G d M (pc + 3) L (.ref 183 :: st) σ P) : zw_W l G d M pc L st σ P :=
  fun p e R s m args below meth c H locs cells slots Q ls hC hP hS hL hR => va_getsN hC.1 hC.2.1 hC.2.2.2.2.2.2.2.1.2.2.2.1 hS hC.2.2.2.2.2.1 (va_Nw.use rfl (hC.2.2.2.2.2.2.2.1.2.2.2.2.2 _ _ _ _ _ _ hw)) (fun _ h9 => h9) hd (k p e R s m args below meth c H locs cells slots Q ls hC hP hS hL hR)
end ZI
end
section
/-- what the tables say of a method that is called on an object of class ci -/
def zw_VM (N : zw_M) (n ci : Nat) : Prop := Cond.instanceMethod N.1 ∈ zw_tb ∧ Cond.selects N.1.cls N.1 N.1 ∈ zw_tb ∧ Cond.initialized N.1.cls ∈ zw_tb ∧ Cond.code N.1 N.2.1 N.2.2.1 N.2.2.2 ∈ zw_tb ∧ (N.1.cls ≠ "java/lang/invoke/MethodHandle" ∧ N.1.cls ≠ "java/lang/invoke/VarHandle" ∧ (parseMethodDescriptor N.1.desc).map (fun d => d.parameters.length) = some n) ∧ N.2.2.1 ≤ 17 ∧ (∃ q, vwCl[ci]? = some q ∧ q.1 = N.1.cls) ∧ ci < 10
/-- .. of a static one -/
def zw_SM (N : zw_M) (n : Nat) : Prop := Cond.static N.1 ∈ zw_tb ∧ Cond.initialized N.1.cls ∈ zw_tb ∧ Cond.code N.1 N.2.1 N.2.2.1 N.2.2.2 ∈ zw_tb ∧ (N.1.cls ≠ "java/lang/invoke/MethodHandle" ∧ N.1.cls ≠ "java/lang/invoke/VarHandle" ∧ (parseMethodDescriptor N.1.desc).map (fun d => d.parameters.length) = some n) ∧ N.2.2.1 ≤ 17
theorem zw_goodIn {N : zw_M} (h : Cond.code N.1 N.2.1 N.2.2.1 N.2.2.2 ∈ zw_tb) : GoodIn zw_tb (zw_wds N) := by
  intro w hw
  have hm : w ∈ zw_tb := by
    rcases List.mem_cons.mp hw with rfl | h2
    · exact h
    · exact h2
  exact ⟨hm, good_of_word (List.mem_filter.mp hm).2⟩
theorem zw_opt (G : zw_G) (r : Option Value) (st : List Value) : (r.map (zw_v G)).toList ++ st.map (zw_v G) = (r.toList ++ st).map (zw_v G) := by cases r <;> rfl
theorem zw_catm (G : zw_G) (st : List Value) : ((st.map (zw_v G)).map fun v => v.category).sum = (st.map fun v => v.category).sum := by
  rw [List.map_map]
  congr 1
  apply List.map_congr_left
  intro v _
  exact zw_cat G v
theorem zw_blind {G : zw_G} {as : List Value} {σ : zw_S} : FrameBlind (va_Pc (as.map (zw_v G)) (fun U => va_P G.1 vwCl (zw_ws G σ) U.heap ∧ zw_K G U U.heap)) :=
  fun a U g mk q => ⟨q.1, q.2.1, zw_K.go q.2.2 (U := U.calling g mk a) (Vm.Alike.refl U.vm) (fun _ _ _ _ _ _ h => va_Nw.same rfl rfl h) (fun _ _ _ => rfl)⟩
section ZC
variable {l : Launch} {G : zw_G} {d : Nat} {M N : zw_M} {pc : Nat} {L : List (Option Value)} {st : List Value} {σ : zw_S} {P P' : Option Value → zw_S → Prop}
theorem zw_pre {s U : State} {H : Heap} {locs : List Loc} (hK : zw_K G s s.heap) (hP : va_P G.1 vwCl (zw_ws G σ) H) (hS : va_S (zw_A G) s.heap H locs) (hU : U.heap = H) (hW : s.WarmedH U.vm) : va_P G.1 vwCl (zw_ws G σ) U.heap ∧ zw_K G U U.heap :=
  ⟨by rw [hU]; exact hP, zw_K.go hK hW.alike (fun _ _ _ _ _ _ h => va_Nw.warmF hW h) (fun a h1 h2 => by rw [hU]; exact hS.2.1 a h1 h2)⟩
/-- behind a call -/
theorem zw_back {p : Program} {e : Env} {R : Room} {s : State} {m : MethodId} {args : Array Value} {below : List Frame} {meth : Method} {c : Code} {H : Heap} {locs : List Loc} {cells slots : Nat} {Q : State → Prop} {ls : Array Slot} {st0 : List Value} {a : Array Value}
    (run : va_Run p l e R s m args below meth c H locs cells slots 0 0 (F0 m pc ls st0) (st.map (zw_v G)) (zw_Q G P' a) (zw_A G)) (hS : va_S (zw_A G) s.heap H locs)
    (kk : ∀ (r : Option Value) (σ' : zw_S) (H1 : Heap) (locs1 : List Loc), P' r σ' → va_P G.1 vwCl (zw_ws G σ') H1 → va_S (zw_A G) s.heap H1 locs1 → W p l e R s m args below meth c H1 locs1 cells slots Q (F0 m (pc + 3) ls ((r.toList ++ st).map (zw_v G)))) : W p l e R s m args below meth c H locs cells slots Q (F0 m pc ls st0) := by
  intro T hT X
  obtain ⟨v, st₀, t, T', Lc, h0, X', hLc, e1, e2, ⟨⟨r, σ', hv, hp, hb⟩, hz, hk⟩, stp⟩ := run T hT X
  cases hv
  rw [h0] at hz hk
  obtain ⟨t2, a1, b1⟩ := kk r σ' T'.heap (locs ++ Lc) hp (by rw [e1]; exact hb) ⟨Nat.le_trans hS.1 (by rw [e1]; exact hz), fun q h1 h2 => by rw [e1, hk q (Nat.lt_of_lt_of_le h1 hS.1) h2]; exact hS.2.1 q h1 h2, fun q hq => by
      rcases List.mem_append.mp hq with h | h
      · exact hS.2.2 q h
      · exact hLc q h⟩ T' rfl X'
  refine ⟨t2, stp t2 ?_, b1⟩
  rw [← zw_opt] at a1
  exact a1
theorem zi_callV {o idx n ci : Nat} {as : List Value} (hv : zw_VM N n ci) (hlk : Cond.methodLink M.1.cls idx N.1 ∈ zw_tb) (hd : decode M.2.1 pc = .ok (.invokevirtual idx, 3)) (hn : as.length = n) (hk : zw_kd o = ci) (hcat : (st.map fun v => v.category).sum ≤ 8) (hM : zw_T l G d N (.ref o :: as) σ P') (k : ∀ r σ', P' r σ' → zw_W l G (d + 1) M (pc + 3) L (r.toList ++ st) σ' P) : zw_W l G (d + 1) M pc L (as.reverse ++ .ref o :: st) σ P :=
  fun p e R s m args below meth c H locs cells slots Q ls hC hP hS hL hR => by
    obtain ⟨hin, hsel, hini, hcd, hnm, hmx, ⟨q9, hq1, hq2⟩, hci⟩ := hv
    have hC' := hC
    obtain ⟨hx, hb, hml, hrt, hlk2, hown, hts, hK, hfr, hlo, hce, hsl⟩ := hC
    have ho : o < 182 := zw_kd_lt (by rw [hk]; omega)
    have cw : CallW R s args M.1.cls N.1.cls idx N.1 N.2.1 N.2.2.1 N.2.2.2 (zw_wds N) (zw_rm d) 0 0 n := ⟨callB_of n hts (zw_goodIn hcd) rfl rfl rfl (hts _ hini) (hts _ hlk) hnm ⟨hfr, by show 8 + (N.2.2.1 + 11) + 36 * d ≤ R.locals; omega⟩, hts _ hin, hts _ hsel⟩
    have hrecv := va_recv hK.1 hP hq1 (by rw [zw_ws_get ho, zw_cell_o hk hci] : (zw_ws G σ)[o]? = some (G.2.2.1 o, .inr (ci, zw_fs G σ o)))
    rw [hq2] at hrecv
    have run := va_runV (l := l) (e := e) (below := below) (meth := meth) (locs := locs) (cells := cells) (slots := slots) (As := as.map (zw_v G)) (rest := st.map (zw_v G)) (b := G.2.2.1 o) (g := F0 m pc ls ((as.reverse ++ .ref o :: st).map (zw_v G))) ⟨hx, hb, hml, hown, hts⟩ hM cw ⟨zw_blind, hrecv, fun U hU hW => ⟨rfl, zw_pre hK hP hS hU hW⟩⟩ rfl (by rw [List.length_map]; exact hn) hL.1 (by rw [List.map_append, List.map_reverse]; rfl) (lv_room (by rw [zw_catm]; exact hcat)) hd ⟨hce, hsl⟩
    exact zw_back run hS (fun r σ' H1 locs1 hp hP1 hS1 => k r σ' hp p e R s m args below meth c H1 locs1 cells slots Q ls hC' hP1 hS1 hL hR)
theorem zi_callS {idx n : Nat} {as : List Value} (hv : zw_SM N n) (hlk : Cond.methodLink M.1.cls idx N.1 ∈ zw_tb) (hd : decode M.2.1 pc = .ok (.invokestatic idx, 3)) (hn : as.length = n) (hcat : (st.map fun v => v.category).sum ≤ 8) (hM : zw_T l G d N as σ P') (k : ∀ r σ', P' r σ' → zw_W l G (d + 1) M (pc + 3) L (r.toList ++ st) σ' P) : zw_W l G (d + 1) M pc L (as.reverse ++ st) σ P :=
  fun p e R s m args below meth c H locs cells slots Q ls hC hP hS hL hR => by
    obtain ⟨hst, hini, hcd, hnm, hmx⟩ := hv
    have hC' := hC
    obtain ⟨hx, hb, hml, hrt, hlk2, hown, hts, hK, hfr, hlo, hce, hsl⟩ := hC
    have cw : CallB R s args M.1.cls idx N.1 N.2.1 N.2.2.1 N.2.2.2 (zw_wds N) (zw_rm d) 0 0 n ∧ (Cond.static N.1).before args s = true := ⟨callB_of n hts (zw_goodIn hcd) rfl rfl rfl (hts _ hini) (hts _ hlk) hnm ⟨hfr, by show 8 + (N.2.2.1 + 11) + 36 * d ≤ R.locals; omega⟩, hts _ hst⟩
    have run := va_runS (l := l) (e := e) (below := below) (meth := meth) (H := H) (locs := locs) (cells := cells) (slots := slots) (As := as.map (zw_v G)) (rest := st.map (zw_v G)) (g := F0 m pc ls ((as.reverse ++ st).map (zw_v G))) ⟨hx, hb, hml, hown, hts⟩ hM cw ⟨zw_blind, fun U hU hW => ⟨rfl, zw_pre hK hP hS hU hW⟩⟩ rfl (by rw [List.length_map]; exact hn) hL.1 (by rw [List.map_append, List.map_reverse]) (lv_room (by rw [zw_catm]; exact hcat)) hd ⟨hce, hsl⟩
    exact zw_back run hS (fun r σ' H1 locs1 hp hP1 hS1 => k r σ' hp p e R s m args below meth c H1 locs1 cells slots Q ls hC' hP1 hS1 hL hR)
/-- System.arraycopy over long rows -/
theorem zi_acopyl {idx s0 d0 : Nat} {sp dp n : Int32} (hlk : Cond.methodLink M.1.cls idx arraycopyName ∈ zw_tb) (hnat : Cond.native arraycopyName ∈ zw_tb) (hstat : Cond.static arraycopyName ∈ zw_tb) (hini : Cond.initialized "java/lang/System" ∈ zw_tb) (hd : decode M.2.1 pc = .ok (.invokestatic idx, 3)) (hk0 : zw_kd s0 = 11) (hk1 : zw_kd d0 = 11) (h1 : ¬ sp < 0) (h2 : ¬ dp < 0) (h3 : ¬ n < 0) (h4 : sp.toNatClampNeg + n.toNatClampNeg ≤ zw_ln s0) (h5 : dp.toNatClampNeg + n.toNatClampNeg ≤ zw_ln d0) (hcat : (st.map fun v => v.category).sum + (nativeFrameWords "java/lang/System" "arraycopy" 5 + 11) ≤ 36 * (d + 1)) (k : zw_W l G (d + 1) M (pc + 3) L st (zw_pLf σ d0 (va_cpy (σ.2 s0) (σ.2 d0) sp.toNatClampNeg dp.toNatClampNeg n.toNatClampNeg)) P) : zw_W l G (d + 1) M pc L (.int n :: .int dp :: .ref d0 :: .int sp :: .ref s0 :: st) σ P :=
  fun p e R s m args below meth c H locs cells slots Q ls hC hP hS hL hR => by
    have hC' := hC
    obtain ⟨hx, hb, hml, hrt, hlk2, hown, hts, hK, hfr, hlo, hce, hsl⟩ := hC
    have ho0 : s0 < 182 := zw_kd_lt (by rw [hk0]; omega)
    have ho1 : d0 < 182 := zw_kd_lt (by rw [hk1]; omega)
    refine va_copyl (l := l) (e := e) (below := below) (meth := meth) hx hb (hml.trans hL.1.symm) hown (hts _ hlk) (hts _ hnat) (hts _ hstat) (hts _ hini) hK.1 hP (zw_inD hK.2.1) hS s0 d0 1 1 (ty := .long) (by rw [zw_ws_get ho0, zw_cell_l hk0]) (by rw [zw_ws_get ho1, zw_cell_l hk1]) rfl rfl rfl h1 h2 h3 h4 h5 (fun i _ => rfl) (by omega) (by show ((st.map (zw_v G)).map fun v => v.category).sum + _ ≤ _; rw [zw_catm]; omega) hd (fun H1 locs1 hP1 _ hS1 => ?_)
    rw [zw_ws_alf hk1] at hP1
    exact k p e R s m args below meth c H1 locs1 cells slots Q ls hC' hP1 hS1 hL hR
theorem zw_T.mono {as : List Value} (h : zw_T l G d N as σ P) (hi : ∀ r σ', P r σ' → P' r σ') : zw_T l G d N as σ P' := by
  intro p e ha hc hk s m args below hf hap hP hKK
  obtain ⟨k, o, h1, h2, h3, hQ⟩ := h p e ha hc hk s m args below hf hap hP hKK
  refine ⟨k, o, h1, h2, h3, ?_⟩
  obtain ⟨⟨⟨r, σ', e1, e2, e3⟩, e4⟩, e5⟩ := hQ
  exact ⟨⟨⟨r, σ', e1, hi r σ' e2, e3⟩, e4⟩, e5⟩
end ZC
abbrev zw_Ti (l : Launch) (G : zw_G) (d : Nat) (M : zw_M) (as : List Value) (σ : zw_S) (P : Int32 → zw_S → Prop) : Prop := zw_T l G d M as σ (fun r σ' => ∃ x, r = some (.int x) ∧ P x σ')
abbrev zw_Tl (l : Launch) (G : zw_G) (d : Nat) (M : zw_M) (as : List Value) (σ : zw_S) (P : Int64 → zw_S → Prop) : Prop := zw_T l G d M as σ (fun r σ' => ∃ x, r = some (.long x) ∧ P x σ')
abbrev zw_Tv (l : Launch) (G : zw_G) (d : Nat) (M : zw_M) (as : List Value) (σ : zw_S) (P : zw_S → Prop) : Prop := zw_T l G d M as σ (fun r σ' => r = none ∧ P σ')
abbrev zw_Tr (l : Launch) (G : zw_G) (d : Nat) (M : zw_M) (as : List Value) (σ : zw_S) (P : Value → zw_S → Prop) : Prop := zw_T l G d M as σ (fun r σ' => ∃ x, r = some x ∧ P x σ')
section ZD
variable {l : Launch} {G : zw_G} {d : Nat} {M N : zw_M} {pc idx ci o : Nat} {L : List (Option Value)} {st : List Value} {σ : zw_S} {P : Option Value → zw_S → Prop}
theorem zi_cV0i {P' : Int32 → zw_S → Prop} (hv : zw_VM N 0 ci) (hlk : Cond.methodLink M.1.cls idx N.1 ∈ zw_tb) (hd : decode M.2.1 pc = .ok (.invokevirtual idx, 3)) (hk : zw_kd o = ci) (hcat : (st.map fun v => v.category).sum ≤ 8) (hM : zw_Ti l G d N [.ref o] σ P') (k : ∀ x σ', P' x σ' → zw_W l G (d + 1) M (pc + 3) L (.int x :: st) σ' P) : zw_W l G (d + 1) M pc L (.ref o :: st) σ P := zi_callV (as := []) hv hlk hd rfl hk hcat hM (fun r σ' h => by obtain ⟨x, rfl, h⟩ := h; exact k x σ' h)
theorem zi_cV0l {P' : Int64 → zw_S → Prop} (hv : zw_VM N 0 ci) (hlk : Cond.methodLink M.1.cls idx N.1 ∈ zw_tb) (hd : decode M.2.1 pc = .ok (.invokevirtual idx, 3)) (hk : zw_kd o = ci) (hcat : (st.map fun v => v.category).sum ≤ 8) (hM : zw_Tl l G d N [.ref o] σ P') (k : ∀ x σ', P' x σ' → zw_W l G (d + 1) M (pc + 3) L (.long x :: st) σ' P) : zw_W l G (d + 1) M pc L (.ref o :: st) σ P := zi_callV (as := []) hv hlk hd rfl hk hcat hM (fun r σ' h => by obtain ⟨x, rfl, h⟩ := h; exact k x σ' h)
theorem zi_cV0r {P' : Value → zw_S → Prop} (hv : zw_VM N 0 ci) (hlk : Cond.methodLink M.1.cls idx N.1 ∈ zw_tb) (hd : decode M.2.1 pc = .ok (.invokevirtual idx, 3)) (hk : zw_kd o = ci) (hcat : (st.map fun v => v.category).sum ≤ 8) (hM : zw_Tr l G d N [.ref o] σ P') (k : ∀ x σ', P' x σ' → zw_W l G (d + 1) M (pc + 3) L (x :: st) σ' P) : zw_W l G (d + 1) M pc L (.ref o :: st) σ P := zi_callV (as := []) hv hlk hd rfl hk hcat hM (fun r σ' h => by obtain ⟨x, rfl, h⟩ := h; exact k x σ' h)
theorem zi_cV0v {P' : zw_S → Prop} (hv : zw_VM N 0 ci) (hlk : Cond.methodLink M.1.cls idx N.1 ∈ zw_tb) (hd : decode M.2.1 pc = .ok (.invokevirtual idx, 3)) (hk : zw_kd o = ci) (hcat : (st.map fun v => v.category).sum ≤ 8) (hM : zw_Tv l G d N [.ref o] σ P') (k : ∀ σ', P' σ' → zw_W l G (d + 1) M (pc + 3) L st σ' P) : zw_W l G (d + 1) M pc L (.ref o :: st) σ P := zi_callV (as := []) hv hlk hd rfl hk hcat hM (fun r σ' h => by obtain ⟨rfl, h⟩ := h; exact k σ' h)
theorem zi_cV1i {a1 : Value} {P' : Int32 → zw_S → Prop} (hv : zw_VM N 1 ci) (hlk : Cond.methodLink M.1.cls idx N.1 ∈ zw_tb) (hd : decode M.2.1 pc = .ok (.invokevirtual idx, 3)) (hk : zw_kd o = ci) (hcat : (st.map fun v => v.category).sum ≤ 8) (hM : zw_Ti l G d N [.ref o, a1] σ P') (k : ∀ x σ', P' x σ' → zw_W l G (d + 1) M (pc + 3) L (.int x :: st) σ' P) : zw_W l G (d + 1) M pc L (a1 :: .ref o :: st) σ P := zi_callV (as := [a1]) hv hlk hd rfl hk hcat hM (fun r σ' h => by obtain ⟨x, rfl, h⟩ := h; exact k x σ' h)
theorem zi_cS1i {a1 : Value} {P' : Int32 → zw_S → Prop} (hv : zw_SM N 1) (hlk : Cond.methodLink M.1.cls idx N.1 ∈ zw_tb) (hd : decode M.2.1 pc = .ok (.invokestatic idx, 3)) (hcat : (st.map fun v => v.category).sum ≤ 8) (hM : zw_Ti l G d N [a1] σ P') (k : ∀ x σ', P' x σ' → zw_W l G (d + 1) M (pc + 3) L (.int x :: st) σ' P) : zw_W l G (d + 1) M pc L (a1 :: st) σ P := zi_callS (as := [a1]) hv hlk hd rfl hcat hM (fun r σ' h => by obtain ⟨x, rfl, h⟩ := h; exact k x σ' h)
theorem zi_cV1l {a1 : Value} {P' : Int64 → zw_S → Prop} (hv : zw_VM N 1 ci) (hlk : Cond.methodLink M.1.cls idx N.1 ∈ zw_tb) (hd : decode M.2.1 pc = .ok (.invokevirtual idx, 3)) (hk : zw_kd o = ci) (hcat : (st.map fun v => v.category).sum ≤ 8) (hM : zw_Tl l G d N [.ref o, a1] σ P') (k : ∀ x σ', P' x σ' → zw_W l G (d + 1) M (pc + 3) L (.long x :: st) σ' P) : zw_W l G (d + 1) M pc L (a1 :: .ref o :: st) σ P := zi_callV (as := [a1]) hv hlk hd rfl hk hcat hM (fun r σ' h => by obtain ⟨x, rfl, h⟩ := h; exact k x σ' h)
theorem zi_cS1l {a1 : Value} {P' : Int64 → zw_S → Prop} (hv : zw_SM N 1) (hlk : Cond.methodLink M.1.cls idx N.1 ∈ zw_tb) (hd : decode M.2.1 pc = .ok (.invokestatic idx, 3)) (hcat : (st.map fun v => v.category).sum ≤ 8) (hM : zw_Tl l G d N [a1] σ P') (k : ∀ x σ', P' x σ' → zw_W l G (d + 1) M (pc + 3) L (.long x :: st) σ' P) : zw_W l G (d + 1) M pc L (a1 :: st) σ P := zi_callS (as := [a1]) hv hlk hd rfl hcat hM (fun r σ' h => by obtain ⟨x, rfl, h⟩ := h; exact k x σ' h)
theorem zi_cV1r {a1 : Value} {P' : Value → zw_S → Prop} (hv : zw_VM N 1 ci) (hlk : Cond.methodLink M.1.cls idx N.1 ∈ zw_tb) (hd : decode M.2.1 pc = .ok (.invokevirtual idx, 3)) (hk : zw_kd o = ci) (hcat : (st.map fun v => v.category).sum ≤ 8) (hM : zw_Tr l G d N [.ref o, a1] σ P') (k : ∀ x σ', P' x σ' → zw_W l G (d + 1) M (pc + 3) L (x :: st) σ' P) : zw_W l G (d + 1) M pc L (a1 :: .ref o :: st) σ P := zi_callV (as := [a1]) hv hlk hd rfl hk hcat hM (fun r σ' h => by obtain ⟨x, rfl, h⟩ := h; exact k x σ' h)
theorem zi_cS1r {a1 : Value} {P' : Value → zw_S → Prop} (hv : zw_SM N 1) (hlk : Cond.methodLink M.1.cls idx N.1 ∈ zw_tb) (hd : decode M.2.1 pc = .ok (.invokestatic idx, 3)) (hcat : (st.map fun v => v.category).sum ≤ 8) (hM : zw_Tr l G d N [a1] σ P') (k : ∀ x σ', P' x σ' → zw_W l G (d + 1) M (pc + 3) L (x :: st) σ' P) : zw_W l G (d + 1) M pc L (a1 :: st) σ P := zi_callS (as := [a1]) hv hlk hd rfl hcat hM (fun r σ' h => by obtain ⟨x, rfl, h⟩ := h; exact k x σ' h)
theorem zi_cV1v {a1 : Value} {P' : zw_S → Prop} (hv : zw_VM N 1 ci) (hlk : Cond.methodLink M.1.cls idx N.1 ∈ zw_tb) (hd : decode M.2.1 pc = .ok (.invokevirtual idx, 3)) (hk : zw_kd o = ci) (hcat : (st.map fun v => v.category).sum ≤ 8) (hM : zw_Tv l G d N [.ref o, a1] σ P') (k : ∀ σ', P' σ' → zw_W l G (d + 1) M (pc + 3) L st σ' P) : zw_W l G (d + 1) M pc L (a1 :: .ref o :: st) σ P := zi_callV (as := [a1]) hv hlk hd rfl hk hcat hM (fun r σ' h => by obtain ⟨rfl, h⟩ := h; exact k σ' h)
theorem zi_cS1v {a1 : Value} {P' : zw_S → Prop} (hv : zw_SM N 1) (hlk : Cond.methodLink M.1.cls idx N.1 ∈ zw_tb) (hd : decode M.2.1 pc = .ok (.invokestatic idx, 3)) (hcat : (st.map fun v => v.category).sum ≤ 8) (hM : zw_Tv l G d N [a1] σ P') (k : ∀ σ', P' σ' → zw_W l G (d + 1) M (pc + 3) L st σ' P) : zw_W l G (d + 1) M pc L (a1 :: st) σ P := zi_callS (as := [a1]) hv hlk hd rfl hcat hM (fun r σ' h => by obtain ⟨rfl, h⟩ := h; exact k σ' h)
theorem zi_cV2i {a1 a2 : Value} {P' : Int32 → zw_S → Prop} (hv : zw_VM N 2 ci) (hlk : Cond.methodLink M.1.cls idx N.1 ∈ zw_tb) (hd : decode M.2.1 pc = .ok (.invokevirtual idx, 3)) (hk : zw_kd o = ci) (hcat : (st.map fun v => v.category).sum ≤ 8) (hM : zw_Ti l G d N [.ref o, a1, a2] σ P') (k : ∀ x σ', P' x σ' → zw_W l G (d + 1) M (pc + 3) L (.int x :: st) σ' P) : zw_W l G (d + 1) M pc L (a2 :: a1 :: .ref o :: st) σ P := zi_callV (as := [a1, a2]) hv hlk hd rfl hk hcat hM (fun r σ' h => by obtain ⟨x, rfl, h⟩ := h; exact k x σ' h)
theorem zi_cS2i {a1 a2 : Value} {P' : Int32 → zw_S → Prop} (hv : zw_SM N 2) (hlk : Cond.methodLink M.1.cls idx N.1 ∈ zw_tb) (hd : decode M.2.1 pc = .ok (.invokestatic idx, 3)) (hcat : (st.map fun v => v.category).sum ≤ 8) (hM : zw_Ti l G d N [a1, a2] σ P') (k : ∀ x σ', P' x σ' → zw_W l G (d + 1) M (pc + 3) L (.int x :: st) σ' P) : zw_W l G (d + 1) M pc L (a2 :: a1 :: st) σ P := zi_callS (as := [a1, a2]) hv hlk hd rfl hcat hM (fun r σ' h => by obtain ⟨x, rfl, h⟩ := h; exact k x σ' h)
theorem zi_cV2l {a1 a2 : Value} {P' : Int64 → zw_S → Prop} (hv : zw_VM N 2 ci) (hlk : Cond.methodLink M.1.cls idx N.1 ∈ zw_tb) (hd : decode M.2.1 pc = .ok (.invokevirtual idx, 3)) (hk : zw_kd o = ci) (hcat : (st.map fun v => v.category).sum ≤ 8) (hM : zw_Tl l G d N [.ref o, a1, a2] σ P') (k : ∀ x σ', P' x σ' → zw_W l G (d + 1) M (pc + 3) L (.long x :: st) σ' P) : zw_W l G (d + 1) M pc L (a2 :: a1 :: .ref o :: st) σ P := zi_callV (as := [a1, a2]) hv hlk hd rfl hk hcat hM (fun r σ' h => by obtain ⟨x, rfl, h⟩ := h; exact k x σ' h)
theorem zi_cS2l {a1 a2 : Value} {P' : Int64 → zw_S → Prop} (hv : zw_SM N 2) (hlk : Cond.methodLink M.1.cls idx N.1 ∈ zw_tb) (hd : decode M.2.1 pc = .ok (.invokestatic idx, 3)) (hcat : (st.map fun v => v.category).sum ≤ 8) (hM : zw_Tl l G d N [a1, a2] σ P') (k : ∀ x σ', P' x σ' → zw_W l G (d + 1) M (pc + 3) L (.long x :: st) σ' P) : zw_W l G (d + 1) M pc L (a2 :: a1 :: st) σ P := zi_callS (as := [a1, a2]) hv hlk hd rfl hcat hM (fun r σ' h => by obtain ⟨x, rfl, h⟩ := h; exact k x σ' h)
theorem zi_cV2r {a1 a2 : Value} {P' : Value → zw_S → Prop} (hv : zw_VM N 2 ci) (hlk : Cond.methodLink M.1.cls idx N.1 ∈ zw_tb) (hd : decode M.2.1 pc = .ok (.invokevirtual idx, 3)) (hk : zw_kd o = ci) (hcat : (st.map fun v => v.category).sum ≤ 8) (hM : zw_Tr l G d N [.ref o, a1, a2] σ P') (k : ∀ x σ', P' x σ' → zw_W l G (d + 1) M (pc + 3) L (x :: st) σ' P) : zw_W l G (d + 1) M pc L (a2 :: a1 :: .ref o :: st) σ P := zi_callV (as := [a1, a2]) hv hlk hd rfl hk hcat hM (fun r σ' h => by obtain ⟨x, rfl, h⟩ := h; exact k x σ' h)
theorem zi_cS2r {a1 a2 : Value} {P' : Value → zw_S → Prop} (hv : zw_SM N 2) (hlk : Cond.methodLink M.1.cls idx N.1 ∈ zw_tb) (hd : decode M.2.1 pc = .ok (.invokestatic idx, 3)) (hcat : (st.map fun v => v.category).sum ≤ 8) (hM : zw_Tr l G d N [a1, a2] σ P') (k : ∀ x σ', P' x σ' → zw_W l G (d + 1) M (pc + 3) L (x :: st) σ' P) : zw_W l G (d + 1) M pc L (a2 :: a1 :: st) σ P := zi_callS (as := [a1, a2]) hv hlk hd rfl hcat hM (fun r σ' h => by obtain ⟨x, rfl, h⟩ := h; exact k x σ' h)
theorem zi_cV2v {a1 a2 : Value} {P' : zw_S → Prop} (hv : zw_VM N 2 ci) (hlk : Cond.methodLink M.1.cls idx N.1 ∈ zw_tb) (hd : decode M.2.1 pc = .ok (.invokevirtual idx, 3)) (hk : zw_kd o = ci) (hcat : (st.map fun v => v.category).sum ≤ 8) (hM : zw_Tv l G d N [.ref o, a1, a2] σ P') (k : ∀ σ', P' σ' → zw_W l G (d + 1) M (pc + 3) L st σ' P) : zw_W l G (d + 1) M pc L (a2 :: a1 :: .ref o :: st) σ P := zi_callV (as := [a1, a2]) hv hlk hd rfl hk hcat hM (fun r σ' h => by obtain ⟨rfl, h⟩ := h; exact k σ' h)
theorem zi_cS2v {a1 a2 : Value} {P' : zw_S → Prop} (hv : zw_SM N 2) (hlk : Cond.methodLink M.1.cls idx N.1 ∈ zw_tb) (hd : decode M.2.1 pc = .ok (.invokestatic idx, 3)) (hcat : (st.map fun v => v.category).sum ≤ 8) (hM : zw_Tv l G d N [a1, a2] σ P') (k : ∀ σ', P' σ' → zw_W l G (d + 1) M (pc + 3) L st σ' P) : zw_W l G (d + 1) M pc L (a2 :: a1 :: st) σ P := zi_callS (as := [a1, a2]) hv hlk hd rfl hcat hM (fun r σ' h => by obtain ⟨rfl, h⟩ := h; exact k σ' h)
theorem zi_cV3i {a1 a2 a3 : Value} {P' : Int32 → zw_S → Prop} (hv : zw_VM N 3 ci) (hlk : Cond.methodLink M.1.cls idx N.1 ∈ zw_tb) (hd : decode M.2.1 pc = .ok (.invokevirtual idx, 3)) (hk : zw_kd o = ci) (hcat : (st.map fun v => v.category).sum ≤ 8) (hM : zw_Ti l G d N [.ref o, a1, a2, a3] σ P') (k : ∀ x σ', P' x σ' → zw_W l G (d + 1) M (pc + 3) L (.int x :: st) σ' P) : zw_W l G (d + 1) M pc L (a3 :: a2 :: a1 :: .ref o :: st) σ P := zi_callV (as := [a1, a2, a3]) hv hlk hd rfl hk hcat hM (fun r σ' h => by obtain ⟨x, rfl, h⟩ := h; exact k x σ' h)
theorem zi_cS3i {a1 a2 a3 : Value} {P' : Int32 → zw_S → Prop} (hv : zw_SM N 3) (hlk : Cond.methodLink M.1.cls idx N.1 ∈ zw_tb) (hd : decode M.2.1 pc = .ok (.invokestatic idx, 3)) (hcat : (st.map fun v => v.category).sum ≤ 8) (hM : zw_Ti l G d N [a1, a2, a3] σ P') (k : ∀ x σ', P' x σ' → zw_W l G (d + 1) M (pc + 3) L (.int x :: st) σ' P) : zw_W l G (d + 1) M pc L (a3 :: a2 :: a1 :: st) σ P := zi_callS (as := [a1, a2, a3]) hv hlk hd rfl hcat hM (fun r σ' h => by obtain ⟨x, rfl, h⟩ := h; exact k x σ' h)
theorem zi_cV3l {a1 a2 a3 : Value} {P' : Int64 → zw_S → Prop} (hv : zw_VM N 3 ci) (hlk : Cond.methodLink M.1.cls idx N.1 ∈ zw_tb) (hd : decode M.2.1 pc = .ok (.invokevirtual idx, 3)) (hk : zw_kd o = ci) (hcat : (st.map fun v => v.category).sum ≤ 8) (hM : zw_Tl l G d N [.ref o, a1, a2, a3] σ P') (k : ∀ x σ', P' x σ' → zw_W l G (d + 1) M (pc + 3) L (.long x :: st) σ' P) : zw_W l G (d + 1) M pc L (a3 :: a2 :: a1 :: .ref o :: st) σ P := zi_callV (as := [a1, a2, a3]) hv hlk hd rfl hk hcat hM (fun r σ' h => by obtain ⟨x, rfl, h⟩ := h; exact k x σ' h)
theorem zi_cS3l {a1 a2 a3 : Value} {P' : Int64 → zw_S → Prop} (hv : zw_SM N 3) (hlk : Cond.methodLink M.1.cls idx N.1 ∈ zw_tb) (hd : decode M.2.1 pc = .ok (.invokestatic idx, 3)) (hcat : (st.map fun v => v.category).sum ≤ 8) (hM : zw_Tl l G d N [a1, a2, a3] σ P') (k : ∀ x σ', P' x σ' → zw_W l G (d + 1) M (pc + 3) L (.long x :: st) σ' P) : zw_W l G (d + 1) M pc L (a3 :: a2 :: a1 :: st) σ P := zi_callS (as := [a1, a2, a3]) hv hlk hd rfl hcat hM (fun r σ' h => by obtain ⟨x, rfl, h⟩ := h; exact k x σ' h)
theorem zi_cV3r {a1 a2 a3 : Value} {P' : Value → zw_S → Prop} (hv : zw_VM N 3 ci) (hlk : Cond.methodLink M.1.cls idx N.1 ∈ zw_tb) (hd : decode M.2.1 pc = .ok (.invokevirtual idx, 3)) (hk : zw_kd o = ci) (hcat : (st.map fun v => v.category).sum ≤ 8) (hM : zw_Tr l G d N [.ref o, a1, a2, a3] σ P') (k : ∀ x σ', P' x σ' → zw_W l G (d + 1) M (pc + 3) L (x :: st) σ' P) : zw_W l G (d + 1) M pc L (a3 :: a2 :: a1 :: .ref o :: st) σ P := zi_callV (as := [a1, a2, a3]) hv hlk hd rfl hk hcat hM (fun r σ' h => by obtain ⟨x, rfl, h⟩ := h; exact k x σ' h)
theorem zi_cS3r {a1 a2 a3 : Value} {P' : Value → zw_S → Prop} (hv : zw_SM N 3) (hlk : Cond.methodLink M.1.cls idx N.1 ∈ zw_tb) (hd : decode M.2.1 pc = .ok (.invokestatic idx, 3)) (hcat : (st.map fun v => v.category).sum ≤ 8) (hM : zw_Tr l G d N [a1, a2, a3] σ P') (k : ∀ x σ', P' x σ' → zw_W l G (d + 1) M (pc + 3) L (x :: st) σ' P) : zw_W l G (d + 1) M pc L (a3 :: a2 :: a1 :: st) σ P := zi_callS (as := [a1, a2, a3]) hv hlk hd rfl hcat hM (fun r σ' h => by obtain ⟨x, rfl, h⟩ := h; exact k x σ' h)
theorem zi_cV3v {a1 a2 a3 : Value} {P' : zw_S → Prop} (hv : zw_VM N 3 ci) (hlk : Cond.methodLink M.1.cls idx N.1 ∈ zw_tb) (hd : decode M.2.1 pc = .ok (.invokevirtual idx, 3)) (hk : zw_kd o = ci) (hcat : (st.map fun v => v.category).sum ≤ 8) (hM : zw_Tv l G d N [.ref o, a1, a2, a3] σ P') (k : ∀ σ', P' σ' → zw_W l G (d + 1) M (pc + 3) L st σ' P) : zw_W l G (d + 1) M pc L (a3 :: a2 :: a1 :: .ref o :: st) σ P := zi_callV (as := [a1, a2, a3]) hv hlk hd rfl hk hcat hM (fun r σ' h => by obtain ⟨rfl, h⟩ := h; exact k σ' h)
theorem zi_cS3v {a1 a2 a3 : Value} {P' : zw_S → Prop} (hv : zw_SM N 3) (hlk : Cond.methodLink M.1.cls idx N.1 ∈ zw_tb) (hd : decode M.2.1 pc = .ok (.invokestatic idx, 3)) (hcat : (st.map fun v => v.category).sum ≤ 8) (hM : zw_Tv l G d N [a1, a2, a3] σ P') (k : ∀ σ', P' σ' → zw_W l G (d + 1) M (pc + 3) L st σ' P) : zw_W l G (d + 1) M pc L (a3 :: a2 :: a1 :: st) σ P := zi_callS (as := [a1, a2, a3]) hv hlk hd rfl hcat hM (fun r σ' h => by obtain ⟨rfl, h⟩ := h; exact k σ' h)
theorem zi_cV4i {a1 a2 a3 a4 : Value} {P' : Int32 → zw_S → Prop} (hv : zw_VM N 4 ci) (hlk : Cond.methodLink M.1.cls idx N.1 ∈ zw_tb) (hd : decode M.2.1 pc = .ok (.invokevirtual idx, 3)) (hk : zw_kd o = ci) (hcat : (st.map fun v => v.category).sum ≤ 8) (hM : zw_Ti l G d N [.ref o, a1, a2, a3, a4] σ P') (k : ∀ x σ', P' x σ' → zw_W l G (d + 1) M (pc + 3) L (.int x :: st) σ' P) : zw_W l G (d + 1) M pc L (a4 :: a3 :: a2 :: a1 :: .ref o :: st) σ P := zi_callV (as := [a1, a2, a3, a4]) hv hlk hd rfl hk hcat hM (fun r σ' h => by obtain ⟨x, rfl, h⟩ := h; exact k x σ' h)
theorem zi_cS4i {a1 a2 a3 a4 : Value} {P' : Int32 → zw_S → Prop} (hv : zw_SM N 4) (hlk : Cond.methodLink M.1.cls idx N.1 ∈ zw_tb) (hd : decode M.2.1 pc = .ok (.invokestatic idx, 3)) (hcat : (st.map fun v => v.category).sum ≤ 8) (hM : zw_Ti l G d N [a1, a2, a3, a4] σ P') (k : ∀ x σ', P' x σ' → zw_W l G (d + 1) M (pc + 3) L (.int x :: st) σ' P) : zw_W l G (d + 1) M pc L (a4 :: a3 :: a2 :: a1 :: st) σ P := zi_callS (as := [a1, a2, a3, a4]) hv hlk hd rfl hcat hM (fun r σ' h => by obtain ⟨x, rfl, h⟩ := h; exact k x σ' h)
theorem zi_cV4l {a1 a2 a3 a4 : Value} {P' : Int64 → zw_S → Prop} (hv : zw_VM N 4 ci) (hlk : Cond.methodLink M.1.cls idx N.1 ∈ zw_tb) (hd : decode M.2.1 pc = .ok (.invokevirtual idx, 3)) (hk : zw_kd o = ci) (hcat : (st.map fun v => v.category).sum ≤ 8) (hM : zw_Tl l G d N [.ref o, a1, a2, a3, a4] σ P') (k : ∀ x σ', P' x σ' → zw_W l G (d + 1) M (pc + 3) L (.long x :: st) σ' P) : zw_W l G (d + 1) M pc L (a4 :: a3 :: a2 :: a1 :: .ref o :: st) σ P := zi_callV (as := [a1, a2, a3, a4]) hv hlk hd rfl hk hcat hM (fun r σ' h => by obtain ⟨x, rfl, h⟩ := h; exact k x σ' h)
theorem zi_cS4l {a1 a2 a3 a4 : Value} {P' : Int64 → zw_S → Prop} (hv : zw_SM N 4) (hlk : Cond.methodLink M.1.cls idx N.1 ∈ zw_tb) (hd : decode M.2.1 pc = .ok (.invokestatic idx, 3)) (hcat : (st.map fun v => v.category).sum ≤ 8) (hM : zw_Tl l G d N [a1, a2, a3, a4] σ P') (k : ∀ x σ', P' x σ' → zw_W l G (d + 1) M (pc + 3) L (.long x :: st) σ' P) : zw_W l G (d + 1) M pc L (a4 :: a3 :: a2 :: a1 :: st) σ P := zi_callS (as := [a1, a2, a3, a4]) hv hlk hd rfl hcat hM (fun r σ' h => by obtain ⟨x, rfl, h⟩ := h; exact k x σ' h)
theorem zi_cV4r {a1 a2 a3 a4 : Value} {P' : Value → zw_S → Prop} (hv : zw_VM N 4 ci) (hlk : Cond.methodLink M.1.cls idx N.1 ∈ zw_tb) (hd : decode M.2.1 pc = .ok (.invokevirtual idx, 3)) (hk : zw_kd o = ci) (hcat : (st.map fun v => v.category).sum ≤ 8) (hM : zw_Tr l G d N [.ref o, a1, a2, a3, a4] σ P') (k : ∀ x σ', P' x σ' → zw_W l G (d + 1) M (pc + 3) L (x :: st) σ' P) : zw_W l G (d + 1) M pc L (a4 :: a3 :: a2 :: a1 :: .ref o :: st) σ P := zi_callV (as := [a1, a2, a3, a4]) hv hlk hd rfl hk hcat hM (fun r σ' h => by obtain ⟨x, rfl, h⟩ := h; exact k x σ' h)
theorem zi_cS4r {a1 a2 a3 a4 : Value} {P' : Value → zw_S → Prop} (hv : zw_SM N 4) (hlk : Cond.methodLink M.1.cls idx N.1 ∈ zw_tb) (hd : decode M.2.1 pc = .ok (.invokestatic idx, 3)) (hcat : (st.map fun v => v.category).sum ≤ 8) (hM : zw_Tr l G d N [a1, a2, a3, a4] σ P') (k : ∀ x σ', P' x σ' → zw_W l G (d + 1) M (pc + 3) L (x :: st) σ' P) : zw_W l G (d + 1) M pc L (a4 :: a3 :: a2 :: a1 :: st) σ P := zi_callS (as := [a1, a2, a3, a4]) hv hlk hd rfl hcat hM (fun r σ' h => by obtain ⟨x, rfl, h⟩ := h; exact k x σ' h)
theorem zi_cV4v {a1 a2 a3 a4 : Value} {P' : zw_S → Prop} (hv : zw_VM N 4 ci) (hlk : Cond.methodLink M.1.cls idx N.1 ∈ zw_tb) (hd : decode M.2.1 pc = .ok (.invokevirtual idx, 3)) (hk : zw_kd o = ci) (hcat : (st.map fun v => v.category).sum ≤ 8) (hM : zw_Tv l G d N [.ref o, a1, a2, a3, a4] σ P') (k : ∀ σ', P' σ' → zw_W l G (d + 1) M (pc + 3) L st σ' P) : zw_W l G (d + 1) M pc L (a4 :: a3 :: a2 :: a1 :: .ref o :: st) σ P := zi_callV (as := [a1, a2, a3, a4]) hv hlk hd rfl hk hcat hM (fun r σ' h => by obtain ⟨rfl, h⟩ := h; exact k σ' h)
theorem zi_cS4v {a1 a2 a3 a4 : Value} {P' : zw_S → Prop} (hv : zw_SM N 4) (hlk : Cond.methodLink M.1.cls idx N.1 ∈ zw_tb) (hd : decode M.2.1 pc = .ok (.invokestatic idx, 3)) (hcat : (st.map fun v => v.category).sum ≤ 8) (hM : zw_Tv l G d N [a1, a2, a3, a4] σ P') (k : ∀ σ', P' σ' → zw_W l G (d + 1) M (pc + 3) L st σ' P) : zw_W l G (d + 1) M pc L (a4 :: a3 :: a2 :: a1 :: st) σ P := zi_callS (as := [a1, a2, a3, a4]) hv hlk hd rfl hcat hM (fun r σ' h => by obtain ⟨rfl, h⟩ := h; exact k σ' h)
end ZD
end
section
abbrev mX0_isFull : zw_M := (yX0_isFull, cX0_isFull, 1, some .boolean)
theorem vmX0_isFull : zw_VM mX0_isFull 0 0 := ⟨zw_tb_of (List.mem_of_getElem? (i := 682) (by decide +kernel)) rfl, zw_tb_of (List.mem_of_getElem? (i := 683) (by decide +kernel)) rfl, zw_tb_of (List.mem_of_getElem? (i := 64) (by decide +kernel)) rfl, zw_tb_of (List.mem_of_getElem? (i := 684) (by decide +kernel)) rfl, ⟨by decide +kernel, by decide +kernel, by decide +kernel⟩, Nat.le_of_ble_eq_true rfl, ⟨_, rfl, rfl⟩, by decide⟩
abbrev mX0_add : zw_M := (yX0_add, cX0_add, 3, none)
theorem vmX0_add : zw_VM mX0_add 2 0 := ⟨zw_tb_of (List.mem_of_getElem? (i := 686) (by decide +kernel)) rfl, zw_tb_of (List.mem_of_getElem? (i := 687) (by decide +kernel)) rfl, zw_tb_of (List.mem_of_getElem? (i := 64) (by decide +kernel)) rfl, zw_tb_of (List.mem_of_getElem? (i := 688) (by decide +kernel)) rfl, ⟨by decide +kernel, by decide +kernel, by decide +kernel⟩, Nat.le_of_ble_eq_true rfl, ⟨_, rfl, rfl⟩, by decide⟩
abbrev mX0_firstWrong : zw_M := (yX0_firstWrong, cX0_firstWrong, 3, some .int)
theorem vmX0_firstWrong : zw_VM mX0_firstWrong 1 0 := ⟨zw_tb_of (List.mem_of_getElem? (i := 460) (by decide +kernel)) rfl, zw_tb_of (List.mem_of_getElem? (i := 461) (by decide +kernel)) rfl, zw_tb_of (List.mem_of_getElem? (i := 64) (by decide +kernel)) rfl, zw_tb_of (List.mem_of_getElem? (i := 462) (by decide +kernel)) rfl, ⟨by decide +kernel, by decide +kernel, by decide +kernel⟩, Nat.le_of_ble_eq_true rfl, ⟨_, rfl, rfl⟩, by decide⟩
abbrev mX1_forget : zw_M := (yX1_forget, cX1_forget, 1, none)
theorem vmX1_forget : zw_VM mX1_forget 0 1 := ⟨zw_tb_of (List.mem_of_getElem? (i := 707) (by decide +kernel)) rfl, zw_tb_of (List.mem_of_getElem? (i := 708) (by decide +kernel)) rfl, zw_tb_of (List.mem_of_getElem? (i := 63) (by decide +kernel)) rfl, zw_tb_of (List.mem_of_getElem? (i := 709) (by decide +kernel)) rfl, ⟨by decide +kernel, by decide +kernel, by decide +kernel⟩, Nat.le_of_ble_eq_true rfl, ⟨_, rfl, rfl⟩, by decide⟩
abbrev mX1_record : zw_M := (yX1_record, cX1_record, 3, none)
theorem vmX1_record : zw_VM mX1_record 1 1 := ⟨zw_tb_of (List.mem_of_getElem? (i := 316) (by decide +kernel)) rfl, zw_tb_of (List.mem_of_getElem? (i := 317) (by decide +kernel)) rfl, zw_tb_of (List.mem_of_getElem? (i := 63) (by decide +kernel)) rfl, zw_tb_of (List.mem_of_getElem? (i := 318) (by decide +kernel)) rfl, ⟨by decide +kernel, by decide +kernel, by decide +kernel⟩, Nat.le_of_ble_eq_true rfl, ⟨_, rfl, rfl⟩, by decide⟩
abbrev mX1_rewind : zw_M := (yX1_rewind, cX1_rewind, 4, none)
theorem vmX1_rewind : zw_VM mX1_rewind 2 1 := ⟨zw_tb_of (List.mem_of_getElem? (i := 670) (by decide +kernel)) rfl, zw_tb_of (List.mem_of_getElem? (i := 671) (by decide +kernel)) rfl, zw_tb_of (List.mem_of_getElem? (i := 63) (by decide +kernel)) rfl, zw_tb_of (List.mem_of_getElem? (i := 672) (by decide +kernel)) rfl, ⟨by decide +kernel, by decide +kernel, by decide +kernel⟩, Nat.le_of_ble_eq_true rfl, ⟨_, rfl, rfl⟩, by decide⟩
abbrev mX1_slotAt : zw_M := (yX1_slotAt, cX1_slotAt, 2, some (.object "GraftRules$State"))
theorem vmX1_slotAt : zw_VM mX1_slotAt 1 1 := ⟨zw_tb_of (List.mem_of_getElem? (i := 321) (by decide +kernel)) rfl, zw_tb_of (List.mem_of_getElem? (i := 1) (by decide +kernel)) rfl, zw_tb_of (List.mem_of_getElem? (i := 63) (by decide +kernel)) rfl, zw_tb_of (List.mem_of_getElem? (i := 322) (by decide +kernel)) rfl, ⟨by decide +kernel, by decide +kernel, by decide +kernel⟩, Nat.le_of_ble_eq_true rfl, ⟨_, rfl, rfl⟩, by decide⟩
abbrev mX3_judgeAll : zw_M := (yX3_judgeAll, cX3_judgeAll, 7, none)
theorem vmX3_judgeAll : zw_VM mX3_judgeAll 1 3 := ⟨zw_tb_of (List.mem_of_getElem? (i := 365) (by decide +kernel)) rfl, zw_tb_of (List.mem_of_getElem? (i := 366) (by decide +kernel)) rfl, zw_tb_of (List.mem_of_getElem? (i := 65) (by decide +kernel)) rfl, zw_tb_of (List.mem_of_getElem? (i := 367) (by decide +kernel)) rfl, ⟨by decide +kernel, by decide +kernel, by decide +kernel⟩, Nat.le_of_ble_eq_true rfl, ⟨_, rfl, rfl⟩, by decide⟩
abbrev mX3_judgeOne : zw_M := (yX3_judgeOne, cX3_judgeOne, 4, none)
theorem vmX3_judgeOne : zw_VM mX3_judgeOne 2 3 := ⟨zw_tb_of (List.mem_of_getElem? (i := 374) (by decide +kernel)) rfl, zw_tb_of (List.mem_of_getElem? (i := 2) (by decide +kernel)) rfl, zw_tb_of (List.mem_of_getElem? (i := 65) (by decide +kernel)) rfl, zw_tb_of (List.mem_of_getElem? (i := 375) (by decide +kernel)) rfl, ⟨by decide +kernel, by decide +kernel, by decide +kernel⟩, Nat.le_of_ble_eq_true rfl, ⟨_, rfl, rfl⟩, by decide⟩
abbrev mX4_isPattern : zw_M := (yX4_isPattern, cX4_isPattern, 1, some .boolean)
theorem smX4_isPattern : zw_SM mX4_isPattern 1 := ⟨zw_tb_of (List.mem_of_getElem? (i := 399) (by decide +kernel)) rfl, zw_tb_of (List.mem_of_getElem? (i := 61) (by decide +kernel)) rfl, zw_tb_of (List.mem_of_getElem? (i := 400) (by decide +kernel)) rfl, ⟨by decide +kernel, by decide +kernel, by decide +kernel⟩, Nat.le_of_ble_eq_true rfl⟩
abbrev mX4_sideOf : zw_M := (yX4_sideOf, cX4_sideOf, 1, some .int)
theorem smX4_sideOf : zw_SM mX4_sideOf 1 := ⟨zw_tb_of (List.mem_of_getElem? (i := 426) (by decide +kernel)) rfl, zw_tb_of (List.mem_of_getElem? (i := 61) (by decide +kernel)) rfl, zw_tb_of (List.mem_of_getElem? (i := 427) (by decide +kernel)) rfl, ⟨by decide +kernel, by decide +kernel, by decide +kernel⟩, Nat.le_of_ble_eq_true rfl⟩
abbrev mX4_fateOf : zw_M := (yX4_fateOf, cX4_fateOf, 2, some .int)
theorem vmX4_fateOf : zw_VM mX4_fateOf 1 4 := ⟨zw_tb_of (List.mem_of_getElem? (i := 395) (by decide +kernel)) rfl, zw_tb_of (List.mem_of_getElem? (i := 396) (by decide +kernel)) rfl, zw_tb_of (List.mem_of_getElem? (i := 61) (by decide +kernel)) rfl, zw_tb_of (List.mem_of_getElem? (i := 397) (by decide +kernel)) rfl, ⟨by decide +kernel, by decide +kernel, by decide +kernel⟩, Nat.le_of_ble_eq_true rfl, ⟨_, rfl, rfl⟩, by decide⟩
abbrev mX4_goalOf : zw_M := (yX4_goalOf, cX4_goalOf, 2, some .int)
theorem vmX4_goalOf : zw_VM mX4_goalOf 1 4 := ⟨zw_tb_of (List.mem_of_getElem? (i := 418) (by decide +kernel)) rfl, zw_tb_of (List.mem_of_getElem? (i := 419) (by decide +kernel)) rfl, zw_tb_of (List.mem_of_getElem? (i := 61) (by decide +kernel)) rfl, zw_tb_of (List.mem_of_getElem? (i := 420) (by decide +kernel)) rfl, ⟨by decide +kernel, by decide +kernel, by decide +kernel⟩, Nat.le_of_ble_eq_true rfl, ⟨_, rfl, rfl⟩, by decide⟩
abbrev mX4_makerOf : zw_M := (yX4_makerOf, cX4_makerOf, 3, some .int)
theorem vmX4_makerOf : zw_VM mX4_makerOf 1 4 := ⟨zw_tb_of (List.mem_of_getElem? (i := 454) (by decide +kernel)) rfl, zw_tb_of (List.mem_of_getElem? (i := 455) (by decide +kernel)) rfl, zw_tb_of (List.mem_of_getElem? (i := 61) (by decide +kernel)) rfl, zw_tb_of (List.mem_of_getElem? (i := 456) (by decide +kernel)) rfl, ⟨by decide +kernel, by decide +kernel, by decide +kernel⟩, Nat.le_of_ble_eq_true rfl, ⟨_, rfl, rfl⟩, by decide⟩
abbrev mX4_put : zw_M := (yX4_put, cX4_put, 4, none)
theorem vmX4_put : zw_VM mX4_put 3 4 := ⟨zw_tb_of (List.mem_of_getElem? (i := 618) (by decide +kernel)) rfl, zw_tb_of (List.mem_of_getElem? (i := 619) (by decide +kernel)) rfl, zw_tb_of (List.mem_of_getElem? (i := 61) (by decide +kernel)) rfl, zw_tb_of (List.mem_of_getElem? (i := 620) (by decide +kernel)) rfl, ⟨by decide +kernel, by decide +kernel, by decide +kernel⟩, Nat.le_of_ble_eq_true rfl, ⟨_, rfl, rfl⟩, by decide⟩
abbrev mX4_allows : zw_M := (yX4_allows, cX4_allows, 5, some .boolean)
theorem vmX4_allows : zw_VM mX4_allows 3 4 := ⟨zw_tb_of (List.mem_of_getElem? (i := 614) (by decide +kernel)) rfl, zw_tb_of (List.mem_of_getElem? (i := 615) (by decide +kernel)) rfl, zw_tb_of (List.mem_of_getElem? (i := 61) (by decide +kernel)) rfl, zw_tb_of (List.mem_of_getElem? (i := 616) (by decide +kernel)) rfl, ⟨by decide +kernel, by decide +kernel, by decide +kernel⟩, Nat.le_of_ble_eq_true rfl, ⟨_, rfl, rfl⟩, by decide⟩
abbrev mX4_bound : zw_M := (yX4_bound, cX4_bound, 3, some .int)
theorem vmX4_bound : zw_VM mX4_bound 0 4 := ⟨zw_tb_of (List.mem_of_getElem? (i := 634) (by decide +kernel)) rfl, zw_tb_of (List.mem_of_getElem? (i := 635) (by decide +kernel)) rfl, zw_tb_of (List.mem_of_getElem? (i := 61) (by decide +kernel)) rfl, zw_tb_of (List.mem_of_getElem? (i := 636) (by decide +kernel)) rfl, ⟨by decide +kernel, by decide +kernel, by decide +kernel⟩, Nat.le_of_ble_eq_true rfl, ⟨_, rfl, rfl⟩, by decide⟩
abbrev mX4_release : zw_M := (yX4_release, cX4_release, 2, none)
theorem vmX4_release : zw_VM mX4_release 0 4 := ⟨zw_tb_of (List.mem_of_getElem? (i := 638) (by decide +kernel)) rfl, zw_tb_of (List.mem_of_getElem? (i := 639) (by decide +kernel)) rfl, zw_tb_of (List.mem_of_getElem? (i := 61) (by decide +kernel)) rfl, zw_tb_of (List.mem_of_getElem? (i := 640) (by decide +kernel)) rfl, ⟨by decide +kernel, by decide +kernel, by decide +kernel⟩, Nat.le_of_ble_eq_true rfl, ⟨_, rfl, rfl⟩, by decide⟩
abbrev mX4_dualFate : zw_M := (yX4_dualFate, cX4_dualFate, 3, some .int)
theorem vmX4_dualFate : zw_VM mX4_dualFate 1 4 := ⟨zw_tb_of (List.mem_of_getElem? (i := 449) (by decide +kernel)) rfl, zw_tb_of (List.mem_of_getElem? (i := 450) (by decide +kernel)) rfl, zw_tb_of (List.mem_of_getElem? (i := 61) (by decide +kernel)) rfl, zw_tb_of (List.mem_of_getElem? (i := 451) (by decide +kernel)) rfl, ⟨by decide +kernel, by decide +kernel, by decide +kernel⟩, Nat.le_of_ble_eq_true rfl, ⟨_, rfl, rfl⟩, by decide⟩
abbrev mX4_isOwnDual : zw_M := (yX4_isOwnDual, cX4_isOwnDual, 2, some .boolean)
theorem vmX4_isOwnDual : zw_VM mX4_isOwnDual 0 4 := ⟨zw_tb_of (List.mem_of_getElem? (i := 445) (by decide +kernel)) rfl, zw_tb_of (List.mem_of_getElem? (i := 446) (by decide +kernel)) rfl, zw_tb_of (List.mem_of_getElem? (i := 61) (by decide +kernel)) rfl, zw_tb_of (List.mem_of_getElem? (i := 447) (by decide +kernel)) rfl, ⟨by decide +kernel, by decide +kernel, by decide +kernel⟩, Nat.le_of_ble_eq_true rfl, ⟨_, rfl, rfl⟩, by decide⟩
abbrev mX4_turnDual : zw_M := (yX4_turnDual, cX4_turnDual, 2, none)
theorem vmX4_turnDual : zw_VM mX4_turnDual 0 4 := ⟨zw_tb_of (List.mem_of_getElem? (i := 626) (by decide +kernel)) rfl, zw_tb_of (List.mem_of_getElem? (i := 627) (by decide +kernel)) rfl, zw_tb_of (List.mem_of_getElem? (i := 61) (by decide +kernel)) rfl, zw_tb_of (List.mem_of_getElem? (i := 628) (by decide +kernel)) rfl, ⟨by decide +kernel, by decide +kernel, by decide +kernel⟩, Nat.le_of_ble_eq_true rfl, ⟨_, rfl, rfl⟩, by decide⟩
abbrev mX4_copyFrom : zw_M := (yX4_copyFrom, cX4_copyFrom, 3, none)
theorem vmX4_copyFrom : zw_VM mX4_copyFrom 1 4 := ⟨zw_tb_of (List.mem_of_getElem? (i := 328) (by decide +kernel)) rfl, zw_tb_of (List.mem_of_getElem? (i := 329) (by decide +kernel)) rfl, zw_tb_of (List.mem_of_getElem? (i := 61) (by decide +kernel)) rfl, zw_tb_of (List.mem_of_getElem? (i := 330) (by decide +kernel)) rfl, ⟨by decide +kernel, by decide +kernel, by decide +kernel⟩, Nat.le_of_ble_eq_true rfl, ⟨_, rfl, rfl⟩, by decide⟩
abbrev mX5_covers : zw_M := (yX5_covers, cX5_covers, 1, some .boolean)
theorem smX5_covers : zw_SM mX5_covers 1 := ⟨zw_tb_of (List.mem_of_getElem? (i := 533) (by decide +kernel)) rfl, zw_tb_of (List.mem_of_getElem? (i := 67) (by decide +kernel)) rfl, zw_tb_of (List.mem_of_getElem? (i := 534) (by decide +kernel)) rfl, ⟨by decide +kernel, by decide +kernel, by decide +kernel⟩, Nat.le_of_ble_eq_true rfl⟩
abbrev mX5_countTrees : zw_M := (yX5_countTrees, cX5_countTrees, 4, none)
theorem vmX5_countTrees : zw_VM mX5_countTrees 1 5 := ⟨zw_tb_of (List.mem_of_getElem? (i := 537) (by decide +kernel)) rfl, zw_tb_of (List.mem_of_getElem? (i := 538) (by decide +kernel)) rfl, zw_tb_of (List.mem_of_getElem? (i := 67) (by decide +kernel)) rfl, zw_tb_of (List.mem_of_getElem? (i := 539) (by decide +kernel)) rfl, ⟨by decide +kernel, by decide +kernel, by decide +kernel⟩, Nat.le_of_ble_eq_true rfl, ⟨_, rfl, rfl⟩, by decide⟩
abbrev mX5_countRooted : zw_M := (yX5_countRooted, cX5_countRooted, 7, some .long)
theorem vmX5_countRooted : zw_VM mX5_countRooted 3 5 := ⟨zw_tb_of (List.mem_of_getElem? (i := 542) (by decide +kernel)) rfl, zw_tb_of (List.mem_of_getElem? (i := 6) (by decide +kernel)) rfl, zw_tb_of (List.mem_of_getElem? (i := 67) (by decide +kernel)) rfl, zw_tb_of (List.mem_of_getElem? (i := 543) (by decide +kernel)) rfl, ⟨by decide +kernel, by decide +kernel, by decide +kernel⟩, Nat.le_of_ble_eq_true rfl, ⟨_, rfl, rfl⟩, by decide⟩
abbrev mX5_countBranches : zw_M := (yX5_countBranches, cX5_countBranches, 8, some .long)
theorem vmX5_countBranches : zw_VM mX5_countBranches 4 5 := ⟨zw_tb_of (List.mem_of_getElem? (i := 546) (by decide +kernel)) rfl, zw_tb_of (List.mem_of_getElem? (i := 7) (by decide +kernel)) rfl, zw_tb_of (List.mem_of_getElem? (i := 67) (by decide +kernel)) rfl, zw_tb_of (List.mem_of_getElem? (i := 547) (by decide +kernel)) rfl, ⟨by decide +kernel, by decide +kernel, by decide +kernel⟩, Nat.le_of_ble_eq_true rfl, ⟨_, rfl, rfl⟩, by decide⟩
abbrev mX5_undoTrees : zw_M := (yX5_undoTrees, cX5_undoTrees, 5, none)
theorem vmX5_undoTrees : zw_VM mX5_undoTrees 0 5 := ⟨zw_tb_of (List.mem_of_getElem? (i := 554) (by decide +kernel)) rfl, zw_tb_of (List.mem_of_getElem? (i := 555) (by decide +kernel)) rfl, zw_tb_of (List.mem_of_getElem? (i := 67) (by decide +kernel)) rfl, zw_tb_of (List.mem_of_getElem? (i := 556) (by decide +kernel)) rfl, ⟨by decide +kernel, by decide +kernel, by decide +kernel⟩, Nat.le_of_ble_eq_true rfl, ⟨_, rfl, rfl⟩, by decide⟩
abbrev mX5_raisePower : zw_M := (yX5_raisePower, cX5_raisePower, 5, none)
theorem vmX5_raisePower : zw_VM mX5_raisePower 0 5 := ⟨zw_tb_of (List.mem_of_getElem? (i := 565) (by decide +kernel)) rfl, zw_tb_of (List.mem_of_getElem? (i := 8) (by decide +kernel)) rfl, zw_tb_of (List.mem_of_getElem? (i := 67) (by decide +kernel)) rfl, zw_tb_of (List.mem_of_getElem? (i := 566) (by decide +kernel)) rfl, ⟨by decide +kernel, by decide +kernel, by decide +kernel⟩, Nat.le_of_ble_eq_true rfl, ⟨_, rfl, rfl⟩, by decide⟩
abbrev mX6_has : zw_M := (yX6_has, cX6_has, 2, some .boolean)
theorem vmX6_has : zw_VM mX6_has 1 6 := ⟨zw_tb_of (List.mem_of_getElem? (i := 345) (by decide +kernel)) rfl, zw_tb_of (List.mem_of_getElem? (i := 346) (by decide +kernel)) rfl, zw_tb_of (List.mem_of_getElem? (i := 60) (by decide +kernel)) rfl, zw_tb_of (List.mem_of_getElem? (i := 347) (by decide +kernel)) rfl, ⟨by decide +kernel, by decide +kernel, by decide +kernel⟩, Nat.le_of_ble_eq_true rfl, ⟨_, rfl, rfl⟩, by decide⟩
abbrev mX6_isFull : zw_M := (yX6_isFull, cX6_isFull, 1, some .boolean)
theorem vmX6_isFull : zw_VM mX6_isFull 0 6 := ⟨zw_tb_of (List.mem_of_getElem? (i := 297) (by decide +kernel)) rfl, zw_tb_of (List.mem_of_getElem? (i := 298) (by decide +kernel)) rfl, zw_tb_of (List.mem_of_getElem? (i := 60) (by decide +kernel)) rfl, zw_tb_of (List.mem_of_getElem? (i := 299) (by decide +kernel)) rfl, ⟨by decide +kernel, by decide +kernel, by decide +kernel⟩, Nat.le_of_ble_eq_true rfl, ⟨_, rfl, rfl⟩, by decide⟩
abbrev mX6_codeOf : zw_M := (yX6_codeOf, cX6_codeOf, 2, some .int)
theorem vmX6_codeOf : zw_VM mX6_codeOf 1 6 := ⟨zw_tb_of (List.mem_of_getElem? (i := 465) (by decide +kernel)) rfl, zw_tb_of (List.mem_of_getElem? (i := 466) (by decide +kernel)) rfl, zw_tb_of (List.mem_of_getElem? (i := 60) (by decide +kernel)) rfl, zw_tb_of (List.mem_of_getElem? (i := 467) (by decide +kernel)) rfl, ⟨by decide +kernel, by decide +kernel, by decide +kernel⟩, Nat.le_of_ble_eq_true rfl, ⟨_, rfl, rfl⟩, by decide⟩
abbrev mX6_signOf : zw_M := (yX6_signOf, cX6_signOf, 2, some .int)
theorem vmX6_signOf : zw_VM mX6_signOf 1 6 := ⟨zw_tb_of (List.mem_of_getElem? (i := 480) (by decide +kernel)) rfl, zw_tb_of (List.mem_of_getElem? (i := 481) (by decide +kernel)) rfl, zw_tb_of (List.mem_of_getElem? (i := 60) (by decide +kernel)) rfl, zw_tb_of (List.mem_of_getElem? (i := 482) (by decide +kernel)) rfl, ⟨by decide +kernel, by decide +kernel, by decide +kernel⟩, Nat.le_of_ble_eq_true rfl, ⟨_, rfl, rfl⟩, by decide⟩
abbrev mX6_lend : zw_M := (yX6_lend, cX6_lend, 3, none)
theorem vmX6_lend : zw_VM mX6_lend 2 6 := ⟨zw_tb_of (List.mem_of_getElem? (i := 475) (by decide +kernel)) rfl, zw_tb_of (List.mem_of_getElem? (i := 476) (by decide +kernel)) rfl, zw_tb_of (List.mem_of_getElem? (i := 60) (by decide +kernel)) rfl, zw_tb_of (List.mem_of_getElem? (i := 477) (by decide +kernel)) rfl, ⟨by decide +kernel, by decide +kernel, by decide +kernel⟩, Nat.le_of_ble_eq_true rfl, ⟨_, rfl, rfl⟩, by decide⟩
abbrev mX6_put : zw_M := (yX6_put, cX6_put, 3, none)
theorem vmX6_put : zw_VM mX6_put 2 6 := ⟨zw_tb_of (List.mem_of_getElem? (i := 341) (by decide +kernel)) rfl, zw_tb_of (List.mem_of_getElem? (i := 342) (by decide +kernel)) rfl, zw_tb_of (List.mem_of_getElem? (i := 60) (by decide +kernel)) rfl, zw_tb_of (List.mem_of_getElem? (i := 343) (by decide +kernel)) rfl, ⟨by decide +kernel, by decide +kernel, by decide +kernel⟩, Nat.le_of_ble_eq_true rfl, ⟨_, rfl, rfl⟩, by decide⟩
abbrev mX6_add : zw_M := (yX6_add, cX6_add, 2, some .int)
theorem vmX6_add : zw_VM mX6_add 1 6 := ⟨zw_tb_of (List.mem_of_getElem? (i := 335) (by decide +kernel)) rfl, zw_tb_of (List.mem_of_getElem? (i := 336) (by decide +kernel)) rfl, zw_tb_of (List.mem_of_getElem? (i := 60) (by decide +kernel)) rfl, zw_tb_of (List.mem_of_getElem? (i := 337) (by decide +kernel)) rfl, ⟨by decide +kernel, by decide +kernel, by decide +kernel⟩, Nat.le_of_ble_eq_true rfl, ⟨_, rfl, rfl⟩, by decide⟩
abbrev mX6_remove : zw_M := (yX6_remove, cX6_remove, 3, none)
theorem vmX6_remove : zw_VM mX6_remove 1 6 := ⟨zw_tb_of (List.mem_of_getElem? (i := 606) (by decide +kernel)) rfl, zw_tb_of (List.mem_of_getElem? (i := 607) (by decide +kernel)) rfl, zw_tb_of (List.mem_of_getElem? (i := 60) (by decide +kernel)) rfl, zw_tb_of (List.mem_of_getElem? (i := 608) (by decide +kernel)) rfl, ⟨by decide +kernel, by decide +kernel, by decide +kernel⟩, Nat.le_of_ble_eq_true rfl, ⟨_, rfl, rfl⟩, by decide⟩
abbrev mX6_copyFrom : zw_M := (yX6_copyFrom, cX6_copyFrom, 3, none)
theorem vmX6_copyFrom : zw_VM mX6_copyFrom 1 6 := ⟨zw_tb_of (List.mem_of_getElem? (i := 324) (by decide +kernel)) rfl, zw_tb_of (List.mem_of_getElem? (i := 325) (by decide +kernel)) rfl, zw_tb_of (List.mem_of_getElem? (i := 60) (by decide +kernel)) rfl, zw_tb_of (List.mem_of_getElem? (i := 326) (by decide +kernel)) rfl, ⟨by decide +kernel, by decide +kernel, by decide +kernel⟩, Nat.le_of_ble_eq_true rfl, ⟨_, rfl, rfl⟩, by decide⟩
abbrev mX7_open : zw_M := (yX7_open, cX7_open, 1, none)
theorem vmX7_open : zw_VM mX7_open 0 7 := ⟨zw_tb_of (List.mem_of_getElem? (i := 305) (by decide +kernel)) rfl, zw_tb_of (List.mem_of_getElem? (i := 306) (by decide +kernel)) rfl, zw_tb_of (List.mem_of_getElem? (i := 66) (by decide +kernel)) rfl, zw_tb_of (List.mem_of_getElem? (i := 307) (by decide +kernel)) rfl, ⟨by decide +kernel, by decide +kernel, by decide +kernel⟩, Nat.le_of_ble_eq_true rfl, ⟨_, rfl, rfl⟩, by decide⟩
abbrev mX7_append : zw_M := (yX7_append, cX7_append, 2, none)
theorem vmX7_append : zw_VM mX7_append 1 7 := ⟨zw_tb_of (List.mem_of_getElem? (i := 312) (by decide +kernel)) rfl, zw_tb_of (List.mem_of_getElem? (i := 313) (by decide +kernel)) rfl, zw_tb_of (List.mem_of_getElem? (i := 66) (by decide +kernel)) rfl, zw_tb_of (List.mem_of_getElem? (i := 314) (by decide +kernel)) rfl, ⟨by decide +kernel, by decide +kernel, by decide +kernel⟩, Nat.le_of_ble_eq_true rfl, ⟨_, rfl, rfl⟩, by decide⟩
abbrev mX7_becomeLeaf : zw_M := (yX7_becomeLeaf, cX7_becomeLeaf, 2, none)
theorem vmX7_becomeLeaf : zw_VM mX7_becomeLeaf 1 7 := ⟨zw_tb_of (List.mem_of_getElem? (i := 414) (by decide +kernel)) rfl, zw_tb_of (List.mem_of_getElem? (i := 415) (by decide +kernel)) rfl, zw_tb_of (List.mem_of_getElem? (i := 66) (by decide +kernel)) rfl, zw_tb_of (List.mem_of_getElem? (i := 416) (by decide +kernel)) rfl, ⟨by decide +kernel, by decide +kernel, by decide +kernel⟩, Nat.le_of_ble_eq_true rfl, ⟨_, rfl, rfl⟩, by decide⟩
abbrev mX7_becomeNode : zw_M := (yX7_becomeNode, cX7_becomeNode, 2, none)
theorem vmX7_becomeNode : zw_VM mX7_becomeNode 1 7 := ⟨zw_tb_of (List.mem_of_getElem? (i := 658) (by decide +kernel)) rfl, zw_tb_of (List.mem_of_getElem? (i := 659) (by decide +kernel)) rfl, zw_tb_of (List.mem_of_getElem? (i := 66) (by decide +kernel)) rfl, zw_tb_of (List.mem_of_getElem? (i := 660) (by decide +kernel)) rfl, ⟨by decide +kernel, by decide +kernel, by decide +kernel⟩, Nat.le_of_ble_eq_true rfl, ⟨_, rfl, rfl⟩, by decide⟩
abbrev mX7_copyFrom : zw_M := (yX7_copyFrom, cX7_copyFrom, 3, none)
theorem vmX7_copyFrom : zw_VM mX7_copyFrom 1 7 := ⟨zw_tb_of (List.mem_of_getElem? (i := 402) (by decide +kernel)) rfl, zw_tb_of (List.mem_of_getElem? (i := 403) (by decide +kernel)) rfl, zw_tb_of (List.mem_of_getElem? (i := 66) (by decide +kernel)) rfl, zw_tb_of (List.mem_of_getElem? (i := 404) (by decide +kernel)) rfl, ⟨by decide +kernel, by decide +kernel, by decide +kernel⟩, Nat.le_of_ble_eq_true rfl, ⟨_, rfl, rfl⟩, by decide⟩
abbrev mX7_readCode : zw_M := (yX7_readCode, cX7_readCode, 5, none)
theorem vmX7_readCode : zw_VM mX7_readCode 2 7 := ⟨zw_tb_of (List.mem_of_getElem? (i := 377) (by decide +kernel)) rfl, zw_tb_of (List.mem_of_getElem? (i := 378) (by decide +kernel)) rfl, zw_tb_of (List.mem_of_getElem? (i := 66) (by decide +kernel)) rfl, zw_tb_of (List.mem_of_getElem? (i := 379) (by decide +kernel)) rfl, ⟨by decide +kernel, by decide +kernel, by decide +kernel⟩, Nat.le_of_ble_eq_true rfl, ⟨_, rfl, rfl⟩, by decide⟩
abbrev mX7_codeNow : zw_M := (yX7_codeNow, cX7_codeNow, 3, some .int)
theorem vmX7_codeNow : zw_VM mX7_codeNow 0 7 := ⟨zw_tb_of (List.mem_of_getElem? (i := 349) (by decide +kernel)) rfl, zw_tb_of (List.mem_of_getElem? (i := 350) (by decide +kernel)) rfl, zw_tb_of (List.mem_of_getElem? (i := 66) (by decide +kernel)) rfl, zw_tb_of (List.mem_of_getElem? (i := 351) (by decide +kernel)) rfl, ⟨by decide +kernel, by decide +kernel, by decide +kernel⟩, Nat.le_of_ble_eq_true rfl, ⟨_, rfl, rfl⟩, by decide⟩
abbrev mX7_figureAt : zw_M := (yX7_figureAt, cX7_figureAt, 2, some .int)
theorem vmX7_figureAt : zw_VM mX7_figureAt 1 7 := ⟨zw_tb_of (List.mem_of_getElem? (i := 353) (by decide +kernel)) rfl, zw_tb_of (List.mem_of_getElem? (i := 354) (by decide +kernel)) rfl, zw_tb_of (List.mem_of_getElem? (i := 66) (by decide +kernel)) rfl, zw_tb_of (List.mem_of_getElem? (i := 355) (by decide +kernel)) rfl, ⟨by decide +kernel, by decide +kernel, by decide +kernel⟩, Nat.le_of_ble_eq_true rfl, ⟨_, rfl, rfl⟩, by decide⟩
abbrev mX7_putFigure : zw_M := (yX7_putFigure, cX7_putFigure, 3, none)
theorem vmX7_putFigure : zw_VM mX7_putFigure 2 7 := ⟨zw_tb_of (List.mem_of_getElem? (i := 429) (by decide +kernel)) rfl, zw_tb_of (List.mem_of_getElem? (i := 430) (by decide +kernel)) rfl, zw_tb_of (List.mem_of_getElem? (i := 66) (by decide +kernel)) rfl, zw_tb_of (List.mem_of_getElem? (i := 431) (by decide +kernel)) rfl, ⟨by decide +kernel, by decide +kernel, by decide +kernel⟩, Nat.le_of_ble_eq_true rfl, ⟨_, rfl, rfl⟩, by decide⟩
abbrev mX7_isNode : zw_M := (yX7_isNode, cX7_isNode, 2, some .boolean)
theorem vmX7_isNode : zw_VM mX7_isNode 1 7 := ⟨zw_tb_of (List.mem_of_getElem? (i := 505) (by decide +kernel)) rfl, zw_tb_of (List.mem_of_getElem? (i := 506) (by decide +kernel)) rfl, zw_tb_of (List.mem_of_getElem? (i := 66) (by decide +kernel)) rfl, zw_tb_of (List.mem_of_getElem? (i := 507) (by decide +kernel)) rfl, ⟨by decide +kernel, by decide +kernel, by decide +kernel⟩, Nat.le_of_ble_eq_true rfl, ⟨_, rfl, rfl⟩, by decide⟩
abbrev mX7_nodes : zw_M := (yX7_nodes, cX7_nodes, 1, some .int)
theorem vmX7_nodes : zw_VM mX7_nodes 0 7 := ⟨zw_tb_of (List.mem_of_getElem? (i := 486) (by decide +kernel)) rfl, zw_tb_of (List.mem_of_getElem? (i := 487) (by decide +kernel)) rfl, zw_tb_of (List.mem_of_getElem? (i := 66) (by decide +kernel)) rfl, zw_tb_of (List.mem_of_getElem? (i := 488) (by decide +kernel)) rfl, ⟨by decide +kernel, by decide +kernel, by decide +kernel⟩, Nat.le_of_ble_eq_true rfl, ⟨_, rfl, rfl⟩, by decide⟩
abbrev mX7_leaves : zw_M := (yX7_leaves, cX7_leaves, 1, some .int)
theorem vmX7_leaves : zw_VM mX7_leaves 0 7 := ⟨zw_tb_of (List.mem_of_getElem? (i := 662) (by decide +kernel)) rfl, zw_tb_of (List.mem_of_getElem? (i := 663) (by decide +kernel)) rfl, zw_tb_of (List.mem_of_getElem? (i := 66) (by decide +kernel)) rfl, zw_tb_of (List.mem_of_getElem? (i := 664) (by decide +kernel)) rfl, ⟨by decide +kernel, by decide +kernel, by decide +kernel⟩, Nat.le_of_ble_eq_true rfl, ⟨_, rfl, rfl⟩, by decide⟩
abbrev mX7_equalTo : zw_M := (yX7_equalTo, cX7_equalTo, 2, some .boolean)
theorem vmX7_equalTo : zw_VM mX7_equalTo 1 7 := ⟨zw_tb_of (List.mem_of_getElem? (i := 439) (by decide +kernel)) rfl, zw_tb_of (List.mem_of_getElem? (i := 440) (by decide +kernel)) rfl, zw_tb_of (List.mem_of_getElem? (i := 66) (by decide +kernel)) rfl, zw_tb_of (List.mem_of_getElem? (i := 441) (by decide +kernel)) rfl, ⟨by decide +kernel, by decide +kernel, by decide +kernel⟩, Nat.le_of_ble_eq_true rfl, ⟨_, rfl, rfl⟩, by decide⟩
abbrev mX7_endOf : zw_M := (yX7_endOf, cX7_endOf, 4, some .int)
theorem vmX7_endOf : zw_VM mX7_endOf 1 7 := ⟨zw_tb_of (List.mem_of_getElem? (i := 391) (by decide +kernel)) rfl, zw_tb_of (List.mem_of_getElem? (i := 392) (by decide +kernel)) rfl, zw_tb_of (List.mem_of_getElem? (i := 66) (by decide +kernel)) rfl, zw_tb_of (List.mem_of_getElem? (i := 393) (by decide +kernel)) rfl, ⟨by decide +kernel, by decide +kernel, by decide +kernel⟩, Nat.le_of_ble_eq_true rfl, ⟨_, rfl, rfl⟩, by decide⟩
abbrev mX7_leafAt : zw_M := (yX7_leafAt, cX7_leafAt, 4, some .int)
theorem vmX7_leafAt : zw_VM mX7_leafAt 1 7 := ⟨zw_tb_of (List.mem_of_getElem? (i := 572) (by decide +kernel)) rfl, zw_tb_of (List.mem_of_getElem? (i := 573) (by decide +kernel)) rfl, zw_tb_of (List.mem_of_getElem? (i := 66) (by decide +kernel)) rfl, zw_tb_of (List.mem_of_getElem? (i := 574) (by decide +kernel)) rfl, ⟨by decide +kernel, by decide +kernel, by decide +kernel⟩, Nat.le_of_ble_eq_true rfl, ⟨_, rfl, rfl⟩, by decide⟩
abbrev mX7_hasRoomFor : zw_M := (yX7_hasRoomFor, cX7_hasRoomFor, 2, some .boolean)
theorem vmX7_hasRoomFor : zw_VM mX7_hasRoomFor 1 7 := ⟨zw_tb_of (List.mem_of_getElem? (i := 576) (by decide +kernel)) rfl, zw_tb_of (List.mem_of_getElem? (i := 577) (by decide +kernel)) rfl, zw_tb_of (List.mem_of_getElem? (i := 66) (by decide +kernel)) rfl, zw_tb_of (List.mem_of_getElem? (i := 578) (by decide +kernel)) rfl, ⟨by decide +kernel, by decide +kernel, by decide +kernel⟩, Nat.le_of_ble_eq_true rfl, ⟨_, rfl, rfl⟩, by decide⟩
abbrev mX7_graftAt : zw_M := (yX7_graftAt, cX7_graftAt, 6, none)
theorem vmX7_graftAt : zw_VM mX7_graftAt 2 7 := ⟨zw_tb_of (List.mem_of_getElem? (i := 582) (by decide +kernel)) rfl, zw_tb_of (List.mem_of_getElem? (i := 583) (by decide +kernel)) rfl, zw_tb_of (List.mem_of_getElem? (i := 66) (by decide +kernel)) rfl, zw_tb_of (List.mem_of_getElem? (i := 584) (by decide +kernel)) rfl, ⟨by decide +kernel, by decide +kernel, by decide +kernel⟩, Nat.le_of_ble_eq_true rfl, ⟨_, rfl, rfl⟩, by decide⟩
abbrev mX7_patternAt : zw_M := (yX7_patternAt, cX7_patternAt, 6, some .int)
theorem vmX7_patternAt : zw_VM mX7_patternAt 1 7 := ⟨zw_tb_of (List.mem_of_getElem? (i := 387) (by decide +kernel)) rfl, zw_tb_of (List.mem_of_getElem? (i := 388) (by decide +kernel)) rfl, zw_tb_of (List.mem_of_getElem? (i := 66) (by decide +kernel)) rfl, zw_tb_of (List.mem_of_getElem? (i := 389) (by decide +kernel)) rfl, ⟨by decide +kernel, by decide +kernel, by decide +kernel⟩, Nat.le_of_ble_eq_true rfl, ⟨_, rfl, rfl⟩, by decide⟩
abbrev mX7_spotOf : zw_M := (yX7_spotOf, cX7_spotOf, 5, some .int)
theorem vmX7_spotOf : zw_VM mX7_spotOf 2 7 := ⟨zw_tb_of (List.mem_of_getElem? (i := 406) (by decide +kernel)) rfl, zw_tb_of (List.mem_of_getElem? (i := 407) (by decide +kernel)) rfl, zw_tb_of (List.mem_of_getElem? (i := 66) (by decide +kernel)) rfl, zw_tb_of (List.mem_of_getElem? (i := 408) (by decide +kernel)) rfl, ⟨by decide +kernel, by decide +kernel, by decide +kernel⟩, Nat.le_of_ble_eq_true rfl, ⟨_, rfl, rfl⟩, by decide⟩
abbrev mX7_places : zw_M := (yX7_places, cX7_places, 4, some .int)
theorem vmX7_places : zw_VM mX7_places 1 7 := ⟨zw_tb_of (List.mem_of_getElem? (i := 383) (by decide +kernel)) rfl, zw_tb_of (List.mem_of_getElem? (i := 384) (by decide +kernel)) rfl, zw_tb_of (List.mem_of_getElem? (i := 66) (by decide +kernel)) rfl, zw_tb_of (List.mem_of_getElem? (i := 385) (by decide +kernel)) rfl, ⟨by decide +kernel, by decide +kernel, by decide +kernel⟩, Nat.le_of_ble_eq_true rfl, ⟨_, rfl, rfl⟩, by decide⟩
abbrev mX7_stepAt : zw_M := (yX7_stepAt, cX7_stepAt, 5, none)
theorem vmX7_stepAt : zw_VM mX7_stepAt 2 7 := ⟨zw_tb_of (List.mem_of_getElem? (i := 410) (by decide +kernel)) rfl, zw_tb_of (List.mem_of_getElem? (i := 411) (by decide +kernel)) rfl, zw_tb_of (List.mem_of_getElem? (i := 66) (by decide +kernel)) rfl, zw_tb_of (List.mem_of_getElem? (i := 412) (by decide +kernel)) rfl, ⟨by decide +kernel, by decide +kernel, by decide +kernel⟩, Nat.le_of_ble_eq_true rfl, ⟨_, rfl, rfl⟩, by decide⟩
abbrev mX7_rebuild : zw_M := (yX7_rebuild, cX7_rebuild, 9, none)
theorem vmX7_rebuild : zw_VM mX7_rebuild 2 7 := ⟨zw_tb_of (List.mem_of_getElem? (i := 423) (by decide +kernel)) rfl, zw_tb_of (List.mem_of_getElem? (i := 3) (by decide +kernel)) rfl, zw_tb_of (List.mem_of_getElem? (i := 66) (by decide +kernel)) rfl, zw_tb_of (List.mem_of_getElem? (i := 424) (by decide +kernel)) rfl, ⟨by decide +kernel, by decide +kernel, by decide +kernel⟩, Nat.le_of_ble_eq_true rfl, ⟨_, rfl, rfl⟩, by decide⟩
abbrev mX7_makePlain : zw_M := (yX7_makePlain, cX7_makePlain, 4, some .int)
theorem vmX7_makePlain : zw_VM mX7_makePlain 1 7 := ⟨zw_tb_of (List.mem_of_getElem? (i := 433) (by decide +kernel)) rfl, zw_tb_of (List.mem_of_getElem? (i := 434) (by decide +kernel)) rfl, zw_tb_of (List.mem_of_getElem? (i := 66) (by decide +kernel)) rfl, zw_tb_of (List.mem_of_getElem? (i := 435) (by decide +kernel)) rfl, ⟨by decide +kernel, by decide +kernel, by decide +kernel⟩, Nat.le_of_ble_eq_true rfl, ⟨_, rfl, rfl⟩, by decide⟩
abbrev mX7_handDown : zw_M := (yX7_handDown, cX7_handDown, 3, none)
theorem vmX7_handDown : zw_VM mX7_handDown 2 7 := ⟨zw_tb_of (List.mem_of_getElem? (i := 502) (by decide +kernel)) rfl, zw_tb_of (List.mem_of_getElem? (i := 5) (by decide +kernel)) rfl, zw_tb_of (List.mem_of_getElem? (i := 66) (by decide +kernel)) rfl, zw_tb_of (List.mem_of_getElem? (i := 503) (by decide +kernel)) rfl, ⟨by decide +kernel, by decide +kernel, by decide +kernel⟩, Nat.le_of_ble_eq_true rfl, ⟨_, rfl, rfl⟩, by decide⟩
abbrev mX7_height : zw_M := (yX7_height, cX7_height, 4, some .int)
theorem vmX7_height : zw_VM mX7_height 0 7 := ⟨zw_tb_of (List.mem_of_getElem? (i := 509) (by decide +kernel)) rfl, zw_tb_of (List.mem_of_getElem? (i := 510) (by decide +kernel)) rfl, zw_tb_of (List.mem_of_getElem? (i := 66) (by decide +kernel)) rfl, zw_tb_of (List.mem_of_getElem? (i := 511) (by decide +kernel)) rfl, ⟨by decide +kernel, by decide +kernel, by decide +kernel⟩, Nat.le_of_ble_eq_true rfl, ⟨_, rfl, rfl⟩, by decide⟩
abbrev mX7_mirrorOf : zw_M := (yX7_mirrorOf, cX7_mirrorOf, 6, none)
theorem vmX7_mirrorOf : zw_VM mX7_mirrorOf 1 7 := ⟨zw_tb_of (List.mem_of_getElem? (i := 496) (by decide +kernel)) rfl, zw_tb_of (List.mem_of_getElem? (i := 497) (by decide +kernel)) rfl, zw_tb_of (List.mem_of_getElem? (i := 66) (by decide +kernel)) rfl, zw_tb_of (List.mem_of_getElem? (i := 498) (by decide +kernel)) rfl, ⟨by decide +kernel, by decide +kernel, by decide +kernel⟩, Nat.le_of_ble_eq_true rfl, ⟨_, rfl, rfl⟩, by decide⟩
abbrev mX8_feed : zw_M := (yX8_feed, cX8_feed, 2, some .int)
theorem vmX8_feed : zw_VM mX8_feed 1 8 := ⟨zw_tb_of (List.mem_of_getElem? (i := 287) (by decide +kernel)) rfl, zw_tb_of (List.mem_of_getElem? (i := 288) (by decide +kernel)) rfl, zw_tb_of (List.mem_of_getElem? (i := 59) (by decide +kernel)) rfl, zw_tb_of (List.mem_of_getElem? (i := 289) (by decide +kernel)) rfl, ⟨by decide +kernel, by decide +kernel, by decide +kernel⟩, Nat.le_of_ble_eq_true rfl, ⟨_, rfl, rfl⟩, by decide⟩
abbrev mX8_tell : zw_M := (yX8_tell, cX8_tell, 2, some .int)
theorem vmX8_tell : zw_VM mX8_tell 0 8 := ⟨zw_tb_of (List.mem_of_getElem? (i := 293) (by decide +kernel)) rfl, zw_tb_of (List.mem_of_getElem? (i := 294) (by decide +kernel)) rfl, zw_tb_of (List.mem_of_getElem? (i := 59) (by decide +kernel)) rfl, zw_tb_of (List.mem_of_getElem? (i := 295) (by decide +kernel)) rfl, ⟨by decide +kernel, by decide +kernel, by decide +kernel⟩, Nat.le_of_ble_eq_true rfl, ⟨_, rfl, rfl⟩, by decide⟩
abbrev mX8_readText : zw_M := (yX8_readText, cX8_readText, 5, some .int)
theorem vmX8_readText : zw_VM mX8_readText 0 8 := ⟨zw_tb_of (List.mem_of_getElem? (i := 302) (by decide +kernel)) rfl, zw_tb_of (List.mem_of_getElem? (i := 0) (by decide +kernel)) rfl, zw_tb_of (List.mem_of_getElem? (i := 59) (by decide +kernel)) rfl, zw_tb_of (List.mem_of_getElem? (i := 303) (by decide +kernel)) rfl, ⟨by decide +kernel, by decide +kernel, by decide +kernel⟩, Nat.le_of_ble_eq_true rfl, ⟨_, rfl, rfl⟩, by decide⟩
abbrev mX8_figureOf : zw_M := (yX8_figureOf, cX8_figureOf, 1, some .int)
theorem smX8_figureOf : zw_SM mX8_figureOf 1 := ⟨zw_tb_of (List.mem_of_getElem? (i := 309) (by decide +kernel)) rfl, zw_tb_of (List.mem_of_getElem? (i := 59) (by decide +kernel)) rfl, zw_tb_of (List.mem_of_getElem? (i := 310) (by decide +kernel)) rfl, ⟨by decide +kernel, by decide +kernel, by decide +kernel⟩, Nat.le_of_ble_eq_true rfl⟩
abbrev mX8_fault : zw_M := (yX8_fault, cX8_fault, 1, some .int)
theorem vmX8_fault : zw_VM mX8_fault 0 8 := ⟨zw_tb_of (List.mem_of_getElem? (i := 357) (by decide +kernel)) rfl, zw_tb_of (List.mem_of_getElem? (i := 358) (by decide +kernel)) rfl, zw_tb_of (List.mem_of_getElem? (i := 59) (by decide +kernel)) rfl, zw_tb_of (List.mem_of_getElem? (i := 359) (by decide +kernel)) rfl, ⟨by decide +kernel, by decide +kernel, by decide +kernel⟩, Nat.le_of_ble_eq_true rfl, ⟨_, rfl, rfl⟩, by decide⟩
abbrev mX8_told : zw_M := (yX8_told, cX8_told, 2, some .int)
theorem vmX8_told : zw_VM mX8_told 1 8 := ⟨zw_tb_of (List.mem_of_getElem? (i := 361) (by decide +kernel)) rfl, zw_tb_of (List.mem_of_getElem? (i := 362) (by decide +kernel)) rfl, zw_tb_of (List.mem_of_getElem? (i := 59) (by decide +kernel)) rfl, zw_tb_of (List.mem_of_getElem? (i := 363) (by decide +kernel)) rfl, ⟨by decide +kernel, by decide +kernel, by decide +kernel⟩, Nat.le_of_ble_eq_true rfl, ⟨_, rfl, rfl⟩, by decide⟩
abbrev mX8_tree : zw_M := (yX8_tree, cX8_tree, 3, some .int)
theorem vmX8_tree : zw_VM mX8_tree 2 8 := ⟨zw_tb_of (List.mem_of_getElem? (i := 469) (by decide +kernel)) rfl, zw_tb_of (List.mem_of_getElem? (i := 470) (by decide +kernel)) rfl, zw_tb_of (List.mem_of_getElem? (i := 59) (by decide +kernel)) rfl, zw_tb_of (List.mem_of_getElem? (i := 471) (by decide +kernel)) rfl, ⟨by decide +kernel, by decide +kernel, by decide +kernel⟩, Nat.le_of_ble_eq_true rfl, ⟨_, rfl, rfl⟩, by decide⟩
abbrev mX8_madePlain : zw_M := (yX8_madePlain, cX8_madePlain, 3, some .int)
theorem vmX8_madePlain : zw_VM mX8_madePlain 1 8 := ⟨zw_tb_of (List.mem_of_getElem? (i := 492) (by decide +kernel)) rfl, zw_tb_of (List.mem_of_getElem? (i := 4) (by decide +kernel)) rfl, zw_tb_of (List.mem_of_getElem? (i := 59) (by decide +kernel)) rfl, zw_tb_of (List.mem_of_getElem? (i := 493) (by decide +kernel)) rfl, ⟨by decide +kernel, by decide +kernel, by decide +kernel⟩, Nat.le_of_ble_eq_true rfl, ⟨_, rfl, rfl⟩, by decide⟩
abbrev mX8_pattern : zw_M := (yX8_pattern, cX8_pattern, 3, some .int)
theorem vmX8_pattern : zw_VM mX8_pattern 2 8 := ⟨zw_tb_of (List.mem_of_getElem? (i := 516) (by decide +kernel)) rfl, zw_tb_of (List.mem_of_getElem? (i := 517) (by decide +kernel)) rfl, zw_tb_of (List.mem_of_getElem? (i := 59) (by decide +kernel)) rfl, zw_tb_of (List.mem_of_getElem? (i := 518) (by decide +kernel)) rfl, ⟨by decide +kernel, by decide +kernel, by decide +kernel⟩, Nat.le_of_ble_eq_true rfl, ⟨_, rfl, rfl⟩, by decide⟩
abbrev mX8_same : zw_M := (yX8_same, cX8_same, 3, some .int)
theorem vmX8_same : zw_VM mX8_same 2 8 := ⟨zw_tb_of (List.mem_of_getElem? (i := 524) (by decide +kernel)) rfl, zw_tb_of (List.mem_of_getElem? (i := 525) (by decide +kernel)) rfl, zw_tb_of (List.mem_of_getElem? (i := 59) (by decide +kernel)) rfl, zw_tb_of (List.mem_of_getElem? (i := 526) (by decide +kernel)) rfl, ⟨by decide +kernel, by decide +kernel, by decide +kernel⟩, Nat.le_of_ble_eq_true rfl, ⟨_, rfl, rfl⟩, by decide⟩
abbrev mX8_count : zw_M := (yX8_count, cX8_count, 2, some .long)
theorem vmX8_count : zw_VM mX8_count 1 8 := ⟨zw_tb_of (List.mem_of_getElem? (i := 529) (by decide +kernel)) rfl, zw_tb_of (List.mem_of_getElem? (i := 530) (by decide +kernel)) rfl, zw_tb_of (List.mem_of_getElem? (i := 59) (by decide +kernel)) rfl, zw_tb_of (List.mem_of_getElem? (i := 531) (by decide +kernel)) rfl, ⟨by decide +kernel, by decide +kernel, by decide +kernel⟩, Nat.le_of_ble_eq_true rfl, ⟨_, rfl, rfl⟩, by decide⟩
abbrev mX8_undoneBy : zw_M := (yX8_undoneBy, cX8_undoneBy, 2, some .long)
theorem vmX8_undoneBy : zw_VM mX8_undoneBy 1 8 := ⟨zw_tb_of (List.mem_of_getElem? (i := 550) (by decide +kernel)) rfl, zw_tb_of (List.mem_of_getElem? (i := 551) (by decide +kernel)) rfl, zw_tb_of (List.mem_of_getElem? (i := 59) (by decide +kernel)) rfl, zw_tb_of (List.mem_of_getElem? (i := 552) (by decide +kernel)) rfl, ⟨by decide +kernel, by decide +kernel, by decide +kernel⟩, Nat.le_of_ble_eq_true rfl, ⟨_, rfl, rfl⟩, by decide⟩
abbrev mX8_graft : zw_M := (yX8_graft, cX8_graft, 5, some .int)
theorem vmX8_graft : zw_VM mX8_graft 3 8 := ⟨zw_tb_of (List.mem_of_getElem? (i := 568) (by decide +kernel)) rfl, zw_tb_of (List.mem_of_getElem? (i := 569) (by decide +kernel)) rfl, zw_tb_of (List.mem_of_getElem? (i := 59) (by decide +kernel)) rfl, zw_tb_of (List.mem_of_getElem? (i := 570) (by decide +kernel)) rfl, ⟨by decide +kernel, by decide +kernel, by decide +kernel⟩, Nat.le_of_ble_eq_true rfl, ⟨_, rfl, rfl⟩, by decide⟩
abbrev mX8_step : zw_M := (yX8_step, cX8_step, 4, some .int)
theorem vmX8_step : zw_VM mX8_step 2 8 := ⟨zw_tb_of (List.mem_of_getElem? (i := 586) (by decide +kernel)) rfl, zw_tb_of (List.mem_of_getElem? (i := 587) (by decide +kernel)) rfl, zw_tb_of (List.mem_of_getElem? (i := 59) (by decide +kernel)) rfl, zw_tb_of (List.mem_of_getElem? (i := 588) (by decide +kernel)) rfl, ⟨by decide +kernel, by decide +kernel, by decide +kernel⟩, Nat.le_of_ble_eq_true rfl, ⟨_, rfl, rfl⟩, by decide⟩
abbrev mX8_plain : zw_M := (yX8_plain, cX8_plain, 3, some .int)
theorem vmX8_plain : zw_VM mX8_plain 1 8 := ⟨zw_tb_of (List.mem_of_getElem? (i := 593) (by decide +kernel)) rfl, zw_tb_of (List.mem_of_getElem? (i := 594) (by decide +kernel)) rfl, zw_tb_of (List.mem_of_getElem? (i := 59) (by decide +kernel)) rfl, zw_tb_of (List.mem_of_getElem? (i := 595) (by decide +kernel)) rfl, ⟨by decide +kernel, by decide +kernel, by decide +kernel⟩, Nat.le_of_ble_eq_true rfl, ⟨_, rfl, rfl⟩, by decide⟩
abbrev mX8_mirror : zw_M := (yX8_mirror, cX8_mirror, 2, some .int)
theorem vmX8_mirror : zw_VM mX8_mirror 1 8 := ⟨zw_tb_of (List.mem_of_getElem? (i := 597) (by decide +kernel)) rfl, zw_tb_of (List.mem_of_getElem? (i := 598) (by decide +kernel)) rfl, zw_tb_of (List.mem_of_getElem? (i := 59) (by decide +kernel)) rfl, zw_tb_of (List.mem_of_getElem? (i := 599) (by decide +kernel)) rfl, ⟨by decide +kernel, by decide +kernel, by decide +kernel⟩, Nat.le_of_ble_eq_true rfl, ⟨_, rfl, rfl⟩, by decide⟩
abbrev mX8_take : zw_M := (yX8_take, cX8_take, 2, some .int)
theorem vmX8_take : zw_VM mX8_take 1 8 := ⟨zw_tb_of (List.mem_of_getElem? (i := 602) (by decide +kernel)) rfl, zw_tb_of (List.mem_of_getElem? (i := 603) (by decide +kernel)) rfl, zw_tb_of (List.mem_of_getElem? (i := 59) (by decide +kernel)) rfl, zw_tb_of (List.mem_of_getElem? (i := 604) (by decide +kernel)) rfl, ⟨by decide +kernel, by decide +kernel, by decide +kernel⟩, Nat.le_of_ble_eq_true rfl, ⟨_, rfl, rfl⟩, by decide⟩
abbrev mX8_fate : zw_M := (yX8_fate, cX8_fate, 6, some .int)
theorem vmX8_fate : zw_VM mX8_fate 3 8 := ⟨zw_tb_of (List.mem_of_getElem? (i := 610) (by decide +kernel)) rfl, zw_tb_of (List.mem_of_getElem? (i := 611) (by decide +kernel)) rfl, zw_tb_of (List.mem_of_getElem? (i := 59) (by decide +kernel)) rfl, zw_tb_of (List.mem_of_getElem? (i := 612) (by decide +kernel)) rfl, ⟨by decide +kernel, by decide +kernel, by decide +kernel⟩, Nat.le_of_ble_eq_true rfl, ⟨_, rfl, rfl⟩, by decide⟩
abbrev mX8_dual : zw_M := (yX8_dual, cX8_dual, 1, some .int)
theorem vmX8_dual : zw_VM mX8_dual 0 8 := ⟨zw_tb_of (List.mem_of_getElem? (i := 622) (by decide +kernel)) rfl, zw_tb_of (List.mem_of_getElem? (i := 623) (by decide +kernel)) rfl, zw_tb_of (List.mem_of_getElem? (i := 59) (by decide +kernel)) rfl, zw_tb_of (List.mem_of_getElem? (i := 624) (by decide +kernel)) rfl, ⟨by decide +kernel, by decide +kernel, by decide +kernel⟩, Nat.le_of_ble_eq_true rfl, ⟨_, rfl, rfl⟩, by decide⟩
abbrev mX8_clear : zw_M := (yX8_clear, cX8_clear, 2, some .int)
theorem vmX8_clear : zw_VM mX8_clear 0 8 := ⟨zw_tb_of (List.mem_of_getElem? (i := 630) (by decide +kernel)) rfl, zw_tb_of (List.mem_of_getElem? (i := 631) (by decide +kernel)) rfl, zw_tb_of (List.mem_of_getElem? (i := 59) (by decide +kernel)) rfl, zw_tb_of (List.mem_of_getElem? (i := 632) (by decide +kernel)) rfl, ⟨by decide +kernel, by decide +kernel, by decide +kernel⟩, Nat.le_of_ble_eq_true rfl, ⟨_, rfl, rfl⟩, by decide⟩
abbrev mX8_drift : zw_M := (yX8_drift, cX8_drift, 3, some .int)
theorem vmX8_drift : zw_VM mX8_drift 1 8 := ⟨zw_tb_of (List.mem_of_getElem? (i := 643) (by decide +kernel)) rfl, zw_tb_of (List.mem_of_getElem? (i := 644) (by decide +kernel)) rfl, zw_tb_of (List.mem_of_getElem? (i := 59) (by decide +kernel)) rfl, zw_tb_of (List.mem_of_getElem? (i := 645) (by decide +kernel)) rfl, ⟨by decide +kernel, by decide +kernel, by decide +kernel⟩, Nat.le_of_ble_eq_true rfl, ⟨_, rfl, rfl⟩, by decide⟩
abbrev mX8_drawTree : zw_M := (yX8_drawTree, cX8_drawTree, 4, none)
theorem vmX8_drawTree : zw_VM mX8_drawTree 0 8 := ⟨zw_tb_of (List.mem_of_getElem? (i := 648) (by decide +kernel)) rfl, zw_tb_of (List.mem_of_getElem? (i := 9) (by decide +kernel)) rfl, zw_tb_of (List.mem_of_getElem? (i := 59) (by decide +kernel)) rfl, zw_tb_of (List.mem_of_getElem? (i := 649) (by decide +kernel)) rfl, ⟨by decide +kernel, by decide +kernel, by decide +kernel⟩, Nat.le_of_ble_eq_true rfl, ⟨_, rfl, rfl⟩, by decide⟩
abbrev mX8_draw : zw_M := (yX8_draw, cX8_draw, 2, some .int)
theorem vmX8_draw : zw_VM mX8_draw 1 8 := ⟨zw_tb_of (List.mem_of_getElem? (i := 652) (by decide +kernel)) rfl, zw_tb_of (List.mem_of_getElem? (i := 10) (by decide +kernel)) rfl, zw_tb_of (List.mem_of_getElem? (i := 59) (by decide +kernel)) rfl, zw_tb_of (List.mem_of_getElem? (i := 653) (by decide +kernel)) rfl, ⟨by decide +kernel, by decide +kernel, by decide +kernel⟩, Nat.le_of_ble_eq_true rfl, ⟨_, rfl, rfl⟩, by decide⟩
abbrev mX8_undo : zw_M := (yX8_undo, cX8_undo, 2, some .int)
theorem vmX8_undo : zw_VM mX8_undo 1 8 := ⟨zw_tb_of (List.mem_of_getElem? (i := 666) (by decide +kernel)) rfl, zw_tb_of (List.mem_of_getElem? (i := 667) (by decide +kernel)) rfl, zw_tb_of (List.mem_of_getElem? (i := 59) (by decide +kernel)) rfl, zw_tb_of (List.mem_of_getElem? (i := 668) (by decide +kernel)) rfl, ⟨by decide +kernel, by decide +kernel, by decide +kernel⟩, Nat.le_of_ble_eq_true rfl, ⟨_, rfl, rfl⟩, by decide⟩
abbrev mX8_write : zw_M := (yX8_write, cX8_write, 3, some .int)
theorem vmX8_write : zw_VM mX8_write 2 8 := ⟨zw_tb_of (List.mem_of_getElem? (i := 678) (by decide +kernel)) rfl, zw_tb_of (List.mem_of_getElem? (i := 679) (by decide +kernel)) rfl, zw_tb_of (List.mem_of_getElem? (i := 59) (by decide +kernel)) rfl, zw_tb_of (List.mem_of_getElem? (i := 680) (by decide +kernel)) rfl, ⟨by decide +kernel, by decide +kernel, by decide +kernel⟩, Nat.le_of_ble_eq_true rfl, ⟨_, rfl, rfl⟩, by decide⟩
abbrev mX8_tear : zw_M := (yX8_tear, cX8_tear, 2, some .int)
theorem vmX8_tear : zw_VM mX8_tear 0 8 := ⟨zw_tb_of (List.mem_of_getElem? (i := 690) (by decide +kernel)) rfl, zw_tb_of (List.mem_of_getElem? (i := 691) (by decide +kernel)) rfl, zw_tb_of (List.mem_of_getElem? (i := 59) (by decide +kernel)) rfl, zw_tb_of (List.mem_of_getElem? (i := 692) (by decide +kernel)) rfl, ⟨by decide +kernel, by decide +kernel, by decide +kernel⟩, Nat.le_of_ble_eq_true rfl, ⟨_, rfl, rfl⟩, by decide⟩
abbrev mX8_seed : zw_M := (yX8_seed, cX8_seed, 3, some .int)
theorem vmX8_seed : zw_VM mX8_seed 1 8 := ⟨zw_tb_of (List.mem_of_getElem? (i := 694) (by decide +kernel)) rfl, zw_tb_of (List.mem_of_getElem? (i := 695) (by decide +kernel)) rfl, zw_tb_of (List.mem_of_getElem? (i := 59) (by decide +kernel)) rfl, zw_tb_of (List.mem_of_getElem? (i := 696) (by decide +kernel)) rfl, ⟨by decide +kernel, by decide +kernel, by decide +kernel⟩, Nat.le_of_ble_eq_true rfl, ⟨_, rfl, rfl⟩, by decide⟩
abbrev mX8_imageAt : zw_M := (yX8_imageAt, cX8_imageAt, 2, some (.object "GraftRules$Image"))
theorem vmX8_imageAt : zw_VM mX8_imageAt 1 8 := ⟨zw_tb_of (List.mem_of_getElem? (i := 703) (by decide +kernel)) rfl, zw_tb_of (List.mem_of_getElem? (i := 11) (by decide +kernel)) rfl, zw_tb_of (List.mem_of_getElem? (i := 59) (by decide +kernel)) rfl, zw_tb_of (List.mem_of_getElem? (i := 704) (by decide +kernel)) rfl, ⟨by decide +kernel, by decide +kernel, by decide +kernel⟩, Nat.le_of_ble_eq_true rfl, ⟨_, rfl, rfl⟩, by decide⟩
abbrev mX8_keep : zw_M := (yX8_keep, cX8_keep, 3, some .int)
theorem vmX8_keep : zw_VM mX8_keep 1 8 := ⟨zw_tb_of (List.mem_of_getElem? (i := 698) (by decide +kernel)) rfl, zw_tb_of (List.mem_of_getElem? (i := 699) (by decide +kernel)) rfl, zw_tb_of (List.mem_of_getElem? (i := 59) (by decide +kernel)) rfl, zw_tb_of (List.mem_of_getElem? (i := 700) (by decide +kernel)) rfl, ⟨by decide +kernel, by decide +kernel, by decide +kernel⟩, Nat.le_of_ble_eq_true rfl, ⟨_, rfl, rfl⟩, by decide⟩
abbrev mX8_goBack : zw_M := (yX8_goBack, cX8_goBack, 3, some .int)
theorem vmX8_goBack : zw_VM mX8_goBack 1 8 := ⟨zw_tb_of (List.mem_of_getElem? (i := 711) (by decide +kernel)) rfl, zw_tb_of (List.mem_of_getElem? (i := 712) (by decide +kernel)) rfl, zw_tb_of (List.mem_of_getElem? (i := 59) (by decide +kernel)) rfl, zw_tb_of (List.mem_of_getElem? (i := 713) (by decide +kernel)) rfl, ⟨by decide +kernel, by decide +kernel, by decide +kernel⟩, Nat.le_of_ble_eq_true rfl, ⟨_, rfl, rfl⟩, by decide⟩
abbrev mX9_in : zw_M := (yX9_in, cX9_in, 3, some .boolean)
theorem smX9_in : zw_SM mX9_in 3 := ⟨zw_tb_of (List.mem_of_getElem? (i := 792) (by decide +kernel)) rfl, zw_tb_of (List.mem_of_getElem? (i := 69) (by decide +kernel)) rfl, zw_tb_of (List.mem_of_getElem? (i := 793) (by decide +kernel)) rfl, ⟨by decide +kernel, by decide +kernel, by decide +kernel⟩, Nat.le_of_ble_eq_true rfl⟩
abbrev mX9_copyRow : zw_M := (yX9_copyRow, cX9_copyRow, 4, none)
theorem vmX9_copyRow : zw_VM mX9_copyRow 2 9 := ⟨zw_tb_of (List.mem_of_getElem? (i := 839) (by decide +kernel)) rfl, zw_tb_of (List.mem_of_getElem? (i := 19) (by decide +kernel)) rfl, zw_tb_of (List.mem_of_getElem? (i := 69) (by decide +kernel)) rfl, zw_tb_of (List.mem_of_getElem? (i := 840) (by decide +kernel)) rfl, ⟨by decide +kernel, by decide +kernel, by decide +kernel⟩, Nat.le_of_ble_eq_true rfl, ⟨_, rfl, rfl⟩, by decide⟩
abbrev mX9_isTree : zw_M := (yX9_isTree, cX9_isTree, 2, some .boolean)
theorem vmX9_isTree : zw_VM mX9_isTree 1 9 := ⟨zw_tb_of (List.mem_of_getElem? (i := 951) (by decide +kernel)) rfl, zw_tb_of (List.mem_of_getElem? (i := 45) (by decide +kernel)) rfl, zw_tb_of (List.mem_of_getElem? (i := 69) (by decide +kernel)) rfl, zw_tb_of (List.mem_of_getElem? (i := 952) (by decide +kernel)) rfl, ⟨by decide +kernel, by decide +kernel, by decide +kernel⟩, Nat.le_of_ble_eq_true rfl, ⟨_, rfl, rfl⟩, by decide⟩
abbrev mX9_open : zw_M := (yX9_open, cX9_open, 6, none)
theorem vmX9_open : zw_VM mX9_open 2 9 := ⟨zw_tb_of (List.mem_of_getElem? (i := 871) (by decide +kernel)) rfl, zw_tb_of (List.mem_of_getElem? (i := 25) (by decide +kernel)) rfl, zw_tb_of (List.mem_of_getElem? (i := 69) (by decide +kernel)) rfl, zw_tb_of (List.mem_of_getElem? (i := 872) (by decide +kernel)) rfl, ⟨by decide +kernel, by decide +kernel, by decide +kernel⟩, Nat.le_of_ble_eq_true rfl, ⟨_, rfl, rfl⟩, by decide⟩
abbrev mX9_openTree : zw_M := (yX9_openTree, cX9_openTree, 2, none)
theorem vmX9_openTree : zw_VM mX9_openTree 1 9 := ⟨zw_tb_of (List.mem_of_getElem? (i := 960) (by decide +kernel)) rfl, zw_tb_of (List.mem_of_getElem? (i := 46) (by decide +kernel)) rfl, zw_tb_of (List.mem_of_getElem? (i := 69) (by decide +kernel)) rfl, zw_tb_of (List.mem_of_getElem? (i := 961) (by decide +kernel)) rfl, ⟨by decide +kernel, by decide +kernel, by decide +kernel⟩, Nat.le_of_ble_eq_true rfl, ⟨_, rfl, rfl⟩, by decide⟩
abbrev mX9_code : zw_M := (yX9_code, cX9_code, 3, some .int)
theorem vmX9_code : zw_VM mX9_code 0 9 := ⟨zw_tb_of (List.mem_of_getElem? (i := 851) (by decide +kernel)) rfl, zw_tb_of (List.mem_of_getElem? (i := 22) (by decide +kernel)) rfl, zw_tb_of (List.mem_of_getElem? (i := 69) (by decide +kernel)) rfl, zw_tb_of (List.mem_of_getElem? (i := 852) (by decide +kernel)) rfl, ⟨by decide +kernel, by decide +kernel, by decide +kernel⟩, Nat.le_of_ble_eq_true rfl, ⟨_, rfl, rfl⟩, by decide⟩
abbrev mX9_nodes : zw_M := (yX9_nodes, cX9_nodes, 1, some .int)
theorem vmX9_nodes : zw_VM mX9_nodes 0 9 := ⟨zw_tb_of (List.mem_of_getElem? (i := 964) (by decide +kernel)) rfl, zw_tb_of (List.mem_of_getElem? (i := 47) (by decide +kernel)) rfl, zw_tb_of (List.mem_of_getElem? (i := 69) (by decide +kernel)) rfl, zw_tb_of (List.mem_of_getElem? (i := 965) (by decide +kernel)) rfl, ⟨by decide +kernel, by decide +kernel, by decide +kernel⟩, Nat.le_of_ble_eq_true rfl, ⟨_, rfl, rfl⟩, by decide⟩
abbrev mX9_behind : zw_M := (yX9_behind, cX9_behind, 4, some .int)
theorem vmX9_behind : zw_VM mX9_behind 1 9 := ⟨zw_tb_of (List.mem_of_getElem? (i := 895) (by decide +kernel)) rfl, zw_tb_of (List.mem_of_getElem? (i := 31) (by decide +kernel)) rfl, zw_tb_of (List.mem_of_getElem? (i := 69) (by decide +kernel)) rfl, zw_tb_of (List.mem_of_getElem? (i := 896) (by decide +kernel)) rfl, ⟨by decide +kernel, by decide +kernel, by decide +kernel⟩, Nat.le_of_ble_eq_true rfl, ⟨_, rfl, rfl⟩, by decide⟩
abbrev mX9_branchOf : zw_M := (yX9_branchOf, cX9_branchOf, 3, some .int)
theorem vmX9_branchOf : zw_VM mX9_branchOf 2 9 := ⟨zw_tb_of (List.mem_of_getElem? (i := 891) (by decide +kernel)) rfl, zw_tb_of (List.mem_of_getElem? (i := 30) (by decide +kernel)) rfl, zw_tb_of (List.mem_of_getElem? (i := 69) (by decide +kernel)) rfl, zw_tb_of (List.mem_of_getElem? (i := 892) (by decide +kernel)) rfl, ⟨by decide +kernel, by decide +kernel, by decide +kernel⟩, Nat.le_of_ble_eq_true rfl, ⟨_, rfl, rfl⟩, by decide⟩
abbrev mX9_patternAt : zw_M := (yX9_patternAt, cX9_patternAt, 4, some .int)
theorem vmX9_patternAt : zw_VM mX9_patternAt 2 9 := ⟨zw_tb_of (List.mem_of_getElem? (i := 887) (by decide +kernel)) rfl, zw_tb_of (List.mem_of_getElem? (i := 29) (by decide +kernel)) rfl, zw_tb_of (List.mem_of_getElem? (i := 69) (by decide +kernel)) rfl, zw_tb_of (List.mem_of_getElem? (i := 888) (by decide +kernel)) rfl, ⟨by decide +kernel, by decide +kernel, by decide +kernel⟩, Nat.le_of_ble_eq_true rfl, ⟨_, rfl, rfl⟩, by decide⟩
abbrev mX9_isPlace : zw_M := (yX9_isPlace, cX9_isPlace, 4, some .boolean)
theorem vmX9_isPlace : zw_VM mX9_isPlace 2 9 := ⟨zw_tb_of (List.mem_of_getElem? (i := 883) (by decide +kernel)) rfl, zw_tb_of (List.mem_of_getElem? (i := 28) (by decide +kernel)) rfl, zw_tb_of (List.mem_of_getElem? (i := 69) (by decide +kernel)) rfl, zw_tb_of (List.mem_of_getElem? (i := 884) (by decide +kernel)) rfl, ⟨by decide +kernel, by decide +kernel, by decide +kernel⟩, Nat.le_of_ble_eq_true rfl, ⟨_, rfl, rfl⟩, by decide⟩
abbrev mX9_places : zw_M := (yX9_places, cX9_places, 3, some .int)
theorem vmX9_places : zw_VM mX9_places 0 9 := ⟨zw_tb_of (List.mem_of_getElem? (i := 879) (by decide +kernel)) rfl, zw_tb_of (List.mem_of_getElem? (i := 27) (by decide +kernel)) rfl, zw_tb_of (List.mem_of_getElem? (i := 69) (by decide +kernel)) rfl, zw_tb_of (List.mem_of_getElem? (i := 880) (by decide +kernel)) rfl, ⟨by decide +kernel, by decide +kernel, by decide +kernel⟩, Nat.le_of_ble_eq_true rfl, ⟨_, rfl, rfl⟩, by decide⟩
abbrev mX9_placeAt : zw_M := (yX9_placeAt, cX9_placeAt, 4, some .int)
theorem vmX9_placeAt : zw_VM mX9_placeAt 1 9 := ⟨zw_tb_of (List.mem_of_getElem? (i := 907) (by decide +kernel)) rfl, zw_tb_of (List.mem_of_getElem? (i := 34) (by decide +kernel)) rfl, zw_tb_of (List.mem_of_getElem? (i := 69) (by decide +kernel)) rfl, zw_tb_of (List.mem_of_getElem? (i := 908) (by decide +kernel)) rfl, ⟨by decide +kernel, by decide +kernel, by decide +kernel⟩, Nat.le_of_ble_eq_true rfl, ⟨_, rfl, rfl⟩, by decide⟩
abbrev mX9_copyOther : zw_M := (yX9_copyOther, cX9_copyOther, 4, none)
theorem vmX9_copyOther : zw_VM mX9_copyOther 2 9 := ⟨zw_tb_of (List.mem_of_getElem? (i := 915) (by decide +kernel)) rfl, zw_tb_of (List.mem_of_getElem? (i := 36) (by decide +kernel)) rfl, zw_tb_of (List.mem_of_getElem? (i := 69) (by decide +kernel)) rfl, zw_tb_of (List.mem_of_getElem? (i := 916) (by decide +kernel)) rfl, ⟨by decide +kernel, by decide +kernel, by decide +kernel⟩, Nat.le_of_ble_eq_true rfl, ⟨_, rfl, rfl⟩, by decide⟩
abbrev mX9_addOther : zw_M := (yX9_addOther, cX9_addOther, 2, none)
theorem vmX9_addOther : zw_VM mX9_addOther 1 9 := ⟨zw_tb_of (List.mem_of_getElem? (i := 919) (by decide +kernel)) rfl, zw_tb_of (List.mem_of_getElem? (i := 37) (by decide +kernel)) rfl, zw_tb_of (List.mem_of_getElem? (i := 69) (by decide +kernel)) rfl, zw_tb_of (List.mem_of_getElem? (i := 920) (by decide +kernel)) rfl, ⟨by decide +kernel, by decide +kernel, by decide +kernel⟩, Nat.le_of_ble_eq_true rfl, ⟨_, rfl, rfl⟩, by decide⟩
abbrev mX9_takeOther : zw_M := (yX9_takeOther, cX9_takeOther, 2, none)
theorem vmX9_takeOther : zw_VM mX9_takeOther 0 9 := ⟨zw_tb_of (List.mem_of_getElem? (i := 923) (by decide +kernel)) rfl, zw_tb_of (List.mem_of_getElem? (i := 38) (by decide +kernel)) rfl, zw_tb_of (List.mem_of_getElem? (i := 69) (by decide +kernel)) rfl, zw_tb_of (List.mem_of_getElem? (i := 924) (by decide +kernel)) rfl, ⟨by decide +kernel, by decide +kernel, by decide +kernel⟩, Nat.le_of_ble_eq_true rfl, ⟨_, rfl, rfl⟩, by decide⟩
abbrev mX9_stepAt : zw_M := (yX9_stepAt, cX9_stepAt, 12, none)
theorem vmX9_stepAt : zw_VM mX9_stepAt 1 9 := ⟨zw_tb_of (List.mem_of_getElem? (i := 911) (by decide +kernel)) rfl, zw_tb_of (List.mem_of_getElem? (i := 35) (by decide +kernel)) rfl, zw_tb_of (List.mem_of_getElem? (i := 69) (by decide +kernel)) rfl, zw_tb_of (List.mem_of_getElem? (i := 912) (by decide +kernel)) rfl, ⟨by decide +kernel, by decide +kernel, by decide +kernel⟩, Nat.le_of_ble_eq_true rfl, ⟨_, rfl, rfl⟩, by decide⟩
abbrev mX9_makePlain : zw_M := (yX9_makePlain, cX9_makePlain, 3, some .int)
theorem vmX9_makePlain : zw_VM mX9_makePlain 0 9 := ⟨zw_tb_of (List.mem_of_getElem? (i := 927) (by decide +kernel)) rfl, zw_tb_of (List.mem_of_getElem? (i := 39) (by decide +kernel)) rfl, zw_tb_of (List.mem_of_getElem? (i := 69) (by decide +kernel)) rfl, zw_tb_of (List.mem_of_getElem? (i := 928) (by decide +kernel)) rfl, ⟨by decide +kernel, by decide +kernel, by decide +kernel⟩, Nat.le_of_ble_eq_true rfl, ⟨_, rfl, rfl⟩, by decide⟩
abbrev mX9_turn : zw_M := (yX9_turn, cX9_turn, 3, none)
theorem vmX9_turn : zw_VM mX9_turn 0 9 := ⟨zw_tb_of (List.mem_of_getElem? (i := 976) (by decide +kernel)) rfl, zw_tb_of (List.mem_of_getElem? (i := 50) (by decide +kernel)) rfl, zw_tb_of (List.mem_of_getElem? (i := 69) (by decide +kernel)) rfl, zw_tb_of (List.mem_of_getElem? (i := 977) (by decide +kernel)) rfl, ⟨by decide +kernel, by decide +kernel, by decide +kernel⟩, Nat.le_of_ble_eq_true rfl, ⟨_, rfl, rfl⟩, by decide⟩
abbrev mX9_height : zw_M := (yX9_height, cX9_height, 5, some .int)
theorem vmX9_height : zw_VM mX9_height 0 9 := ⟨zw_tb_of (List.mem_of_getElem? (i := 980) (by decide +kernel)) rfl, zw_tb_of (List.mem_of_getElem? (i := 51) (by decide +kernel)) rfl, zw_tb_of (List.mem_of_getElem? (i := 69) (by decide +kernel)) rfl, zw_tb_of (List.mem_of_getElem? (i := 981) (by decide +kernel)) rfl, ⟨by decide +kernel, by decide +kernel, by decide +kernel⟩, Nat.le_of_ble_eq_true rfl, ⟨_, rfl, rfl⟩, by decide⟩
abbrev mX9_leafAt : zw_M := (yX9_leafAt, cX9_leafAt, 4, some .int)
theorem vmX9_leafAt : zw_VM mX9_leafAt 1 9 := ⟨zw_tb_of (List.mem_of_getElem? (i := 1000) (by decide +kernel)) rfl, zw_tb_of (List.mem_of_getElem? (i := 53) (by decide +kernel)) rfl, zw_tb_of (List.mem_of_getElem? (i := 69) (by decide +kernel)) rfl, zw_tb_of (List.mem_of_getElem? (i := 1001) (by decide +kernel)) rfl, ⟨by decide +kernel, by decide +kernel, by decide +kernel⟩, Nat.le_of_ble_eq_true rfl, ⟨_, rfl, rfl⟩, by decide⟩
abbrev mX9_isTreeWord : zw_M := (yX9_isTreeWord, cX9_isTreeWord, 3, some .boolean)
theorem vmX9_isTreeWord : zw_VM mX9_isTreeWord 0 9 := ⟨zw_tb_of (List.mem_of_getElem? (i := 875) (by decide +kernel)) rfl, zw_tb_of (List.mem_of_getElem? (i := 26) (by decide +kernel)) rfl, zw_tb_of (List.mem_of_getElem? (i := 69) (by decide +kernel)) rfl, zw_tb_of (List.mem_of_getElem? (i := 876) (by decide +kernel)) rfl, ⟨by decide +kernel, by decide +kernel, by decide +kernel⟩, Nat.le_of_ble_eq_true rfl, ⟨_, rfl, rfl⟩, by decide⟩
abbrev mX9_isCritical : zw_M := (yX9_isCritical, cX9_isCritical, 2, some .boolean)
theorem vmX9_isCritical : zw_VM mX9_isCritical 1 9 := ⟨zw_tb_of (List.mem_of_getElem? (i := 867) (by decide +kernel)) rfl, zw_tb_of (List.mem_of_getElem? (i := 24) (by decide +kernel)) rfl, zw_tb_of (List.mem_of_getElem? (i := 69) (by decide +kernel)) rfl, zw_tb_of (List.mem_of_getElem? (i := 868) (by decide +kernel)) rfl, ⟨by decide +kernel, by decide +kernel, by decide +kernel⟩, Nat.le_of_ble_eq_true rfl, ⟨_, rfl, rfl⟩, by decide⟩
abbrev mX9_isBad : zw_M := (yX9_isBad, cX9_isBad, 4, some .boolean)
theorem vmX9_isBad : zw_VM mX9_isBad 1 9 := ⟨zw_tb_of (List.mem_of_getElem? (i := 903) (by decide +kernel)) rfl, zw_tb_of (List.mem_of_getElem? (i := 33) (by decide +kernel)) rfl, zw_tb_of (List.mem_of_getElem? (i := 69) (by decide +kernel)) rfl, zw_tb_of (List.mem_of_getElem? (i := 904) (by decide +kernel)) rfl, ⟨by decide +kernel, by decide +kernel, by decide +kernel⟩, Nat.le_of_ble_eq_true rfl, ⟨_, rfl, rfl⟩, by decide⟩
abbrev mX9_criticals : zw_M := (yX9_criticals, cX9_criticals, 3, some .int)
theorem vmX9_criticals : zw_VM mX9_criticals 0 9 := ⟨zw_tb_of (List.mem_of_getElem? (i := 863) (by decide +kernel)) rfl, zw_tb_of (List.mem_of_getElem? (i := 23) (by decide +kernel)) rfl, zw_tb_of (List.mem_of_getElem? (i := 69) (by decide +kernel)) rfl, zw_tb_of (List.mem_of_getElem? (i := 864) (by decide +kernel)) rfl, ⟨by decide +kernel, by decide +kernel, by decide +kernel⟩, Nat.le_of_ble_eq_true rfl, ⟨_, rfl, rfl⟩, by decide⟩
abbrev mX9_bads : zw_M := (yX9_bads, cX9_bads, 3, some .int)
theorem vmX9_bads : zw_VM mX9_bads 0 9 := ⟨zw_tb_of (List.mem_of_getElem? (i := 899) (by decide +kernel)) rfl, zw_tb_of (List.mem_of_getElem? (i := 32) (by decide +kernel)) rfl, zw_tb_of (List.mem_of_getElem? (i := 69) (by decide +kernel)) rfl, zw_tb_of (List.mem_of_getElem? (i := 900) (by decide +kernel)) rfl, ⟨by decide +kernel, by decide +kernel, by decide +kernel⟩, Nat.le_of_ble_eq_true rfl, ⟨_, rfl, rfl⟩, by decide⟩
abbrev mX9_firstBad : zw_M := (yX9_firstBad, cX9_firstBad, 2, some .int)
theorem vmX9_firstBad : zw_VM mX9_firstBad 0 9 := ⟨zw_tb_of (List.mem_of_getElem? (i := 931) (by decide +kernel)) rfl, zw_tb_of (List.mem_of_getElem? (i := 40) (by decide +kernel)) rfl, zw_tb_of (List.mem_of_getElem? (i := 69) (by decide +kernel)) rfl, zw_tb_of (List.mem_of_getElem? (i := 932) (by decide +kernel)) rfl, ⟨by decide +kernel, by decide +kernel, by decide +kernel⟩, Nat.le_of_ble_eq_true rfl, ⟨_, rfl, rfl⟩, by decide⟩
abbrev mX9_mayStand : zw_M := (yX9_mayStand, cX9_mayStand, 7, some .long)
theorem vmX9_mayStand : zw_VM mX9_mayStand 3 9 := ⟨zw_tb_of (List.mem_of_getElem? (i := 801) (by decide +kernel)) rfl, zw_tb_of (List.mem_of_getElem? (i := 13) (by decide +kernel)) rfl, zw_tb_of (List.mem_of_getElem? (i := 69) (by decide +kernel)) rfl, zw_tb_of (List.mem_of_getElem? (i := 802) (by decide +kernel)) rfl, ⟨by decide +kernel, by decide +kernel, by decide +kernel⟩, Nat.le_of_ble_eq_true rfl, ⟨_, rfl, rfl⟩, by decide⟩
abbrev mX9_countPlains : zw_M := (yX9_countPlains, cX9_countPlains, 6, none)
theorem vmX9_countPlains : zw_VM mX9_countPlains 0 9 := ⟨zw_tb_of (List.mem_of_getElem? (i := 797) (by decide +kernel)) rfl, zw_tb_of (List.mem_of_getElem? (i := 12) (by decide +kernel)) rfl, zw_tb_of (List.mem_of_getElem? (i := 69) (by decide +kernel)) rfl, zw_tb_of (List.mem_of_getElem? (i := 798) (by decide +kernel)) rfl, ⟨by decide +kernel, by decide +kernel, by decide +kernel⟩, Nat.le_of_ble_eq_true rfl, ⟨_, rfl, rfl⟩, by decide⟩
abbrev mX9_plainOf : zw_M := (yX9_plainOf, cX9_plainOf, 2, some .long)
theorem vmX9_plainOf : zw_VM mX9_plainOf 1 9 := ⟨zw_tb_of (List.mem_of_getElem? (i := 805) (by decide +kernel)) rfl, zw_tb_of (List.mem_of_getElem? (i := 14) (by decide +kernel)) rfl, zw_tb_of (List.mem_of_getElem? (i := 69) (by decide +kernel)) rfl, zw_tb_of (List.mem_of_getElem? (i := 806) (by decide +kernel)) rfl, ⟨by decide +kernel, by decide +kernel, by decide +kernel⟩, Nat.le_of_ble_eq_true rfl, ⟨_, rfl, rfl⟩, by decide⟩
abbrev mX9_powerUp : zw_M := (yX9_powerUp, cX9_powerUp, 3, none)
theorem vmX9_powerUp : zw_VM mX9_powerUp 0 9 := ⟨zw_tb_of (List.mem_of_getElem? (i := 817) (by decide +kernel)) rfl, zw_tb_of (List.mem_of_getElem? (i := 16) (by decide +kernel)) rfl, zw_tb_of (List.mem_of_getElem? (i := 69) (by decide +kernel)) rfl, zw_tb_of (List.mem_of_getElem? (i := 818) (by decide +kernel)) rfl, ⟨by decide +kernel, by decide +kernel, by decide +kernel⟩, Nat.le_of_ble_eq_true rfl, ⟨_, rfl, rfl⟩, by decide⟩
abbrev mX9_undoSeries : zw_M := (yX9_undoSeries, cX9_undoSeries, 5, none)
theorem vmX9_undoSeries : zw_VM mX9_undoSeries 0 9 := ⟨zw_tb_of (List.mem_of_getElem? (i := 813) (by decide +kernel)) rfl, zw_tb_of (List.mem_of_getElem? (i := 15) (by decide +kernel)) rfl, zw_tb_of (List.mem_of_getElem? (i := 69) (by decide +kernel)) rfl, zw_tb_of (List.mem_of_getElem? (i := 814) (by decide +kernel)) rfl, ⟨by decide +kernel, by decide +kernel, by decide +kernel⟩, Nat.le_of_ble_eq_true rfl, ⟨_, rfl, rfl⟩, by decide⟩
abbrev mX9_count : zw_M := (yX9_count, cX9_count, 2, some .long)
theorem vmX9_count : zw_VM mX9_count 1 9 := ⟨zw_tb_of (List.mem_of_getElem? (i := 788) (by decide +kernel)) rfl, zw_tb_of (List.mem_of_getElem? (i := 789) (by decide +kernel)) rfl, zw_tb_of (List.mem_of_getElem? (i := 69) (by decide +kernel)) rfl, zw_tb_of (List.mem_of_getElem? (i := 790) (by decide +kernel)) rfl, ⟨by decide +kernel, by decide +kernel, by decide +kernel⟩, Nat.le_of_ble_eq_true rfl, ⟨_, rfl, rfl⟩, by decide⟩
abbrev mX9_undoneBy : zw_M := (yX9_undoneBy, cX9_undoneBy, 2, some .long)
theorem vmX9_undoneBy : zw_VM mX9_undoneBy 1 9 := ⟨zw_tb_of (List.mem_of_getElem? (i := 808) (by decide +kernel)) rfl, zw_tb_of (List.mem_of_getElem? (i := 809) (by decide +kernel)) rfl, zw_tb_of (List.mem_of_getElem? (i := 69) (by decide +kernel)) rfl, zw_tb_of (List.mem_of_getElem? (i := 810) (by decide +kernel)) rfl, ⟨by decide +kernel, by decide +kernel, by decide +kernel⟩, Nat.le_of_ble_eq_true rfl, ⟨_, rfl, rfl⟩, by decide⟩
abbrev mX9_isPattern : zw_M := (yX9_isPattern, cX9_isPattern, 2, some .boolean)
theorem vmX9_isPattern : zw_VM mX9_isPattern 1 9 := ⟨zw_tb_of (List.mem_of_getElem? (i := 988) (by decide +kernel)) rfl, zw_tb_of (List.mem_of_getElem? (i := 52) (by decide +kernel)) rfl, zw_tb_of (List.mem_of_getElem? (i := 69) (by decide +kernel)) rfl, zw_tb_of (List.mem_of_getElem? (i := 989) (by decide +kernel)) rfl, ⟨by decide +kernel, by decide +kernel, by decide +kernel⟩, Nat.le_of_ble_eq_true rfl, ⟨_, rfl, rfl⟩, by decide⟩
abbrev mX9_comesFrom : zw_M := (yX9_comesFrom, cX9_comesFrom, 3, some .int)
theorem vmX9_comesFrom : zw_VM mX9_comesFrom 1 9 := ⟨zw_tb_of (List.mem_of_getElem? (i := 943) (by decide +kernel)) rfl, zw_tb_of (List.mem_of_getElem? (i := 43) (by decide +kernel)) rfl, zw_tb_of (List.mem_of_getElem? (i := 69) (by decide +kernel)) rfl, zw_tb_of (List.mem_of_getElem? (i := 944) (by decide +kernel)) rfl, ⟨by decide +kernel, by decide +kernel, by decide +kernel⟩, Nat.le_of_ble_eq_true rfl, ⟨_, rfl, rfl⟩, by decide⟩
abbrev mX9_dualOf : zw_M := (yX9_dualOf, cX9_dualOf, 4, some .int)
theorem vmX9_dualOf : zw_VM mX9_dualOf 1 9 := ⟨zw_tb_of (List.mem_of_getElem? (i := 939) (by decide +kernel)) rfl, zw_tb_of (List.mem_of_getElem? (i := 42) (by decide +kernel)) rfl, zw_tb_of (List.mem_of_getElem? (i := 69) (by decide +kernel)) rfl, zw_tb_of (List.mem_of_getElem? (i := 940) (by decide +kernel)) rfl, ⟨by decide +kernel, by decide +kernel, by decide +kernel⟩, Nat.le_of_ble_eq_true rfl, ⟨_, rfl, rfl⟩, by decide⟩
abbrev mX9_isOwnDual : zw_M := (yX9_isOwnDual, cX9_isOwnDual, 3, some .boolean)
theorem vmX9_isOwnDual : zw_VM mX9_isOwnDual 0 9 := ⟨zw_tb_of (List.mem_of_getElem? (i := 935) (by decide +kernel)) rfl, zw_tb_of (List.mem_of_getElem? (i := 41) (by decide +kernel)) rfl, zw_tb_of (List.mem_of_getElem? (i := 69) (by decide +kernel)) rfl, zw_tb_of (List.mem_of_getElem? (i := 936) (by decide +kernel)) rfl, ⟨by decide +kernel, by decide +kernel, by decide +kernel⟩, Nat.le_of_ble_eq_true rfl, ⟨_, rfl, rfl⟩, by decide⟩
abbrev mX9_feed : zw_M := (yX9_feed, cX9_feed, 2, some .int)
theorem vmX9_feed : zw_VM mX9_feed 1 9 := ⟨zw_tb_of (List.mem_of_getElem? (i := 820) (by decide +kernel)) rfl, zw_tb_of (List.mem_of_getElem? (i := 821) (by decide +kernel)) rfl, zw_tb_of (List.mem_of_getElem? (i := 69) (by decide +kernel)) rfl, zw_tb_of (List.mem_of_getElem? (i := 822) (by decide +kernel)) rfl, ⟨by decide +kernel, by decide +kernel, by decide +kernel⟩, Nat.le_of_ble_eq_true rfl, ⟨_, rfl, rfl⟩, by decide⟩
abbrev mX9_read : zw_M := (yX9_read, cX9_read, 5, some .int)
theorem vmX9_read : zw_VM mX9_read 0 9 := ⟨zw_tb_of (List.mem_of_getElem? (i := 831) (by decide +kernel)) rfl, zw_tb_of (List.mem_of_getElem? (i := 17) (by decide +kernel)) rfl, zw_tb_of (List.mem_of_getElem? (i := 69) (by decide +kernel)) rfl, zw_tb_of (List.mem_of_getElem? (i := 832) (by decide +kernel)) rfl, ⟨by decide +kernel, by decide +kernel, by decide +kernel⟩, Nat.le_of_ble_eq_true rfl, ⟨_, rfl, rfl⟩, by decide⟩
abbrev mX9_tell : zw_M := (yX9_tell, cX9_tell, 2, some .int)
theorem vmX9_tell : zw_VM mX9_tell 0 9 := ⟨zw_tb_of (List.mem_of_getElem? (i := 826) (by decide +kernel)) rfl, zw_tb_of (List.mem_of_getElem? (i := 827) (by decide +kernel)) rfl, zw_tb_of (List.mem_of_getElem? (i := 69) (by decide +kernel)) rfl, zw_tb_of (List.mem_of_getElem? (i := 828) (by decide +kernel)) rfl, ⟨by decide +kernel, by decide +kernel, by decide +kernel⟩, Nat.le_of_ble_eq_true rfl, ⟨_, rfl, rfl⟩, by decide⟩
abbrev mX9_fault : zw_M := (yX9_fault, cX9_fault, 1, some .int)
theorem vmX9_fault : zw_VM mX9_fault 0 9 := ⟨zw_tb_of (List.mem_of_getElem? (i := 854) (by decide +kernel)) rfl, zw_tb_of (List.mem_of_getElem? (i := 855) (by decide +kernel)) rfl, zw_tb_of (List.mem_of_getElem? (i := 69) (by decide +kernel)) rfl, zw_tb_of (List.mem_of_getElem? (i := 856) (by decide +kernel)) rfl, ⟨by decide +kernel, by decide +kernel, by decide +kernel⟩, Nat.le_of_ble_eq_true rfl, ⟨_, rfl, rfl⟩, by decide⟩
abbrev mX9_wrongEntry : zw_M := (yX9_wrongEntry, cX9_wrongEntry, 2, some .int)
theorem vmX9_wrongEntry : zw_VM mX9_wrongEntry 0 9 := ⟨zw_tb_of (List.mem_of_getElem? (i := 947) (by decide +kernel)) rfl, zw_tb_of (List.mem_of_getElem? (i := 44) (by decide +kernel)) rfl, zw_tb_of (List.mem_of_getElem? (i := 69) (by decide +kernel)) rfl, zw_tb_of (List.mem_of_getElem? (i := 948) (by decide +kernel)) rfl, ⟨by decide +kernel, by decide +kernel, by decide +kernel⟩, Nat.le_of_ble_eq_true rfl, ⟨_, rfl, rfl⟩, by decide⟩
abbrev mX9_told : zw_M := (yX9_told, cX9_told, 2, some .int)
theorem vmX9_told : zw_VM mX9_told 1 9 := ⟨zw_tb_of (List.mem_of_getElem? (i := 858) (by decide +kernel)) rfl, zw_tb_of (List.mem_of_getElem? (i := 859) (by decide +kernel)) rfl, zw_tb_of (List.mem_of_getElem? (i := 69) (by decide +kernel)) rfl, zw_tb_of (List.mem_of_getElem? (i := 860) (by decide +kernel)) rfl, ⟨by decide +kernel, by decide +kernel, by decide +kernel⟩, Nat.le_of_ble_eq_true rfl, ⟨_, rfl, rfl⟩, by decide⟩
abbrev mX9_turnedCode : zw_M := (yX9_turnedCode, cX9_turnedCode, 1, some .int)
theorem vmX9_turnedCode : zw_VM mX9_turnedCode 0 9 := ⟨zw_tb_of (List.mem_of_getElem? (i := 972) (by decide +kernel)) rfl, zw_tb_of (List.mem_of_getElem? (i := 49) (by decide +kernel)) rfl, zw_tb_of (List.mem_of_getElem? (i := 69) (by decide +kernel)) rfl, zw_tb_of (List.mem_of_getElem? (i := 973) (by decide +kernel)) rfl, ⟨by decide +kernel, by decide +kernel, by decide +kernel⟩, Nat.le_of_ble_eq_true rfl, ⟨_, rfl, rfl⟩, by decide⟩
abbrev mX9_ofPlain : zw_M := (yX9_ofPlain, cX9_ofPlain, 3, some .int)
theorem vmX9_ofPlain : zw_VM mX9_ofPlain 1 9 := ⟨zw_tb_of (List.mem_of_getElem? (i := 968) (by decide +kernel)) rfl, zw_tb_of (List.mem_of_getElem? (i := 48) (by decide +kernel)) rfl, zw_tb_of (List.mem_of_getElem? (i := 69) (by decide +kernel)) rfl, zw_tb_of (List.mem_of_getElem? (i := 969) (by decide +kernel)) rfl, ⟨by decide +kernel, by decide +kernel, by decide +kernel⟩, Nat.le_of_ble_eq_true rfl, ⟨_, rfl, rfl⟩, by decide⟩
abbrev mX9_tree : zw_M := (yX9_tree, cX9_tree, 3, some .int)
theorem vmX9_tree : zw_VM mX9_tree 2 9 := ⟨zw_tb_of (List.mem_of_getElem? (i := 954) (by decide +kernel)) rfl, zw_tb_of (List.mem_of_getElem? (i := 955) (by decide +kernel)) rfl, zw_tb_of (List.mem_of_getElem? (i := 69) (by decide +kernel)) rfl, zw_tb_of (List.mem_of_getElem? (i := 956) (by decide +kernel)) rfl, ⟨by decide +kernel, by decide +kernel, by decide +kernel⟩, Nat.le_of_ble_eq_true rfl, ⟨_, rfl, rfl⟩, by decide⟩
abbrev mX9_pattern : zw_M := (yX9_pattern, cX9_pattern, 3, some .int)
theorem vmX9_pattern : zw_VM mX9_pattern 2 9 := ⟨zw_tb_of (List.mem_of_getElem? (i := 983) (by decide +kernel)) rfl, zw_tb_of (List.mem_of_getElem? (i := 984) (by decide +kernel)) rfl, zw_tb_of (List.mem_of_getElem? (i := 69) (by decide +kernel)) rfl, zw_tb_of (List.mem_of_getElem? (i := 985) (by decide +kernel)) rfl, ⟨by decide +kernel, by decide +kernel, by decide +kernel⟩, Nat.le_of_ble_eq_true rfl, ⟨_, rfl, rfl⟩, by decide⟩
abbrev mX9_same : zw_M := (yX9_same, cX9_same, 5, some .int)
theorem vmX9_same : zw_VM mX9_same 2 9 := ⟨zw_tb_of (List.mem_of_getElem? (i := 991) (by decide +kernel)) rfl, zw_tb_of (List.mem_of_getElem? (i := 992) (by decide +kernel)) rfl, zw_tb_of (List.mem_of_getElem? (i := 69) (by decide +kernel)) rfl, zw_tb_of (List.mem_of_getElem? (i := 993) (by decide +kernel)) rfl, ⟨by decide +kernel, by decide +kernel, by decide +kernel⟩, Nat.le_of_ble_eq_true rfl, ⟨_, rfl, rfl⟩, by decide⟩
abbrev mX9_remember : zw_M := (yX9_remember, cX9_remember, 2, none)
theorem vmX9_remember : zw_VM mX9_remember 0 9 := ⟨zw_tb_of (List.mem_of_getElem? (i := 835) (by decide +kernel)) rfl, zw_tb_of (List.mem_of_getElem? (i := 18) (by decide +kernel)) rfl, zw_tb_of (List.mem_of_getElem? (i := 69) (by decide +kernel)) rfl, zw_tb_of (List.mem_of_getElem? (i := 836) (by decide +kernel)) rfl, ⟨by decide +kernel, by decide +kernel, by decide +kernel⟩, Nat.le_of_ble_eq_true rfl, ⟨_, rfl, rfl⟩, by decide⟩
abbrev mX9_shelve : zw_M := (yX9_shelve, cX9_shelve, 2, some .int)
theorem vmX9_shelve : zw_VM mX9_shelve 0 9 := ⟨zw_tb_of (List.mem_of_getElem? (i := 843) (by decide +kernel)) rfl, zw_tb_of (List.mem_of_getElem? (i := 20) (by decide +kernel)) rfl, zw_tb_of (List.mem_of_getElem? (i := 69) (by decide +kernel)) rfl, zw_tb_of (List.mem_of_getElem? (i := 844) (by decide +kernel)) rfl, ⟨by decide +kernel, by decide +kernel, by decide +kernel⟩, Nat.le_of_ble_eq_true rfl, ⟨_, rfl, rfl⟩, by decide⟩
abbrev mX9_lay : zw_M := (yX9_lay, cX9_lay, 2, none)
theorem vmX9_lay : zw_VM mX9_lay 1 9 := ⟨zw_tb_of (List.mem_of_getElem? (i := 847) (by decide +kernel)) rfl, zw_tb_of (List.mem_of_getElem? (i := 21) (by decide +kernel)) rfl, zw_tb_of (List.mem_of_getElem? (i := 69) (by decide +kernel)) rfl, zw_tb_of (List.mem_of_getElem? (i := 848) (by decide +kernel)) rfl, ⟨by decide +kernel, by decide +kernel, by decide +kernel⟩, Nat.le_of_ble_eq_true rfl, ⟨_, rfl, rfl⟩, by decide⟩
abbrev mX9_graft : zw_M := (yX9_graft, cX9_graft, 10, some .int)
theorem vmX9_graft : zw_VM mX9_graft 3 9 := ⟨zw_tb_of (List.mem_of_getElem? (i := 995) (by decide +kernel)) rfl, zw_tb_of (List.mem_of_getElem? (i := 996) (by decide +kernel)) rfl, zw_tb_of (List.mem_of_getElem? (i := 69) (by decide +kernel)) rfl, zw_tb_of (List.mem_of_getElem? (i := 997) (by decide +kernel)) rfl, ⟨by decide +kernel, by decide +kernel, by decide +kernel⟩, Nat.le_of_ble_eq_true rfl, ⟨_, rfl, rfl⟩, by decide⟩
abbrev mX9_step : zw_M := (yX9_step, cX9_step, 4, some .int)
theorem vmX9_step : zw_VM mX9_step 2 9 := ⟨zw_tb_of (List.mem_of_getElem? (i := 1004) (by decide +kernel)) rfl, zw_tb_of (List.mem_of_getElem? (i := 1005) (by decide +kernel)) rfl, zw_tb_of (List.mem_of_getElem? (i := 69) (by decide +kernel)) rfl, zw_tb_of (List.mem_of_getElem? (i := 1006) (by decide +kernel)) rfl, ⟨by decide +kernel, by decide +kernel, by decide +kernel⟩, Nat.le_of_ble_eq_true rfl, ⟨_, rfl, rfl⟩, by decide⟩
abbrev mX9_plain : zw_M := (yX9_plain, cX9_plain, 3, some .int)
theorem vmX9_plain : zw_VM mX9_plain 1 9 := ⟨zw_tb_of (List.mem_of_getElem? (i := 1008) (by decide +kernel)) rfl, zw_tb_of (List.mem_of_getElem? (i := 1009) (by decide +kernel)) rfl, zw_tb_of (List.mem_of_getElem? (i := 69) (by decide +kernel)) rfl, zw_tb_of (List.mem_of_getElem? (i := 1010) (by decide +kernel)) rfl, ⟨by decide +kernel, by decide +kernel, by decide +kernel⟩, Nat.le_of_ble_eq_true rfl, ⟨_, rfl, rfl⟩, by decide⟩
abbrev mX9_mirror : zw_M := (yX9_mirror, cX9_mirror, 2, some .int)
theorem vmX9_mirror : zw_VM mX9_mirror 1 9 := ⟨zw_tb_of (List.mem_of_getElem? (i := 1012) (by decide +kernel)) rfl, zw_tb_of (List.mem_of_getElem? (i := 1013) (by decide +kernel)) rfl, zw_tb_of (List.mem_of_getElem? (i := 69) (by decide +kernel)) rfl, zw_tb_of (List.mem_of_getElem? (i := 1014) (by decide +kernel)) rfl, ⟨by decide +kernel, by decide +kernel, by decide +kernel⟩, Nat.le_of_ble_eq_true rfl, ⟨_, rfl, rfl⟩, by decide⟩
abbrev mX9_take : zw_M := (yX9_take, cX9_take, 3, some .int)
theorem vmX9_take : zw_VM mX9_take 1 9 := ⟨zw_tb_of (List.mem_of_getElem? (i := 1016) (by decide +kernel)) rfl, zw_tb_of (List.mem_of_getElem? (i := 1017) (by decide +kernel)) rfl, zw_tb_of (List.mem_of_getElem? (i := 69) (by decide +kernel)) rfl, zw_tb_of (List.mem_of_getElem? (i := 1018) (by decide +kernel)) rfl, ⟨by decide +kernel, by decide +kernel, by decide +kernel⟩, Nat.le_of_ble_eq_true rfl, ⟨_, rfl, rfl⟩, by decide⟩
abbrev mX9_mayBecome : zw_M := (yX9_mayBecome, cX9_mayBecome, 3, some .boolean)
theorem vmX9_mayBecome : zw_VM mX9_mayBecome 2 9 := ⟨zw_tb_of (List.mem_of_getElem? (i := 1025) (by decide +kernel)) rfl, zw_tb_of (List.mem_of_getElem? (i := 54) (by decide +kernel)) rfl, zw_tb_of (List.mem_of_getElem? (i := 69) (by decide +kernel)) rfl, zw_tb_of (List.mem_of_getElem? (i := 1026) (by decide +kernel)) rfl, ⟨by decide +kernel, by decide +kernel, by decide +kernel⟩, Nat.le_of_ble_eq_true rfl, ⟨_, rfl, rfl⟩, by decide⟩
abbrev mX9_fate : zw_M := (yX9_fate, cX9_fate, 5, some .int)
theorem vmX9_fate : zw_VM mX9_fate 3 9 := ⟨zw_tb_of (List.mem_of_getElem? (i := 1020) (by decide +kernel)) rfl, zw_tb_of (List.mem_of_getElem? (i := 1021) (by decide +kernel)) rfl, zw_tb_of (List.mem_of_getElem? (i := 69) (by decide +kernel)) rfl, zw_tb_of (List.mem_of_getElem? (i := 1022) (by decide +kernel)) rfl, ⟨by decide +kernel, by decide +kernel, by decide +kernel⟩, Nat.le_of_ble_eq_true rfl, ⟨_, rfl, rfl⟩, by decide⟩
abbrev mX9_dual : zw_M := (yX9_dual, cX9_dual, 2, some .int)
theorem vmX9_dual : zw_VM mX9_dual 0 9 := ⟨zw_tb_of (List.mem_of_getElem? (i := 1028) (by decide +kernel)) rfl, zw_tb_of (List.mem_of_getElem? (i := 1029) (by decide +kernel)) rfl, zw_tb_of (List.mem_of_getElem? (i := 69) (by decide +kernel)) rfl, zw_tb_of (List.mem_of_getElem? (i := 1030) (by decide +kernel)) rfl, ⟨by decide +kernel, by decide +kernel, by decide +kernel⟩, Nat.le_of_ble_eq_true rfl, ⟨_, rfl, rfl⟩, by decide⟩
abbrev mX9_clear : zw_M := (yX9_clear, cX9_clear, 3, some .int)
theorem vmX9_clear : zw_VM mX9_clear 0 9 := ⟨zw_tb_of (List.mem_of_getElem? (i := 1032) (by decide +kernel)) rfl, zw_tb_of (List.mem_of_getElem? (i := 1033) (by decide +kernel)) rfl, zw_tb_of (List.mem_of_getElem? (i := 69) (by decide +kernel)) rfl, zw_tb_of (List.mem_of_getElem? (i := 1034) (by decide +kernel)) rfl, ⟨by decide +kernel, by decide +kernel, by decide +kernel⟩, Nat.le_of_ble_eq_true rfl, ⟨_, rfl, rfl⟩, by decide⟩
abbrev mX9_draw : zw_M := (yX9_draw, cX9_draw, 4, some .int)
theorem vmX9_draw : zw_VM mX9_draw 1 9 := ⟨zw_tb_of (List.mem_of_getElem? (i := 1045) (by decide +kernel)) rfl, zw_tb_of (List.mem_of_getElem? (i := 56) (by decide +kernel)) rfl, zw_tb_of (List.mem_of_getElem? (i := 69) (by decide +kernel)) rfl, zw_tb_of (List.mem_of_getElem? (i := 1046) (by decide +kernel)) rfl, ⟨by decide +kernel, by decide +kernel, by decide +kernel⟩, Nat.le_of_ble_eq_true rfl, ⟨_, rfl, rfl⟩, by decide⟩
abbrev mX9_put : zw_M := (yX9_put, cX9_put, 4, none)
theorem vmX9_put : zw_VM mX9_put 2 9 := ⟨zw_tb_of (List.mem_of_getElem? (i := 1053) (by decide +kernel)) rfl, zw_tb_of (List.mem_of_getElem? (i := 57) (by decide +kernel)) rfl, zw_tb_of (List.mem_of_getElem? (i := 69) (by decide +kernel)) rfl, zw_tb_of (List.mem_of_getElem? (i := 1054) (by decide +kernel)) rfl, ⟨by decide +kernel, by decide +kernel, by decide +kernel⟩, Nat.le_of_ble_eq_true rfl, ⟨_, rfl, rfl⟩, by decide⟩
abbrev mX9_chance : zw_M := (yX9_chance, cX9_chance, 4, none)
theorem vmX9_chance : zw_VM mX9_chance 0 9 := ⟨zw_tb_of (List.mem_of_getElem? (i := 1041) (by decide +kernel)) rfl, zw_tb_of (List.mem_of_getElem? (i := 55) (by decide +kernel)) rfl, zw_tb_of (List.mem_of_getElem? (i := 69) (by decide +kernel)) rfl, zw_tb_of (List.mem_of_getElem? (i := 1042) (by decide +kernel)) rfl, ⟨by decide +kernel, by decide +kernel, by decide +kernel⟩, Nat.le_of_ble_eq_true rfl, ⟨_, rfl, rfl⟩, by decide⟩
abbrev mX9_drift : zw_M := (yX9_drift, cX9_drift, 3, some .int)
theorem vmX9_drift : zw_VM mX9_drift 1 9 := ⟨zw_tb_of (List.mem_of_getElem? (i := 1036) (by decide +kernel)) rfl, zw_tb_of (List.mem_of_getElem? (i := 1037) (by decide +kernel)) rfl, zw_tb_of (List.mem_of_getElem? (i := 69) (by decide +kernel)) rfl, zw_tb_of (List.mem_of_getElem? (i := 1038) (by decide +kernel)) rfl, ⟨by decide +kernel, by decide +kernel, by decide +kernel⟩, Nat.le_of_ble_eq_true rfl, ⟨_, rfl, rfl⟩, by decide⟩
abbrev mX9_undo : zw_M := (yX9_undo, cX9_undo, 2, some .int)
theorem vmX9_undo : zw_VM mX9_undo 1 9 := ⟨zw_tb_of (List.mem_of_getElem? (i := 1056) (by decide +kernel)) rfl, zw_tb_of (List.mem_of_getElem? (i := 1057) (by decide +kernel)) rfl, zw_tb_of (List.mem_of_getElem? (i := 69) (by decide +kernel)) rfl, zw_tb_of (List.mem_of_getElem? (i := 1058) (by decide +kernel)) rfl, ⟨by decide +kernel, by decide +kernel, by decide +kernel⟩, Nat.le_of_ble_eq_true rfl, ⟨_, rfl, rfl⟩, by decide⟩
abbrev mX9_write : zw_M := (yX9_write, cX9_write, 3, some .int)
theorem vmX9_write : zw_VM mX9_write 2 9 := ⟨zw_tb_of (List.mem_of_getElem? (i := 1060) (by decide +kernel)) rfl, zw_tb_of (List.mem_of_getElem? (i := 1061) (by decide +kernel)) rfl, zw_tb_of (List.mem_of_getElem? (i := 69) (by decide +kernel)) rfl, zw_tb_of (List.mem_of_getElem? (i := 1062) (by decide +kernel)) rfl, ⟨by decide +kernel, by decide +kernel, by decide +kernel⟩, Nat.le_of_ble_eq_true rfl, ⟨_, rfl, rfl⟩, by decide⟩
abbrev mX9_tear : zw_M := (yX9_tear, cX9_tear, 2, some .int)
theorem vmX9_tear : zw_VM mX9_tear 0 9 := ⟨zw_tb_of (List.mem_of_getElem? (i := 1064) (by decide +kernel)) rfl, zw_tb_of (List.mem_of_getElem? (i := 1065) (by decide +kernel)) rfl, zw_tb_of (List.mem_of_getElem? (i := 69) (by decide +kernel)) rfl, zw_tb_of (List.mem_of_getElem? (i := 1066) (by decide +kernel)) rfl, ⟨by decide +kernel, by decide +kernel, by decide +kernel⟩, Nat.le_of_ble_eq_true rfl, ⟨_, rfl, rfl⟩, by decide⟩
abbrev mX9_seed : zw_M := (yX9_seed, cX9_seed, 3, some .int)
theorem vmX9_seed : zw_VM mX9_seed 1 9 := ⟨zw_tb_of (List.mem_of_getElem? (i := 1068) (by decide +kernel)) rfl, zw_tb_of (List.mem_of_getElem? (i := 1069) (by decide +kernel)) rfl, zw_tb_of (List.mem_of_getElem? (i := 69) (by decide +kernel)) rfl, zw_tb_of (List.mem_of_getElem? (i := 1070) (by decide +kernel)) rfl, ⟨by decide +kernel, by decide +kernel, by decide +kernel⟩, Nat.le_of_ble_eq_true rfl, ⟨_, rfl, rfl⟩, by decide⟩
abbrev mX9_keep : zw_M := (yX9_keep, cX9_keep, 2, some .int)
theorem vmX9_keep : zw_VM mX9_keep 1 9 := ⟨zw_tb_of (List.mem_of_getElem? (i := 1072) (by decide +kernel)) rfl, zw_tb_of (List.mem_of_getElem? (i := 1073) (by decide +kernel)) rfl, zw_tb_of (List.mem_of_getElem? (i := 69) (by decide +kernel)) rfl, zw_tb_of (List.mem_of_getElem? (i := 1074) (by decide +kernel)) rfl, ⟨by decide +kernel, by decide +kernel, by decide +kernel⟩, Nat.le_of_ble_eq_true rfl, ⟨_, rfl, rfl⟩, by decide⟩
abbrev mX9_goBack : zw_M := (yX9_goBack, cX9_goBack, 2, some .int)
theorem vmX9_goBack : zw_VM mX9_goBack 1 9 := ⟨zw_tb_of (List.mem_of_getElem? (i := 1076) (by decide +kernel)) rfl, zw_tb_of (List.mem_of_getElem? (i := 1077) (by decide +kernel)) rfl, zw_tb_of (List.mem_of_getElem? (i := 69) (by decide +kernel)) rfl, zw_tb_of (List.mem_of_getElem? (i := 1078) (by decide +kernel)) rfl, ⟨by decide +kernel, by decide +kernel, by decide +kernel⟩, Nat.le_of_ble_eq_true rfl, ⟨_, rfl, rfl⟩, by decide⟩
abbrev mJ9_floorMod_7cf53 : zw_M := (yJ9_floorMod_7cf53, cJ9_floorMod_7cf53, 3, some .int)
theorem smJ9_floorMod_7cf53 : zw_SM mJ9_floorMod_7cf53 2 := ⟨zw_tb_of (List.mem_of_getElem? (i := 674) (by decide +kernel)) rfl, zw_tb_of (List.mem_of_getElem? (i := 70) (by decide +kernel)) rfl, zw_tb_of (List.mem_of_getElem? (i := 675) (by decide +kernel)) rfl, ⟨by decide +kernel, by decide +kernel, by decide +kernel⟩, Nat.le_of_ble_eq_true rfl⟩
abbrev mJ9_max_7cf53 : zw_M := (yJ9_max_7cf53, cJ9_max_7cf53, 2, some .int)
theorem smJ9_max_7cf53 : zw_SM mJ9_max_7cf53 2 := ⟨zw_tb_of (List.mem_of_getElem? (i := 513) (by decide +kernel)) rfl, zw_tb_of (List.mem_of_getElem? (i := 70) (by decide +kernel)) rfl, zw_tb_of (List.mem_of_getElem? (i := 514) (by decide +kernel)) rfl, ⟨by decide +kernel, by decide +kernel, by decide +kernel⟩, Nat.le_of_ble_eq_true rfl⟩
abbrev mJ9_min_7cf53 : zw_M := (yJ9_min_7cf53, cJ9_min_7cf53, 2, some .int)
theorem smJ9_min_7cf53 : zw_SM mJ9_min_7cf53 2 := ⟨zw_tb_of (List.mem_of_getElem? (i := 332) (by decide +kernel)) rfl, zw_tb_of (List.mem_of_getElem? (i := 70) (by decide +kernel)) rfl, zw_tb_of (List.mem_of_getElem? (i := 333) (by decide +kernel)) rfl, ⟨by decide +kernel, by decide +kernel, by decide +kernel⟩, Nat.le_of_ble_eq_true rfl⟩
abbrev mJ7_fill_d0a16 : zw_M := (yJ7_fill_d0a16, cJ7_fill_d0a16, 5, none)
theorem smJ7_fill_d0a16 : zw_SM mJ7_fill_d0a16 2 := ⟨zw_tb_of (List.mem_of_getElem? (i := 558) (by decide +kernel)) rfl, zw_tb_of (List.mem_of_getElem? (i := 62) (by decide +kernel)) rfl, zw_tb_of (List.mem_of_getElem? (i := 559) (by decide +kernel)) rfl, ⟨by decide +kernel, by decide +kernel, by decide +kernel⟩, Nat.le_of_ble_eq_true rfl⟩
abbrev mJ7_fill_53178 : zw_M := (yJ7_fill_53178, cJ7_fill_53178, 4, none)
theorem smJ7_fill_53178 : zw_SM mJ7_fill_53178 2 := ⟨zw_tb_of (List.mem_of_getElem? (i := 93) (by decide +kernel)) rfl, zw_tb_of (List.mem_of_getElem? (i := 62) (by decide +kernel)) rfl, zw_tb_of (List.mem_of_getElem? (i := 94) (by decide +kernel)) rfl, ⟨by decide +kernel, by decide +kernel, by decide +kernel⟩, Nat.le_of_ble_eq_true rfl⟩
abbrev mL_law : zw_M := (yL_law, cL_law, 4, some .boolean)
theorem lkX4_18 : Cond.methodLink RX4 18 yJ7_fill_53178 ∈ zw_tb := zw_tb_of (List.mem_of_getElem? (i := 92) (by decide +kernel)) rfl
theorem lkL_13 : Cond.methodLink RL 13 yX8_feed ∈ zw_tb := zw_tb_of (List.mem_of_getElem? (i := 286) (by decide +kernel)) rfl
theorem kcX8_75 : Cond.constant RX8 75 (-1000000002) ∈ zw_tb := zw_tb_of (List.mem_of_getElem? (i := 290) (by decide +kernel)) rfl
theorem kcX8_76 : Cond.constant RX8 76 (-1000000004) ∈ zw_tb := zw_tb_of (List.mem_of_getElem? (i := 291) (by decide +kernel)) rfl
theorem lkL_18 : Cond.methodLink RL 18 yX8_tell ∈ zw_tb := zw_tb_of (List.mem_of_getElem? (i := 292) (by decide +kernel)) rfl
theorem lkX8_77 : Cond.methodLink RX8 77 yX6_isFull ∈ zw_tb := zw_tb_of (List.mem_of_getElem? (i := 296) (by decide +kernel)) rfl
theorem lkX8_81 : Cond.methodLink RX8 81 yX8_readText ∈ zw_tb := zw_tb_of (List.mem_of_getElem? (i := 300) (by decide +kernel)) rfl
theorem lkX8_93 : Cond.methodLink RX8 93 yX7_open ∈ zw_tb := zw_tb_of (List.mem_of_getElem? (i := 304) (by decide +kernel)) rfl
theorem lkX8_96 : Cond.methodLink RX8 96 yX8_figureOf ∈ zw_tb := zw_tb_of (List.mem_of_getElem? (i := 308) (by decide +kernel)) rfl
theorem lkX8_100 : Cond.methodLink RX8 100 yX7_append ∈ zw_tb := zw_tb_of (List.mem_of_getElem? (i := 311) (by decide +kernel)) rfl
theorem lkX8_85 : Cond.methodLink RX8 85 yX1_record ∈ zw_tb := zw_tb_of (List.mem_of_getElem? (i := 315) (by decide +kernel)) rfl
theorem lkX1_25 : Cond.methodLink RX1 25 yX1_slotAt ∈ zw_tb := zw_tb_of (List.mem_of_getElem? (i := 319) (by decide +kernel)) rfl
theorem lkX1_29 : Cond.methodLink RX1 29 yX6_copyFrom ∈ zw_tb := zw_tb_of (List.mem_of_getElem? (i := 323) (by decide +kernel)) rfl
theorem lkX6_62 : Cond.methodLink RX6 62 yX4_copyFrom ∈ zw_tb := zw_tb_of (List.mem_of_getElem? (i := 327) (by decide +kernel)) rfl
theorem lkX1_33 : Cond.methodLink RX1 33 yJ9_min_7cf53 ∈ zw_tb := zw_tb_of (List.mem_of_getElem? (i := 331) (by decide +kernel)) rfl
theorem lkX8_89 : Cond.methodLink RX8 89 yX6_add ∈ zw_tb := zw_tb_of (List.mem_of_getElem? (i := 334) (by decide +kernel)) rfl
theorem lkX6_53 : Cond.methodLink RX6 53 yX6_isFull ∈ zw_tb := zw_tb_of (List.mem_of_getElem? (i := 338) (by decide +kernel)) rfl
theorem kcX6_57 : Cond.constant RX6 57 (-1000000004) ∈ zw_tb := zw_tb_of (List.mem_of_getElem? (i := 339) (by decide +kernel)) rfl
theorem lkX6_58 : Cond.methodLink RX6 58 yX6_put ∈ zw_tb := zw_tb_of (List.mem_of_getElem? (i := 340) (by decide +kernel)) rfl
theorem lkX6_29 : Cond.methodLink RX6 29 yX6_has ∈ zw_tb := zw_tb_of (List.mem_of_getElem? (i := 344) (by decide +kernel)) rfl
theorem lkX6_46 : Cond.methodLink RX6 46 yX7_codeNow ∈ zw_tb := zw_tb_of (List.mem_of_getElem? (i := 348) (by decide +kernel)) rfl
theorem lkX7_32 : Cond.methodLink RX7 32 yX7_figureAt ∈ zw_tb := zw_tb_of (List.mem_of_getElem? (i := 352) (by decide +kernel)) rfl
theorem lkL_23 : Cond.methodLink RL 23 yX8_fault ∈ zw_tb := zw_tb_of (List.mem_of_getElem? (i := 356) (by decide +kernel)) rfl
theorem lkL_27 : Cond.methodLink RL 27 yX8_told ∈ zw_tb := zw_tb_of (List.mem_of_getElem? (i := 360) (by decide +kernel)) rfl
theorem lkX8_108 : Cond.methodLink RX8 108 yX3_judgeAll ∈ zw_tb := zw_tb_of (List.mem_of_getElem? (i := 364) (by decide +kernel)) rfl
theorem lkX3_38 : Cond.methodLink RX3 38 yX3_judgeOne ∈ zw_tb := zw_tb_of (List.mem_of_getElem? (i := 372) (by decide +kernel)) rfl
theorem lkX3_42 : Cond.methodLink RX3 42 yX7_readCode ∈ zw_tb := zw_tb_of (List.mem_of_getElem? (i := 376) (by decide +kernel)) rfl
theorem lkX7_25 : Cond.methodLink RX7 25 yX7_open ∈ zw_tb := zw_tb_of (List.mem_of_getElem? (i := 380) (by decide +kernel)) rfl
theorem lkX7_28 : Cond.methodLink RX7 28 yX7_append ∈ zw_tb := zw_tb_of (List.mem_of_getElem? (i := 381) (by decide +kernel)) rfl
theorem lkX3_46 : Cond.methodLink RX3 46 yX7_places ∈ zw_tb := zw_tb_of (List.mem_of_getElem? (i := 382) (by decide +kernel)) rfl
theorem lkX7_54 : Cond.methodLink RX7 54 yX7_patternAt ∈ zw_tb := zw_tb_of (List.mem_of_getElem? (i := 386) (by decide +kernel)) rfl
theorem lkX7_51 : Cond.methodLink RX7 51 yX7_endOf ∈ zw_tb := zw_tb_of (List.mem_of_getElem? (i := 390) (by decide +kernel)) rfl
theorem lkX7_57 : Cond.methodLink RX7 57 yX4_fateOf ∈ zw_tb := zw_tb_of (List.mem_of_getElem? (i := 394) (by decide +kernel)) rfl
theorem lkX4_24 : Cond.methodLink RX4 24 yX4_isPattern ∈ zw_tb := zw_tb_of (List.mem_of_getElem? (i := 398) (by decide +kernel)) rfl
theorem lkX3_50 : Cond.methodLink RX3 50 yX7_copyFrom ∈ zw_tb := zw_tb_of (List.mem_of_getElem? (i := 401) (by decide +kernel)) rfl
theorem lkX3_54 : Cond.methodLink RX3 54 yX7_spotOf ∈ zw_tb := zw_tb_of (List.mem_of_getElem? (i := 405) (by decide +kernel)) rfl
theorem lkX3_58 : Cond.methodLink RX3 58 yX7_stepAt ∈ zw_tb := zw_tb_of (List.mem_of_getElem? (i := 409) (by decide +kernel)) rfl
theorem lkX7_62 : Cond.methodLink RX7 62 yX7_becomeLeaf ∈ zw_tb := zw_tb_of (List.mem_of_getElem? (i := 413) (by decide +kernel)) rfl
theorem lkX7_65 : Cond.methodLink RX7 65 yX4_goalOf ∈ zw_tb := zw_tb_of (List.mem_of_getElem? (i := 417) (by decide +kernel)) rfl
theorem lkX7_68 : Cond.methodLink RX7 68 yX7_rebuild ∈ zw_tb := zw_tb_of (List.mem_of_getElem? (i := 421) (by decide +kernel)) rfl
theorem lkX7_71 : Cond.methodLink RX7 71 yX4_sideOf ∈ zw_tb := zw_tb_of (List.mem_of_getElem? (i := 425) (by decide +kernel)) rfl
theorem lkX7_47 : Cond.methodLink RX7 47 yX7_putFigure ∈ zw_tb := zw_tb_of (List.mem_of_getElem? (i := 428) (by decide +kernel)) rfl
theorem lkX3_61 : Cond.methodLink RX3 61 yX7_makePlain ∈ zw_tb := zw_tb_of (List.mem_of_getElem? (i := 432) (by decide +kernel)) rfl
theorem lkX7_74 : Cond.methodLink RX7 74 yX7_spotOf ∈ zw_tb := zw_tb_of (List.mem_of_getElem? (i := 436) (by decide +kernel)) rfl
theorem lkX7_78 : Cond.methodLink RX7 78 yX7_stepAt ∈ zw_tb := zw_tb_of (List.mem_of_getElem? (i := 437) (by decide +kernel)) rfl
theorem lkX3_64 : Cond.methodLink RX3 64 yX7_equalTo ∈ zw_tb := zw_tb_of (List.mem_of_getElem? (i := 438) (by decide +kernel)) rfl
theorem lkX7_40 : Cond.methodLink RX7 40 yX7_codeNow ∈ zw_tb := zw_tb_of (List.mem_of_getElem? (i := 442) (by decide +kernel)) rfl
theorem lkX3_68 : Cond.methodLink RX3 68 yJ9_min_7cf53 ∈ zw_tb := zw_tb_of (List.mem_of_getElem? (i := 443) (by decide +kernel)) rfl
theorem lkX8_124 : Cond.methodLink RX8 124 yX4_isOwnDual ∈ zw_tb := zw_tb_of (List.mem_of_getElem? (i := 444) (by decide +kernel)) rfl
theorem lkX4_45 : Cond.methodLink RX4 45 yX4_dualFate ∈ zw_tb := zw_tb_of (List.mem_of_getElem? (i := 448) (by decide +kernel)) rfl
theorem lkX4_32 : Cond.methodLink RX4 32 yX4_fateOf ∈ zw_tb := zw_tb_of (List.mem_of_getElem? (i := 452) (by decide +kernel)) rfl
theorem lkX4_28 : Cond.methodLink RX4 28 yX4_makerOf ∈ zw_tb := zw_tb_of (List.mem_of_getElem? (i := 453) (by decide +kernel)) rfl
theorem lkX4_39 : Cond.methodLink RX4 39 yX4_sideOf ∈ zw_tb := zw_tb_of (List.mem_of_getElem? (i := 457) (by decide +kernel)) rfl
theorem lkX4_42 : Cond.methodLink RX4 42 yX4_goalOf ∈ zw_tb := zw_tb_of (List.mem_of_getElem? (i := 458) (by decide +kernel)) rfl
theorem lkX8_130 : Cond.methodLink RX8 130 yX0_firstWrong ∈ zw_tb := zw_tb_of (List.mem_of_getElem? (i := 459) (by decide +kernel)) rfl
theorem lkX0_22 : Cond.methodLink RX0 22 yX6_has ∈ zw_tb := zw_tb_of (List.mem_of_getElem? (i := 463) (by decide +kernel)) rfl
theorem lkX0_28 : Cond.methodLink RX0 28 yX6_codeOf ∈ zw_tb := zw_tb_of (List.mem_of_getElem? (i := 464) (by decide +kernel)) rfl
theorem lkL_31 : Cond.methodLink RL 31 yX8_tree ∈ zw_tb := zw_tb_of (List.mem_of_getElem? (i := 468) (by decide +kernel)) rfl
theorem lkX8_135 : Cond.methodLink RX8 135 yX6_has ∈ zw_tb := zw_tb_of (List.mem_of_getElem? (i := 472) (by decide +kernel)) rfl
theorem kcX8_139 : Cond.constant RX8 139 (-1000000001) ∈ zw_tb := zw_tb_of (List.mem_of_getElem? (i := 473) (by decide +kernel)) rfl
theorem lkX8_140 : Cond.methodLink RX8 140 yX6_lend ∈ zw_tb := zw_tb_of (List.mem_of_getElem? (i := 474) (by decide +kernel)) rfl
theorem lkX6_33 : Cond.methodLink RX6 33 yX6_codeOf ∈ zw_tb := zw_tb_of (List.mem_of_getElem? (i := 478) (by decide +kernel)) rfl
theorem lkX6_37 : Cond.methodLink RX6 37 yX6_signOf ∈ zw_tb := zw_tb_of (List.mem_of_getElem? (i := 479) (by decide +kernel)) rfl
theorem lkX6_40 : Cond.methodLink RX6 40 yX7_readCode ∈ zw_tb := zw_tb_of (List.mem_of_getElem? (i := 483) (by decide +kernel)) rfl
theorem lkX8_144 : Cond.methodLink RX8 144 yX7_codeNow ∈ zw_tb := zw_tb_of (List.mem_of_getElem? (i := 484) (by decide +kernel)) rfl
theorem lkX8_150 : Cond.methodLink RX8 150 yX7_nodes ∈ zw_tb := zw_tb_of (List.mem_of_getElem? (i := 485) (by decide +kernel)) rfl
theorem lkX8_153 : Cond.methodLink RX8 153 yX7_places ∈ zw_tb := zw_tb_of (List.mem_of_getElem? (i := 489) (by decide +kernel)) rfl
theorem lkX8_157 : Cond.methodLink RX8 157 yX8_madePlain ∈ zw_tb := zw_tb_of (List.mem_of_getElem? (i := 490) (by decide +kernel)) rfl
theorem lkX8_167 : Cond.methodLink RX8 167 yX7_makePlain ∈ zw_tb := zw_tb_of (List.mem_of_getElem? (i := 494) (by decide +kernel)) rfl
theorem lkX8_160 : Cond.methodLink RX8 160 yX7_mirrorOf ∈ zw_tb := zw_tb_of (List.mem_of_getElem? (i := 495) (by decide +kernel)) rfl
theorem lkX7_91 : Cond.methodLink RX7 91 yX7_copyFrom ∈ zw_tb := zw_tb_of (List.mem_of_getElem? (i := 499) (by decide +kernel)) rfl
theorem lkX7_82 : Cond.methodLink RX7 82 yX7_handDown ∈ zw_tb := zw_tb_of (List.mem_of_getElem? (i := 500) (by decide +kernel)) rfl
theorem lkX7_43 : Cond.methodLink RX7 43 yX7_isNode ∈ zw_tb := zw_tb_of (List.mem_of_getElem? (i := 504) (by decide +kernel)) rfl
theorem lkX8_164 : Cond.methodLink RX8 164 yX7_height ∈ zw_tb := zw_tb_of (List.mem_of_getElem? (i := 508) (by decide +kernel)) rfl
theorem lkX7_85 : Cond.methodLink RX7 85 yJ9_max_7cf53 ∈ zw_tb := zw_tb_of (List.mem_of_getElem? (i := 512) (by decide +kernel)) rfl
theorem lkL_36 : Cond.methodLink RL 36 yX8_pattern ∈ zw_tb := zw_tb_of (List.mem_of_getElem? (i := 515) (by decide +kernel)) rfl
theorem lkX8_170 : Cond.methodLink RX8 170 yX4_isPattern ∈ zw_tb := zw_tb_of (List.mem_of_getElem? (i := 519) (by decide +kernel)) rfl
theorem lkX8_173 : Cond.methodLink RX8 173 yX4_fateOf ∈ zw_tb := zw_tb_of (List.mem_of_getElem? (i := 520) (by decide +kernel)) rfl
theorem lkX8_176 : Cond.methodLink RX8 176 yX4_goalOf ∈ zw_tb := zw_tb_of (List.mem_of_getElem? (i := 521) (by decide +kernel)) rfl
theorem lkX8_179 : Cond.methodLink RX8 179 yX4_makerOf ∈ zw_tb := zw_tb_of (List.mem_of_getElem? (i := 522) (by decide +kernel)) rfl
theorem lkL_40 : Cond.methodLink RL 40 yX8_same ∈ zw_tb := zw_tb_of (List.mem_of_getElem? (i := 523) (by decide +kernel)) rfl
theorem lkX8_182 : Cond.methodLink RX8 182 yX7_equalTo ∈ zw_tb := zw_tb_of (List.mem_of_getElem? (i := 527) (by decide +kernel)) rfl
theorem lkL_44 : Cond.methodLink RL 44 yX8_count ∈ zw_tb := zw_tb_of (List.mem_of_getElem? (i := 528) (by decide +kernel)) rfl
theorem lkX8_186 : Cond.methodLink RX8 186 yX5_covers ∈ zw_tb := zw_tb_of (List.mem_of_getElem? (i := 532) (by decide +kernel)) rfl
theorem kcX8_189 : Cond.constantLong RX8 189 (-1000000002) ∈ zw_tb := zw_tb_of (List.mem_of_getElem? (i := 535) (by decide +kernel)) rfl
theorem lkX8_191 : Cond.methodLink RX8 191 yX5_countTrees ∈ zw_tb := zw_tb_of (List.mem_of_getElem? (i := 536) (by decide +kernel)) rfl
theorem lkX5_26 : Cond.methodLink RX5 26 yX5_countRooted ∈ zw_tb := zw_tb_of (List.mem_of_getElem? (i := 540) (by decide +kernel)) rfl
theorem lkX5_30 : Cond.methodLink RX5 30 yX5_countBranches ∈ zw_tb := zw_tb_of (List.mem_of_getElem? (i := 544) (by decide +kernel)) rfl
theorem lkX5_34 : Cond.methodLink RX5 34 yX4_fateOf ∈ zw_tb := zw_tb_of (List.mem_of_getElem? (i := 548) (by decide +kernel)) rfl
theorem lkL_49 : Cond.methodLink RL 49 yX8_undoneBy ∈ zw_tb := zw_tb_of (List.mem_of_getElem? (i := 549) (by decide +kernel)) rfl
theorem lkX8_198 : Cond.methodLink RX8 198 yX5_undoTrees ∈ zw_tb := zw_tb_of (List.mem_of_getElem? (i := 553) (by decide +kernel)) rfl
theorem lkX5_40 : Cond.methodLink RX5 40 yJ7_fill_d0a16 ∈ zw_tb := zw_tb_of (List.mem_of_getElem? (i := 557) (by decide +kernel)) rfl
theorem lkX5_46 : Cond.methodLink RX5 46 arraycopyName ∈ zw_tb := zw_tb_of (List.mem_of_getElem? (i := 560) (by decide +kernel)) rfl
theorem lkX5_52 : Cond.methodLink RX5 52 yX5_raisePower ∈ zw_tb := zw_tb_of (List.mem_of_getElem? (i := 563) (by decide +kernel)) rfl
theorem lkL_53 : Cond.methodLink RL 53 yX8_graft ∈ zw_tb := zw_tb_of (List.mem_of_getElem? (i := 567) (by decide +kernel)) rfl
theorem lkX8_204 : Cond.methodLink RX8 204 yX7_leafAt ∈ zw_tb := zw_tb_of (List.mem_of_getElem? (i := 571) (by decide +kernel)) rfl
theorem lkX8_207 : Cond.methodLink RX8 207 yX7_hasRoomFor ∈ zw_tb := zw_tb_of (List.mem_of_getElem? (i := 575) (by decide +kernel)) rfl
theorem lkX7_36 : Cond.methodLink RX7 36 yX7_nodes ∈ zw_tb := zw_tb_of (List.mem_of_getElem? (i := 579) (by decide +kernel)) rfl
theorem kcX8_210 : Cond.constant RX8 210 (-1000000003) ∈ zw_tb := zw_tb_of (List.mem_of_getElem? (i := 580) (by decide +kernel)) rfl
theorem lkX8_211 : Cond.methodLink RX8 211 yX7_graftAt ∈ zw_tb := zw_tb_of (List.mem_of_getElem? (i := 581) (by decide +kernel)) rfl
theorem lkL_58 : Cond.methodLink RL 58 yX8_step ∈ zw_tb := zw_tb_of (List.mem_of_getElem? (i := 585) (by decide +kernel)) rfl
theorem lkX8_214 : Cond.methodLink RX8 214 yX7_spotOf ∈ zw_tb := zw_tb_of (List.mem_of_getElem? (i := 589) (by decide +kernel)) rfl
theorem lkX8_218 : Cond.methodLink RX8 218 yX7_stepAt ∈ zw_tb := zw_tb_of (List.mem_of_getElem? (i := 590) (by decide +kernel)) rfl
theorem lkX8_222 : Cond.methodLink RX8 222 yX6_put ∈ zw_tb := zw_tb_of (List.mem_of_getElem? (i := 591) (by decide +kernel)) rfl
theorem lkL_62 : Cond.methodLink RL 62 yX8_plain ∈ zw_tb := zw_tb_of (List.mem_of_getElem? (i := 592) (by decide +kernel)) rfl
theorem lkL_66 : Cond.methodLink RL 66 yX8_mirror ∈ zw_tb := zw_tb_of (List.mem_of_getElem? (i := 596) (by decide +kernel)) rfl
theorem lkX8_225 : Cond.methodLink RX8 225 yX6_codeOf ∈ zw_tb := zw_tb_of (List.mem_of_getElem? (i := 600) (by decide +kernel)) rfl
theorem lkL_70 : Cond.methodLink RL 70 yX8_take ∈ zw_tb := zw_tb_of (List.mem_of_getElem? (i := 601) (by decide +kernel)) rfl
theorem lkX8_228 : Cond.methodLink RX8 228 yX6_remove ∈ zw_tb := zw_tb_of (List.mem_of_getElem? (i := 605) (by decide +kernel)) rfl
theorem lkL_74 : Cond.methodLink RL 74 yX8_fate ∈ zw_tb := zw_tb_of (List.mem_of_getElem? (i := 609) (by decide +kernel)) rfl
theorem lkX8_231 : Cond.methodLink RX8 231 yX4_allows ∈ zw_tb := zw_tb_of (List.mem_of_getElem? (i := 613) (by decide +kernel)) rfl
theorem lkX8_235 : Cond.methodLink RX8 235 yX4_put ∈ zw_tb := zw_tb_of (List.mem_of_getElem? (i := 617) (by decide +kernel)) rfl
theorem lkL_78 : Cond.methodLink RL 78 yX8_dual ∈ zw_tb := zw_tb_of (List.mem_of_getElem? (i := 621) (by decide +kernel)) rfl
theorem lkX8_238 : Cond.methodLink RX8 238 yX4_turnDual ∈ zw_tb := zw_tb_of (List.mem_of_getElem? (i := 625) (by decide +kernel)) rfl
theorem lkL_82 : Cond.methodLink RL 82 yX8_clear ∈ zw_tb := zw_tb_of (List.mem_of_getElem? (i := 629) (by decide +kernel)) rfl
theorem lkX8_241 : Cond.methodLink RX8 241 yX4_bound ∈ zw_tb := zw_tb_of (List.mem_of_getElem? (i := 633) (by decide +kernel)) rfl
theorem lkX8_244 : Cond.methodLink RX8 244 yX4_release ∈ zw_tb := zw_tb_of (List.mem_of_getElem? (i := 637) (by decide +kernel)) rfl
theorem lkX4_35 : Cond.methodLink RX4 35 yX4_put ∈ zw_tb := zw_tb_of (List.mem_of_getElem? (i := 641) (by decide +kernel)) rfl
theorem lkL_86 : Cond.methodLink RL 86 yX8_drift ∈ zw_tb := zw_tb_of (List.mem_of_getElem? (i := 642) (by decide +kernel)) rfl
theorem lkX8_247 : Cond.methodLink RX8 247 yX8_drawTree ∈ zw_tb := zw_tb_of (List.mem_of_getElem? (i := 646) (by decide +kernel)) rfl
theorem lkX8_250 : Cond.methodLink RX8 250 yX8_draw ∈ zw_tb := zw_tb_of (List.mem_of_getElem? (i := 650) (by decide +kernel)) rfl
theorem kcX8_259 : Cond.constantLong RX8 259 (1103515245) ∈ zw_tb := zw_tb_of (List.mem_of_getElem? (i := 654) (by decide +kernel)) rfl
theorem kcX8_261 : Cond.constantLong RX8 261 (12345) ∈ zw_tb := zw_tb_of (List.mem_of_getElem? (i := 655) (by decide +kernel)) rfl
theorem kcX8_263 : Cond.constantLong RX8 263 (2147483647) ∈ zw_tb := zw_tb_of (List.mem_of_getElem? (i := 656) (by decide +kernel)) rfl
theorem lkX8_253 : Cond.methodLink RX8 253 yX7_becomeNode ∈ zw_tb := zw_tb_of (List.mem_of_getElem? (i := 657) (by decide +kernel)) rfl
theorem lkX8_256 : Cond.methodLink RX8 256 yX7_leaves ∈ zw_tb := zw_tb_of (List.mem_of_getElem? (i := 661) (by decide +kernel)) rfl
theorem lkL_90 : Cond.methodLink RL 90 yX8_undo ∈ zw_tb := zw_tb_of (List.mem_of_getElem? (i := 665) (by decide +kernel)) rfl
theorem lkX8_265 : Cond.methodLink RX8 265 yX1_rewind ∈ zw_tb := zw_tb_of (List.mem_of_getElem? (i := 669) (by decide +kernel)) rfl
theorem lkX1_39 : Cond.methodLink RX1 39 yJ9_floorMod_7cf53 ∈ zw_tb := zw_tb_of (List.mem_of_getElem? (i := 673) (by decide +kernel)) rfl
theorem lkX1_42 : Cond.methodLink RX1 42 yJ9_max_7cf53 ∈ zw_tb := zw_tb_of (List.mem_of_getElem? (i := 676) (by decide +kernel)) rfl
theorem lkL_94 : Cond.methodLink RL 94 yX8_write ∈ zw_tb := zw_tb_of (List.mem_of_getElem? (i := 677) (by decide +kernel)) rfl
theorem lkX8_269 : Cond.methodLink RX8 269 yX0_isFull ∈ zw_tb := zw_tb_of (List.mem_of_getElem? (i := 681) (by decide +kernel)) rfl
theorem lkX8_270 : Cond.methodLink RX8 270 yX0_add ∈ zw_tb := zw_tb_of (List.mem_of_getElem? (i := 685) (by decide +kernel)) rfl
theorem lkL_98 : Cond.methodLink RL 98 yX8_tear ∈ zw_tb := zw_tb_of (List.mem_of_getElem? (i := 689) (by decide +kernel)) rfl
theorem lkL_102 : Cond.methodLink RL 102 yX8_seed ∈ zw_tb := zw_tb_of (List.mem_of_getElem? (i := 693) (by decide +kernel)) rfl
theorem lkL_106 : Cond.methodLink RL 106 yX8_keep ∈ zw_tb := zw_tb_of (List.mem_of_getElem? (i := 697) (by decide +kernel)) rfl
theorem lkX8_273 : Cond.methodLink RX8 273 yX8_imageAt ∈ zw_tb := zw_tb_of (List.mem_of_getElem? (i := 701) (by decide +kernel)) rfl
theorem lkX8_280 : Cond.methodLink RX8 280 yX6_copyFrom ∈ zw_tb := zw_tb_of (List.mem_of_getElem? (i := 705) (by decide +kernel)) rfl
theorem lkX8_290 : Cond.methodLink RX8 290 yX1_forget ∈ zw_tb := zw_tb_of (List.mem_of_getElem? (i := 706) (by decide +kernel)) rfl
theorem lkL_110 : Cond.methodLink RL 110 yX8_goBack ∈ zw_tb := zw_tb_of (List.mem_of_getElem? (i := 710) (by decide +kernel)) rfl
theorem lkL_48 : Cond.methodLink RL 48 yX9_count ∈ zw_tb := zw_tb_of (List.mem_of_getElem? (i := 787) (by decide +kernel)) rfl
theorem lkX9_54 : Cond.methodLink RX9 54 yX9_in ∈ zw_tb := zw_tb_of (List.mem_of_getElem? (i := 791) (by decide +kernel)) rfl
theorem kcX9_137 : Cond.constantLong RX9 137 (-1000000002) ∈ zw_tb := zw_tb_of (List.mem_of_getElem? (i := 794) (by decide +kernel)) rfl
theorem lkX9_127 : Cond.methodLink RX9 127 yX9_countPlains ∈ zw_tb := zw_tb_of (List.mem_of_getElem? (i := 795) (by decide +kernel)) rfl
theorem lkX9_123 : Cond.methodLink RX9 123 yX9_mayStand ∈ zw_tb := zw_tb_of (List.mem_of_getElem? (i := 799) (by decide +kernel)) rfl
theorem lkX9_133 : Cond.methodLink RX9 133 yX9_plainOf ∈ zw_tb := zw_tb_of (List.mem_of_getElem? (i := 803) (by decide +kernel)) rfl
theorem lkL_52 : Cond.methodLink RL 52 yX9_undoneBy ∈ zw_tb := zw_tb_of (List.mem_of_getElem? (i := 807) (by decide +kernel)) rfl
theorem lkX9_139 : Cond.methodLink RX9 139 yX9_undoSeries ∈ zw_tb := zw_tb_of (List.mem_of_getElem? (i := 811) (by decide +kernel)) rfl
theorem lkX9_130 : Cond.methodLink RX9 130 yX9_powerUp ∈ zw_tb := zw_tb_of (List.mem_of_getElem? (i := 815) (by decide +kernel)) rfl
theorem lkL_17 : Cond.methodLink RL 17 yX9_feed ∈ zw_tb := zw_tb_of (List.mem_of_getElem? (i := 819) (by decide +kernel)) rfl
theorem kcX9_148 : Cond.constant RX9 148 (-1000000002) ∈ zw_tb := zw_tb_of (List.mem_of_getElem? (i := 823) (by decide +kernel)) rfl
theorem kcX9_152 : Cond.constant RX9 152 (-1000000004) ∈ zw_tb := zw_tb_of (List.mem_of_getElem? (i := 824) (by decide +kernel)) rfl
theorem lkL_22 : Cond.methodLink RL 22 yX9_tell ∈ zw_tb := zw_tb_of (List.mem_of_getElem? (i := 825) (by decide +kernel)) rfl
theorem lkX9_153 : Cond.methodLink RX9 153 yX9_read ∈ zw_tb := zw_tb_of (List.mem_of_getElem? (i := 829) (by decide +kernel)) rfl
theorem lkX9_156 : Cond.methodLink RX9 156 yX9_remember ∈ zw_tb := zw_tb_of (List.mem_of_getElem? (i := 833) (by decide +kernel)) rfl
theorem lkX9_208 : Cond.methodLink RX9 208 yX9_copyRow ∈ zw_tb := zw_tb_of (List.mem_of_getElem? (i := 837) (by decide +kernel)) rfl
theorem lkX9_159 : Cond.methodLink RX9 159 yX9_shelve ∈ zw_tb := zw_tb_of (List.mem_of_getElem? (i := 841) (by decide +kernel)) rfl
theorem lkX9_211 : Cond.methodLink RX9 211 yX9_lay ∈ zw_tb := zw_tb_of (List.mem_of_getElem? (i := 845) (by decide +kernel)) rfl
theorem lkX9_117 : Cond.methodLink RX9 117 yX9_code ∈ zw_tb := zw_tb_of (List.mem_of_getElem? (i := 849) (by decide +kernel)) rfl
theorem lkL_26 : Cond.methodLink RL 26 yX9_fault ∈ zw_tb := zw_tb_of (List.mem_of_getElem? (i := 853) (by decide +kernel)) rfl
theorem lkL_30 : Cond.methodLink RL 30 yX9_told ∈ zw_tb := zw_tb_of (List.mem_of_getElem? (i := 857) (by decide +kernel)) rfl
theorem lkX9_168 : Cond.methodLink RX9 168 yX9_criticals ∈ zw_tb := zw_tb_of (List.mem_of_getElem? (i := 861) (by decide +kernel)) rfl
theorem lkX9_110 : Cond.methodLink RX9 110 yX9_isCritical ∈ zw_tb := zw_tb_of (List.mem_of_getElem? (i := 865) (by decide +kernel)) rfl
theorem lkX9_64 : Cond.methodLink RX9 64 yX9_open ∈ zw_tb := zw_tb_of (List.mem_of_getElem? (i := 869) (by decide +kernel)) rfl
theorem lkX9_102 : Cond.methodLink RX9 102 yX9_isTreeWord ∈ zw_tb := zw_tb_of (List.mem_of_getElem? (i := 873) (by decide +kernel)) rfl
theorem lkX9_106 : Cond.methodLink RX9 106 yX9_places ∈ zw_tb := zw_tb_of (List.mem_of_getElem? (i := 877) (by decide +kernel)) rfl
theorem lkX9_79 : Cond.methodLink RX9 79 yX9_isPlace ∈ zw_tb := zw_tb_of (List.mem_of_getElem? (i := 881) (by decide +kernel)) rfl
theorem lkX9_76 : Cond.methodLink RX9 76 yX9_patternAt ∈ zw_tb := zw_tb_of (List.mem_of_getElem? (i := 885) (by decide +kernel)) rfl
theorem lkX9_72 : Cond.methodLink RX9 72 yX9_branchOf ∈ zw_tb := zw_tb_of (List.mem_of_getElem? (i := 889) (by decide +kernel)) rfl
theorem lkX9_68 : Cond.methodLink RX9 68 yX9_behind ∈ zw_tb := zw_tb_of (List.mem_of_getElem? (i := 893) (by decide +kernel)) rfl
theorem lkX9_171 : Cond.methodLink RX9 171 yX9_bads ∈ zw_tb := zw_tb_of (List.mem_of_getElem? (i := 897) (by decide +kernel)) rfl
theorem lkX9_120 : Cond.methodLink RX9 120 yX9_isBad ∈ zw_tb := zw_tb_of (List.mem_of_getElem? (i := 901) (by decide +kernel)) rfl
theorem lkX9_96 : Cond.methodLink RX9 96 yX9_placeAt ∈ zw_tb := zw_tb_of (List.mem_of_getElem? (i := 905) (by decide +kernel)) rfl
theorem lkX9_99 : Cond.methodLink RX9 99 yX9_stepAt ∈ zw_tb := zw_tb_of (List.mem_of_getElem? (i := 909) (by decide +kernel)) rfl
theorem lkX9_86 : Cond.methodLink RX9 86 yX9_copyOther ∈ zw_tb := zw_tb_of (List.mem_of_getElem? (i := 913) (by decide +kernel)) rfl
theorem lkX9_89 : Cond.methodLink RX9 89 yX9_addOther ∈ zw_tb := zw_tb_of (List.mem_of_getElem? (i := 917) (by decide +kernel)) rfl
theorem lkX9_93 : Cond.methodLink RX9 93 yX9_takeOther ∈ zw_tb := zw_tb_of (List.mem_of_getElem? (i := 921) (by decide +kernel)) rfl
theorem lkX9_114 : Cond.methodLink RX9 114 yX9_makePlain ∈ zw_tb := zw_tb_of (List.mem_of_getElem? (i := 925) (by decide +kernel)) rfl
theorem lkX9_174 : Cond.methodLink RX9 174 yX9_firstBad ∈ zw_tb := zw_tb_of (List.mem_of_getElem? (i := 929) (by decide +kernel)) rfl
theorem lkX9_177 : Cond.methodLink RX9 177 yX9_isOwnDual ∈ zw_tb := zw_tb_of (List.mem_of_getElem? (i := 933) (by decide +kernel)) rfl
theorem lkX9_145 : Cond.methodLink RX9 145 yX9_dualOf ∈ zw_tb := zw_tb_of (List.mem_of_getElem? (i := 937) (by decide +kernel)) rfl
theorem lkX9_142 : Cond.methodLink RX9 142 yX9_comesFrom ∈ zw_tb := zw_tb_of (List.mem_of_getElem? (i := 941) (by decide +kernel)) rfl
theorem lkX9_180 : Cond.methodLink RX9 180 yX9_wrongEntry ∈ zw_tb := zw_tb_of (List.mem_of_getElem? (i := 945) (by decide +kernel)) rfl
theorem lkX9_165 : Cond.methodLink RX9 165 yX9_isTree ∈ zw_tb := zw_tb_of (List.mem_of_getElem? (i := 949) (by decide +kernel)) rfl
theorem lkL_35 : Cond.methodLink RL 35 yX9_tree ∈ zw_tb := zw_tb_of (List.mem_of_getElem? (i := 953) (by decide +kernel)) rfl
theorem kcX9_189 : Cond.constant RX9 189 (-1000000001) ∈ zw_tb := zw_tb_of (List.mem_of_getElem? (i := 957) (by decide +kernel)) rfl
theorem lkX9_190 : Cond.methodLink RX9 190 yX9_openTree ∈ zw_tb := zw_tb_of (List.mem_of_getElem? (i := 958) (by decide +kernel)) rfl
theorem lkX9_193 : Cond.methodLink RX9 193 yX9_nodes ∈ zw_tb := zw_tb_of (List.mem_of_getElem? (i := 962) (by decide +kernel)) rfl
theorem lkX9_196 : Cond.methodLink RX9 196 yX9_ofPlain ∈ zw_tb := zw_tb_of (List.mem_of_getElem? (i := 966) (by decide +kernel)) rfl
theorem lkX9_199 : Cond.methodLink RX9 199 yX9_turnedCode ∈ zw_tb := zw_tb_of (List.mem_of_getElem? (i := 970) (by decide +kernel)) rfl
theorem lkX9_186 : Cond.methodLink RX9 186 yX9_turn ∈ zw_tb := zw_tb_of (List.mem_of_getElem? (i := 974) (by decide +kernel)) rfl
theorem lkX9_202 : Cond.methodLink RX9 202 yX9_height ∈ zw_tb := zw_tb_of (List.mem_of_getElem? (i := 978) (by decide +kernel)) rfl
theorem lkL_39 : Cond.methodLink RL 39 yX9_pattern ∈ zw_tb := zw_tb_of (List.mem_of_getElem? (i := 982) (by decide +kernel)) rfl
theorem lkX9_205 : Cond.methodLink RX9 205 yX9_isPattern ∈ zw_tb := zw_tb_of (List.mem_of_getElem? (i := 986) (by decide +kernel)) rfl
theorem lkL_43 : Cond.methodLink RL 43 yX9_same ∈ zw_tb := zw_tb_of (List.mem_of_getElem? (i := 990) (by decide +kernel)) rfl
theorem lkL_57 : Cond.methodLink RL 57 yX9_graft ∈ zw_tb := zw_tb_of (List.mem_of_getElem? (i := 994) (by decide +kernel)) rfl
theorem lkX9_214 : Cond.methodLink RX9 214 yX9_leafAt ∈ zw_tb := zw_tb_of (List.mem_of_getElem? (i := 998) (by decide +kernel)) rfl
theorem kcX9_217 : Cond.constant RX9 217 (-1000000003) ∈ zw_tb := zw_tb_of (List.mem_of_getElem? (i := 1002) (by decide +kernel)) rfl
theorem lkL_61 : Cond.methodLink RL 61 yX9_step ∈ zw_tb := zw_tb_of (List.mem_of_getElem? (i := 1003) (by decide +kernel)) rfl
theorem lkL_65 : Cond.methodLink RL 65 yX9_plain ∈ zw_tb := zw_tb_of (List.mem_of_getElem? (i := 1007) (by decide +kernel)) rfl
theorem lkL_69 : Cond.methodLink RL 69 yX9_mirror ∈ zw_tb := zw_tb_of (List.mem_of_getElem? (i := 1011) (by decide +kernel)) rfl
theorem lkL_73 : Cond.methodLink RL 73 yX9_take ∈ zw_tb := zw_tb_of (List.mem_of_getElem? (i := 1015) (by decide +kernel)) rfl
theorem lkL_77 : Cond.methodLink RL 77 yX9_fate ∈ zw_tb := zw_tb_of (List.mem_of_getElem? (i := 1019) (by decide +kernel)) rfl
theorem lkX9_218 : Cond.methodLink RX9 218 yX9_mayBecome ∈ zw_tb := zw_tb_of (List.mem_of_getElem? (i := 1023) (by decide +kernel)) rfl
theorem lkL_81 : Cond.methodLink RL 81 yX9_dual ∈ zw_tb := zw_tb_of (List.mem_of_getElem? (i := 1027) (by decide +kernel)) rfl
theorem lkL_85 : Cond.methodLink RL 85 yX9_clear ∈ zw_tb := zw_tb_of (List.mem_of_getElem? (i := 1031) (by decide +kernel)) rfl
theorem lkL_89 : Cond.methodLink RL 89 yX9_drift ∈ zw_tb := zw_tb_of (List.mem_of_getElem? (i := 1035) (by decide +kernel)) rfl
theorem lkX9_237 : Cond.methodLink RX9 237 yX9_chance ∈ zw_tb := zw_tb_of (List.mem_of_getElem? (i := 1039) (by decide +kernel)) rfl
theorem lkX9_231 : Cond.methodLink RX9 231 yX9_draw ∈ zw_tb := zw_tb_of (List.mem_of_getElem? (i := 1043) (by decide +kernel)) rfl
theorem kcX9_224 : Cond.constantLong RX9 224 (1103515245) ∈ zw_tb := zw_tb_of (List.mem_of_getElem? (i := 1047) (by decide +kernel)) rfl
theorem kcX9_226 : Cond.constantLong RX9 226 (12345) ∈ zw_tb := zw_tb_of (List.mem_of_getElem? (i := 1048) (by decide +kernel)) rfl
theorem kcX9_228 : Cond.constantLong RX9 228 (2147483648) ∈ zw_tb := zw_tb_of (List.mem_of_getElem? (i := 1049) (by decide +kernel)) rfl
theorem kcX9_230 : Cond.constant RX9 230 (65536) ∈ zw_tb := zw_tb_of (List.mem_of_getElem? (i := 1050) (by decide +kernel)) rfl
theorem lkX9_234 : Cond.methodLink RX9 234 yX9_put ∈ zw_tb := zw_tb_of (List.mem_of_getElem? (i := 1051) (by decide +kernel)) rfl
theorem lkL_93 : Cond.methodLink RL 93 yX9_undo ∈ zw_tb := zw_tb_of (List.mem_of_getElem? (i := 1055) (by decide +kernel)) rfl
theorem lkL_97 : Cond.methodLink RL 97 yX9_write ∈ zw_tb := zw_tb_of (List.mem_of_getElem? (i := 1059) (by decide +kernel)) rfl
theorem lkL_101 : Cond.methodLink RL 101 yX9_tear ∈ zw_tb := zw_tb_of (List.mem_of_getElem? (i := 1063) (by decide +kernel)) rfl
theorem lkL_105 : Cond.methodLink RL 105 yX9_seed ∈ zw_tb := zw_tb_of (List.mem_of_getElem? (i := 1067) (by decide +kernel)) rfl
theorem lkL_109 : Cond.methodLink RL 109 yX9_keep ∈ zw_tb := zw_tb_of (List.mem_of_getElem? (i := 1071) (by decide +kernel)) rfl
theorem lkL_113 : Cond.methodLink RL 113 yX9_goBack ∈ zw_tb := zw_tb_of (List.mem_of_getElem? (i := 1075) (by decide +kernel)) rfl
theorem iw0 : ∀ w ∈ u_ws RX0 TX0 3, w ∈ zw_tb := by
  have e : u_ws RX0 TX0 3 = ([150, 152, 154] : List Nat).filterMap (fun i => lw_tbl[i]?) := by decide +kernel
  have g : (u_ws RX0 TX0 3).all goodWord = true := by decide +kernel
  intro w hw
  refine zw_tb_of ?_ (List.all_eq_true.mp g w hw)
  rw [e] at hw
  obtain ⟨i, -, hi⟩ := List.mem_filterMap.mp hw
  exact List.mem_of_getElem? hi
theorem iw1 : ∀ w ∈ u_ws RX1 TX1 3, w ∈ zw_tb := by
  have e : u_ws RX1 TX1 3 = ([131, 133, 135] : List Nat).filterMap (fun i => lw_tbl[i]?) := by decide +kernel
  have g : (u_ws RX1 TX1 3).all goodWord = true := by decide +kernel
  intro w hw
  refine zw_tb_of ?_ (List.all_eq_true.mp g w hw)
  rw [e] at hw
  obtain ⟨i, -, hi⟩ := List.mem_filterMap.mp hw
  exact List.mem_of_getElem? hi
theorem iw2 : ∀ w ∈ u_ws RX2 TX2 3, w ∈ zw_tb := by
  have e : u_ws RX2 TX2 3 = ([242, 244, 246] : List Nat).filterMap (fun i => lw_tbl[i]?) := by decide +kernel
  have g : (u_ws RX2 TX2 3).all goodWord = true := by decide +kernel
  intro w hw
  refine zw_tb_of ?_ (List.all_eq_true.mp g w hw)
  rw [e] at hw
  obtain ⟨i, -, hi⟩ := List.mem_filterMap.mp hw
  exact List.mem_of_getElem? hi
theorem iw3 : ∀ w ∈ u_ws RX3 TX3 5, w ∈ zw_tb := by
  have e : u_ws RX3 TX3 5 = ([192, 194, 196, 198, 200] : List Nat).filterMap (fun i => lw_tbl[i]?) := by decide +kernel
  have g : (u_ws RX3 TX3 5).all goodWord = true := by decide +kernel
  intro w hw
  refine zw_tb_of ?_ (List.all_eq_true.mp g w hw)
  rw [e] at hw
  obtain ⟨i, -, hi⟩ := List.mem_filterMap.mp hw
  exact List.mem_of_getElem? hi
theorem iw4 : ∀ w ∈ u_ws RX4 TX4 2, w ∈ zw_tb := by
  have e : u_ws RX4 TX4 2 = ([97, 99] : List Nat).filterMap (fun i => lw_tbl[i]?) := by decide +kernel
  have g : (u_ws RX4 TX4 2).all goodWord = true := by decide +kernel
  intro w hw
  refine zw_tb_of ?_ (List.all_eq_true.mp g w hw)
  rw [e] at hw
  obtain ⟨i, -, hi⟩ := List.mem_filterMap.mp hw
  exact List.mem_of_getElem? hi
theorem iw5 : ∀ w ∈ u_ws RX5 TX5 4, w ∈ zw_tb := by
  have e : u_ws RX5 TX5 4 = ([217, 219, 221, 223] : List Nat).filterMap (fun i => lw_tbl[i]?) := by decide +kernel
  have g : (u_ws RX5 TX5 4).all goodWord = true := by decide +kernel
  intro w hw
  refine zw_tb_of ?_ (List.all_eq_true.mp g w hw)
  rw [e] at hw
  obtain ⟨i, -, hi⟩ := List.mem_filterMap.mp hw
  exact List.mem_of_getElem? hi
theorem iw6 : ∀ w ∈ u_ws RX6 TX6 4, w ∈ zw_tb := by
  have e : u_ws RX6 TX6 4 = ([109, 111, 113, 115] : List Nat).filterMap (fun i => lw_tbl[i]?) := by decide +kernel
  have g : (u_ws RX6 TX6 4).all goodWord = true := by decide +kernel
  intro w hw
  refine zw_tb_of ?_ (List.all_eq_true.mp g w hw)
  rw [e] at hw
  obtain ⟨i, -, hi⟩ := List.mem_filterMap.mp hw
  exact List.mem_of_getElem? hi
theorem iw7 : ∀ w ∈ u_ws RX7 TX7 4, w ∈ zw_tb := by
  have e : u_ws RX7 TX7 4 = ([175, 177, 179, 181] : List Nat).filterMap (fun i => lw_tbl[i]?) := by decide +kernel
  have g : (u_ws RX7 TX7 4).all goodWord = true := by decide +kernel
  intro w hw
  refine zw_tb_of ?_ (List.all_eq_true.mp g w hw)
  rw [e] at hw
  obtain ⟨i, -, hi⟩ := List.mem_filterMap.mp hw
  exact List.mem_of_getElem? hi
theorem iw8 : ∀ w ∈ u_ws RX8 TX8 12, w ∈ zw_tb := by
  have e : u_ws RX8 TX8 12 = ([261, 263, 265, 267, 269, 271, 273, 275, 277, 279, 281, 283] : List Nat).filterMap (fun i => lw_tbl[i]?) := by decide +kernel
  have g : (u_ws RX8 TX8 12).all goodWord = true := by decide +kernel
  intro w hw
  refine zw_tb_of ?_ (List.all_eq_true.mp g w hw)
  rw [e] at hw
  obtain ⟨i, -, hi⟩ := List.mem_filterMap.mp hw
  exact List.mem_of_getElem? hi
theorem iw9 : ∀ w ∈ u_ws RX9 TX9 22, w ∈ zw_tb := by
  have e : u_ws RX9 TX9 22 = ([742, 744, 746, 748, 750, 752, 754, 756, 758, 760, 762, 764, 766, 768, 770, 772, 774, 776, 778, 780, 782, 784] : List Nat).filterMap (fun i => lw_tbl[i]?) := by decide +kernel
  have g : (u_ws RX9 TX9 22).all goodWord = true := by decide +kernel
  intro w hw
  refine zw_tb_of ?_ (List.all_eq_true.mp g w hw)
  rw [e] at hw
  obtain ⟨i, -, hi⟩ := List.mem_filterMap.mp hw
  exact List.mem_of_getElem? hi
theorem flX4_9 : zw_FL RX4 9 4 0 := ⟨RX4, TX4, 2, rfl, iw4, by decide, by decide, Or.inl (zw_tb_of (List.mem_of_getElem? (i := 95) (by decide +kernel)) rfl)⟩
theorem flX4_15 : zw_FL RX4 15 4 1 := ⟨RX4, TX4, 2, rfl, iw4, by decide, by decide, Or.inl (zw_tb_of (List.mem_of_getElem? (i := 96) (by decide +kernel)) rfl)⟩
theorem flX6_12 : zw_FL RX6 12 6 0 := ⟨RX6, TX6, 4, rfl, iw6, by decide, by decide, Or.inl (zw_tb_of (List.mem_of_getElem? (i := 103) (by decide +kernel)) rfl)⟩
theorem flX8_104 : zw_FL RX8 104 6 0 := ⟨RX6, TX6, 4, rfl, iw6, by decide, by decide, Or.inr ⟨"GraftRules", List.mem_of_getElem? (i := 104) (by decide +kernel)⟩⟩
theorem flX6_18 : zw_FL RX6 18 6 1 := ⟨RX6, TX6, 4, rfl, iw6, by decide, by decide, Or.inl (zw_tb_of (List.mem_of_getElem? (i := 105) (by decide +kernel)) rfl)⟩
theorem flX6_22 : zw_FL RX6 22 6 2 := ⟨RX6, TX6, 4, rfl, iw6, by decide, by decide, Or.inl (zw_tb_of (List.mem_of_getElem? (i := 106) (by decide +kernel)) rfl)⟩
theorem flX6_25 : zw_FL RX6 25 6 3 := ⟨RX6, TX6, 4, rfl, iw6, by decide, by decide, Or.inl (zw_tb_of (List.mem_of_getElem? (i := 107) (by decide +kernel)) rfl)⟩
theorem flX8_112 : zw_FL RX8 112 6 3 := ⟨RX6, TX6, 4, rfl, iw6, by decide, by decide, Or.inr ⟨"GraftRules", List.mem_of_getElem? (i := 108) (by decide +kernel)⟩⟩
theorem flX1_11 : zw_FL RX1 11 1 0 := ⟨RX1, TX1, 3, rfl, iw1, by decide, by decide, Or.inl (zw_tb_of (List.mem_of_getElem? (i := 127) (by decide +kernel)) rfl)⟩
theorem flX1_17 : zw_FL RX1 17 1 1 := ⟨RX1, TX1, 3, rfl, iw1, by decide, by decide, Or.inl (zw_tb_of (List.mem_of_getElem? (i := 128) (by decide +kernel)) rfl)⟩
theorem flX1_21 : zw_FL RX1 21 1 2 := ⟨RX1, TX1, 3, rfl, iw1, by decide, by decide, Or.inl (zw_tb_of (List.mem_of_getElem? (i := 129) (by decide +kernel)) rfl)⟩
theorem flX8_134 : zw_FL RX8 134 1 2 := ⟨RX1, TX1, 3, rfl, iw1, by decide, by decide, Or.inr ⟨"GraftRules", List.mem_of_getElem? (i := 130) (by decide +kernel)⟩⟩
theorem flX0_9 : zw_FL RX0 9 0 0 := ⟨RX0, TX0, 3, rfl, iw0, by decide, by decide, Or.inl (zw_tb_of (List.mem_of_getElem? (i := 146) (by decide +kernel)) rfl)⟩
theorem flX0_15 : zw_FL RX0 15 0 1 := ⟨RX0, TX0, 3, rfl, iw0, by decide, by decide, Or.inl (zw_tb_of (List.mem_of_getElem? (i := 147) (by decide +kernel)) rfl)⟩
theorem flX0_18 : zw_FL RX0 18 0 2 := ⟨RX0, TX0, 3, rfl, iw0, by decide, by decide, Or.inl (zw_tb_of (List.mem_of_getElem? (i := 148) (by decide +kernel)) rfl)⟩
theorem flX8_129 : zw_FL RX8 129 0 2 := ⟨RX0, TX0, 3, rfl, iw0, by decide, by decide, Or.inr ⟨"GraftRules", List.mem_of_getElem? (i := 149) (by decide +kernel)⟩⟩
theorem flX7_9 : zw_FL RX7 9 7 0 := ⟨RX7, TX7, 4, rfl, iw7, by decide, by decide, Or.inl (zw_tb_of (List.mem_of_getElem? (i := 169) (by decide +kernel)) rfl)⟩
theorem flX7_15 : zw_FL RX7 15 7 1 := ⟨RX7, TX7, 4, rfl, iw7, by decide, by decide, Or.inl (zw_tb_of (List.mem_of_getElem? (i := 170) (by decide +kernel)) rfl)⟩
theorem flX7_18 : zw_FL RX7 18 7 2 := ⟨RX7, TX7, 4, rfl, iw7, by decide, by decide, Or.inl (zw_tb_of (List.mem_of_getElem? (i := 171) (by decide +kernel)) rfl)⟩
theorem flX7_22 : zw_FL RX7 22 7 3 := ⟨RX7, TX7, 4, rfl, iw7, by decide, by decide, Or.inl (zw_tb_of (List.mem_of_getElem? (i := 172) (by decide +kernel)) rfl)⟩
theorem flX6_50 : zw_FL RX6 50 7 3 := ⟨RX7, TX7, 4, rfl, iw7, by decide, by decide, Or.inr ⟨"GraftRules", List.mem_of_getElem? (i := 173) (by decide +kernel)⟩⟩
theorem flX8_147 : zw_FL RX8 147 7 3 := ⟨RX7, TX7, 4, rfl, iw7, by decide, by decide, Or.inr ⟨"GraftRules", List.mem_of_getElem? (i := 174) (by decide +kernel)⟩⟩
theorem flX3_12 : zw_FL RX3 12 3 0 := ⟨RX3, TX3, 5, rfl, iw3, by decide, by decide, Or.inl (zw_tb_of (List.mem_of_getElem? (i := 184) (by decide +kernel)) rfl)⟩
theorem flX3_18 : zw_FL RX3 18 3 1 := ⟨RX3, TX3, 5, rfl, iw3, by decide, by decide, Or.inl (zw_tb_of (List.mem_of_getElem? (i := 185) (by decide +kernel)) rfl)⟩
theorem flX3_21 : zw_FL RX3 21 3 2 := ⟨RX3, TX3, 5, rfl, iw3, by decide, by decide, Or.inl (zw_tb_of (List.mem_of_getElem? (i := 186) (by decide +kernel)) rfl)⟩
theorem flX8_115 : zw_FL RX8 115 3 2 := ⟨RX3, TX3, 5, rfl, iw3, by decide, by decide, Or.inr ⟨"GraftRules", List.mem_of_getElem? (i := 187) (by decide +kernel)⟩⟩
theorem flX3_25 : zw_FL RX3 25 3 3 := ⟨RX3, TX3, 5, rfl, iw3, by decide, by decide, Or.inl (zw_tb_of (List.mem_of_getElem? (i := 188) (by decide +kernel)) rfl)⟩
theorem flX8_118 : zw_FL RX8 118 3 3 := ⟨RX3, TX3, 5, rfl, iw3, by decide, by decide, Or.inr ⟨"GraftRules", List.mem_of_getElem? (i := 189) (by decide +kernel)⟩⟩
theorem flX3_28 : zw_FL RX3 28 3 4 := ⟨RX3, TX3, 5, rfl, iw3, by decide, by decide, Or.inl (zw_tb_of (List.mem_of_getElem? (i := 190) (by decide +kernel)) rfl)⟩
theorem flX8_121 : zw_FL RX8 121 3 4 := ⟨RX3, TX3, 5, rfl, iw3, by decide, by decide, Or.inr ⟨"GraftRules", List.mem_of_getElem? (i := 191) (by decide +kernel)⟩⟩
theorem flX5_9 : zw_FL RX5 9 5 0 := ⟨RX5, TX5, 4, rfl, iw5, by decide, by decide, Or.inl (zw_tb_of (List.mem_of_getElem? (i := 211) (by decide +kernel)) rfl)⟩
theorem flX8_194 : zw_FL RX8 194 5 0 := ⟨RX5, TX5, 4, rfl, iw5, by decide, by decide, Or.inr ⟨"GraftRules", List.mem_of_getElem? (i := 212) (by decide +kernel)⟩⟩
theorem flX5_17 : zw_FL RX5 17 5 1 := ⟨RX5, TX5, 4, rfl, iw5, by decide, by decide, Or.inl (zw_tb_of (List.mem_of_getElem? (i := 213) (by decide +kernel)) rfl)⟩
theorem flX5_20 : zw_FL RX5 20 5 2 := ⟨RX5, TX5, 4, rfl, iw5, by decide, by decide, Or.inl (zw_tb_of (List.mem_of_getElem? (i := 214) (by decide +kernel)) rfl)⟩
theorem flX8_201 : zw_FL RX8 201 5 2 := ⟨RX5, TX5, 4, rfl, iw5, by decide, by decide, Or.inr ⟨"GraftRules", List.mem_of_getElem? (i := 215) (by decide +kernel)⟩⟩
theorem flX5_23 : zw_FL RX5 23 5 3 := ⟨RX5, TX5, 4, rfl, iw5, by decide, by decide, Or.inl (zw_tb_of (List.mem_of_getElem? (i := 216) (by decide +kernel)) rfl)⟩
theorem flX2_10 : zw_FL RX2 10 2 0 := ⟨RX2, TX2, 3, rfl, iw2, by decide, by decide, Or.inl (zw_tb_of (List.mem_of_getElem? (i := 236) (by decide +kernel)) rfl)⟩
theorem flX8_277 : zw_FL RX8 277 2 0 := ⟨RX2, TX2, 3, rfl, iw2, by decide, by decide, Or.inr ⟨"GraftRules", List.mem_of_getElem? (i := 237) (by decide +kernel)⟩⟩
theorem flX2_16 : zw_FL RX2 16 2 1 := ⟨RX2, TX2, 3, rfl, iw2, by decide, by decide, Or.inl (zw_tb_of (List.mem_of_getElem? (i := 238) (by decide +kernel)) rfl)⟩
theorem flX8_283 : zw_FL RX8 283 2 1 := ⟨RX2, TX2, 3, rfl, iw2, by decide, by decide, Or.inr ⟨"GraftRules", List.mem_of_getElem? (i := 239) (by decide +kernel)⟩⟩
theorem flX2_20 : zw_FL RX2 20 2 2 := ⟨RX2, TX2, 3, rfl, iw2, by decide, by decide, Or.inl (zw_tb_of (List.mem_of_getElem? (i := 240) (by decide +kernel)) rfl)⟩
theorem flX8_286 : zw_FL RX8 286 2 2 := ⟨RX2, TX2, 3, rfl, iw2, by decide, by decide, Or.inr ⟨"GraftRules", List.mem_of_getElem? (i := 241) (by decide +kernel)⟩⟩
theorem flX8_12 : zw_FL RX8 12 8 0 := ⟨RX8, TX8, 12, rfl, iw8, by decide, by decide, Or.inl (zw_tb_of (List.mem_of_getElem? (i := 249) (by decide +kernel)) rfl)⟩
theorem flX8_19 : zw_FL RX8 19 8 1 := ⟨RX8, TX8, 12, rfl, iw8, by decide, by decide, Or.inl (zw_tb_of (List.mem_of_getElem? (i := 250) (by decide +kernel)) rfl)⟩
theorem flX8_25 : zw_FL RX8 25 8 2 := ⟨RX8, TX8, 12, rfl, iw8, by decide, by decide, Or.inl (zw_tb_of (List.mem_of_getElem? (i := 251) (by decide +kernel)) rfl)⟩
theorem flX8_32 : zw_FL RX8 32 8 3 := ⟨RX8, TX8, 12, rfl, iw8, by decide, by decide, Or.inl (zw_tb_of (List.mem_of_getElem? (i := 252) (by decide +kernel)) rfl)⟩
theorem flX8_39 : zw_FL RX8 39 8 4 := ⟨RX8, TX8, 12, rfl, iw8, by decide, by decide, Or.inl (zw_tb_of (List.mem_of_getElem? (i := 253) (by decide +kernel)) rfl)⟩
theorem flX8_46 : zw_FL RX8 46 8 5 := ⟨RX8, TX8, 12, rfl, iw8, by decide, by decide, Or.inl (zw_tb_of (List.mem_of_getElem? (i := 254) (by decide +kernel)) rfl)⟩
theorem flX8_53 : zw_FL RX8 53 8 6 := ⟨RX8, TX8, 12, rfl, iw8, by decide, by decide, Or.inl (zw_tb_of (List.mem_of_getElem? (i := 255) (by decide +kernel)) rfl)⟩
theorem flX8_57 : zw_FL RX8 57 8 7 := ⟨RX8, TX8, 12, rfl, iw8, by decide, by decide, Or.inl (zw_tb_of (List.mem_of_getElem? (i := 256) (by decide +kernel)) rfl)⟩
theorem flX8_60 : zw_FL RX8 60 8 8 := ⟨RX8, TX8, 12, rfl, iw8, by decide, by decide, Or.inl (zw_tb_of (List.mem_of_getElem? (i := 257) (by decide +kernel)) rfl)⟩
theorem flX8_64 : zw_FL RX8 64 8 9 := ⟨RX8, TX8, 12, rfl, iw8, by decide, by decide, Or.inl (zw_tb_of (List.mem_of_getElem? (i := 258) (by decide +kernel)) rfl)⟩
theorem flX8_68 : zw_FL RX8 68 8 10 := ⟨RX8, TX8, 12, rfl, iw8, by decide, by decide, Or.inl (zw_tb_of (List.mem_of_getElem? (i := 259) (by decide +kernel)) rfl)⟩
theorem flX8_71 : zw_FL RX8 71 8 11 := ⟨RX8, TX8, 12, rfl, iw8, by decide, by decide, Or.inl (zw_tb_of (List.mem_of_getElem? (i := 260) (by decide +kernel)) rfl)⟩
theorem gsX3_31 : Cond.fieldLinkNest RX3 31 "GraftRules" "SECOND_WEIGHT" "[I" "GraftRules" ∈ lw_tbl := List.mem_of_getElem? (i := 368) (by decide +kernel)
theorem gsX3_35 : Cond.fieldLinkNest RX3 35 "GraftRules" "THIRD_WEIGHT" "[I" "GraftRules" ∈ lw_tbl := List.mem_of_getElem? (i := 370) (by decide +kernel)
theorem flX9_7 : zw_FL RX9 7 9 0 := ⟨RX9, TX9, 22, rfl, iw9, by decide, by decide, Or.inl (zw_tb_of (List.mem_of_getElem? (i := 720) (by decide +kernel)) rfl)⟩
theorem flX9_183 : zw_FL RX9 183 9 1 := ⟨RX9, TX9, 22, rfl, iw9, by decide, by decide, Or.inl (zw_tb_of (List.mem_of_getElem? (i := 721) (by decide +kernel)) rfl)⟩
theorem flX9_240 : zw_FL RX9 240 9 2 := ⟨RX9, TX9, 22, rfl, iw9, by decide, by decide, Or.inl (zw_tb_of (List.mem_of_getElem? (i := 722) (by decide +kernel)) rfl)⟩
theorem flX9_221 : zw_FL RX9 221 9 3 := ⟨RX9, TX9, 22, rfl, iw9, by decide, by decide, Or.inl (zw_tb_of (List.mem_of_getElem? (i := 723) (by decide +kernel)) rfl)⟩
theorem flX9_13 : zw_FL RX9 13 9 4 := ⟨RX9, TX9, 22, rfl, iw9, by decide, by decide, Or.inl (zw_tb_of (List.mem_of_getElem? (i := 724) (by decide +kernel)) rfl)⟩
theorem flX9_16 : zw_FL RX9 16 9 5 := ⟨RX9, TX9, 22, rfl, iw9, by decide, by decide, Or.inl (zw_tb_of (List.mem_of_getElem? (i := 725) (by decide +kernel)) rfl)⟩
theorem flX9_149 : zw_FL RX9 149 9 6 := ⟨RX9, TX9, 22, rfl, iw9, by decide, by decide, Or.inl (zw_tb_of (List.mem_of_getElem? (i := 726) (by decide +kernel)) rfl)⟩
theorem flX9_19 : zw_FL RX9 19 9 7 := ⟨RX9, TX9, 22, rfl, iw9, by decide, by decide, Or.inl (zw_tb_of (List.mem_of_getElem? (i := 727) (by decide +kernel)) rfl)⟩
theorem flX9_23 : zw_FL RX9 23 9 8 := ⟨RX9, TX9, 22, rfl, iw9, by decide, by decide, Or.inl (zw_tb_of (List.mem_of_getElem? (i := 728) (by decide +kernel)) rfl)⟩
theorem flX9_26 : zw_FL RX9 26 9 9 := ⟨RX9, TX9, 22, rfl, iw9, by decide, by decide, Or.inl (zw_tb_of (List.mem_of_getElem? (i := 729) (by decide +kernel)) rfl)⟩
theorem flX9_162 : zw_FL RX9 162 9 10 := ⟨RX9, TX9, 22, rfl, iw9, by decide, by decide, Or.inl (zw_tb_of (List.mem_of_getElem? (i := 730) (by decide +kernel)) rfl)⟩
theorem flX9_29 : zw_FL RX9 29 9 11 := ⟨RX9, TX9, 22, rfl, iw9, by decide, by decide, Or.inl (zw_tb_of (List.mem_of_getElem? (i := 731) (by decide +kernel)) rfl)⟩
theorem flX9_58 : zw_FL RX9 58 9 12 := ⟨RX9, TX9, 22, rfl, iw9, by decide, by decide, Or.inl (zw_tb_of (List.mem_of_getElem? (i := 732) (by decide +kernel)) rfl)⟩
theorem flX9_61 : zw_FL RX9 61 9 13 := ⟨RX9, TX9, 22, rfl, iw9, by decide, by decide, Or.inl (zw_tb_of (List.mem_of_getElem? (i := 733) (by decide +kernel)) rfl)⟩
theorem flX9_32 : zw_FL RX9 32 9 14 := ⟨RX9, TX9, 22, rfl, iw9, by decide, by decide, Or.inl (zw_tb_of (List.mem_of_getElem? (i := 734) (by decide +kernel)) rfl)⟩
theorem flX9_83 : zw_FL RX9 83 9 15 := ⟨RX9, TX9, 22, rfl, iw9, by decide, by decide, Or.inl (zw_tb_of (List.mem_of_getElem? (i := 735) (by decide +kernel)) rfl)⟩
theorem flX9_35 : zw_FL RX9 35 9 16 := ⟨RX9, TX9, 22, rfl, iw9, by decide, by decide, Or.inl (zw_tb_of (List.mem_of_getElem? (i := 736) (by decide +kernel)) rfl)⟩
theorem flX9_38 : zw_FL RX9 38 9 17 := ⟨RX9, TX9, 22, rfl, iw9, by decide, by decide, Or.inl (zw_tb_of (List.mem_of_getElem? (i := 737) (by decide +kernel)) rfl)⟩
theorem flX9_42 : zw_FL RX9 42 9 18 := ⟨RX9, TX9, 22, rfl, iw9, by decide, by decide, Or.inl (zw_tb_of (List.mem_of_getElem? (i := 738) (by decide +kernel)) rfl)⟩
theorem flX9_45 : zw_FL RX9 45 9 19 := ⟨RX9, TX9, 22, rfl, iw9, by decide, by decide, Or.inl (zw_tb_of (List.mem_of_getElem? (i := 739) (by decide +kernel)) rfl)⟩
theorem flX9_48 : zw_FL RX9 48 9 20 := ⟨RX9, TX9, 22, rfl, iw9, by decide, by decide, Or.inl (zw_tb_of (List.mem_of_getElem? (i := 740) (by decide +kernel)) rfl)⟩
theorem flX9_51 : zw_FL RX9 51 9 21 := ⟨RX9, TX9, 22, rfl, iw9, by decide, by decide, Or.inl (zw_tb_of (List.mem_of_getElem? (i := 741) (by decide +kernel)) rfl)⟩
theorem fp_0_2 : zw_FP 0 2 .int := ⟨RX0, TX0, 3, tyX0, rfl, tyX0_ok, nmX0, rfl, by decide +kernel⟩
theorem fp_1_1 : zw_FP 1 1 .int := ⟨RX1, TX1, 3, tyX1, rfl, tyX1_ok, nmX1, rfl, by decide +kernel⟩
theorem fp_1_2 : zw_FP 1 2 .int := ⟨RX1, TX1, 3, tyX1, rfl, tyX1_ok, nmX1, rfl, by decide +kernel⟩
theorem fp_2_1 : zw_FP 2 1 .int := ⟨RX2, TX2, 3, tyX2, rfl, tyX2_ok, nmX2, rfl, by decide +kernel⟩
theorem fp_2_2 : zw_FP 2 2 .boolean := ⟨RX2, TX2, 3, tyX2, rfl, tyX2_ok, nmX2, rfl, by decide +kernel⟩
theorem fp_3_2 : zw_FP 3 2 .int := ⟨RX3, TX3, 5, tyX3, rfl, tyX3_ok, nmX3, rfl, by decide +kernel⟩
theorem fp_3_3 : zw_FP 3 3 .int := ⟨RX3, TX3, 5, tyX3, rfl, tyX3_ok, nmX3, rfl, by decide +kernel⟩
theorem fp_3_4 : zw_FP 3 4 .int := ⟨RX3, TX3, 5, tyX3, rfl, tyX3_ok, nmX3, rfl, by decide +kernel⟩
theorem fp_6_3 : zw_FP 6 3 .int := ⟨RX6, TX6, 4, tyX6, rfl, tyX6_ok, nmX6, rfl, by decide +kernel⟩
theorem fp_7_2 : zw_FP 7 2 .int := ⟨RX7, TX7, 4, tyX7, rfl, tyX7_ok, nmX7, rfl, by decide +kernel⟩
theorem fp_7_3 : zw_FP 7 3 .int := ⟨RX7, TX7, 4, tyX7, rfl, tyX7_ok, nmX7, rfl, by decide +kernel⟩
theorem fp_8_9 : zw_FP 8 9 .int := ⟨RX8, TX8, 12, tyX8, rfl, tyX8_ok, nmX8, rfl, by decide +kernel⟩
theorem fp_8_10 : zw_FP 8 10 .int := ⟨RX8, TX8, 12, tyX8, rfl, tyX8_ok, nmX8, rfl, by decide +kernel⟩
theorem fp_8_11 : zw_FP 8 11 .int := ⟨RX8, TX8, 12, tyX8, rfl, tyX8_ok, nmX8, rfl, by decide +kernel⟩
theorem fp_9_1 : zw_FP 9 1 .int := ⟨RX9, TX9, 22, tyX9, rfl, tyX9_ok, nmX9, rfl, by decide +kernel⟩
theorem fp_9_2 : zw_FP 9 2 .int := ⟨RX9, TX9, 22, tyX9, rfl, tyX9_ok, nmX9, rfl, by decide +kernel⟩
theorem fp_9_3 : zw_FP 9 3 .int := ⟨RX9, TX9, 22, tyX9, rfl, tyX9_ok, nmX9, rfl, by decide +kernel⟩
theorem fp_9_6 : zw_FP 9 6 .int := ⟨RX9, TX9, 22, tyX9, rfl, tyX9_ok, nmX9, rfl, by decide +kernel⟩
theorem fp_9_7 : zw_FP 9 7 .int := ⟨RX9, TX9, 22, tyX9, rfl, tyX9_ok, nmX9, rfl, by decide +kernel⟩
theorem fp_9_10 : zw_FP 9 10 .int := ⟨RX9, TX9, 22, tyX9, rfl, tyX9_ok, nmX9, rfl, by decide +kernel⟩
theorem fp_9_12 : zw_FP 9 12 .int := ⟨RX9, TX9, 22, tyX9, rfl, tyX9_ok, nmX9, rfl, by decide +kernel⟩
theorem fp_9_13 : zw_FP 9 13 .int := ⟨RX9, TX9, 22, tyX9, rfl, tyX9_ok, nmX9, rfl, by decide +kernel⟩
theorem fp_9_15 : zw_FP 9 15 .int := ⟨RX9, TX9, 22, tyX9, rfl, tyX9_ok, nmX9, rfl, by decide +kernel⟩
theorem kw_arraycopy_nat : Cond.native arraycopyName ∈ zw_tb := zw_tb_of (List.mem_of_getElem? (i := 562) (by decide +kernel)) rfl
theorem kw_arraycopy_st : Cond.static arraycopyName ∈ zw_tb := zw_tb_of (List.mem_of_getElem? (i := 561) (by decide +kernel)) rfl
theorem kw_sys : Cond.initialized "java/lang/System" ∈ zw_tb := zw_tb_of (List.mem_of_getElem? (i := 71) (by decide +kernel)) rfl
end
section
theorem zw_enter2 {l : Launch} {G : zw_G} {d : Nat} {M : zw_M} {as : List Value} {σ : zw_S} {P : Option Value → zw_S → Prop} {L : List (Option Value)} (hy : plainName M.1.cls = true) (hl : (zw_eL as).length ≤ M.2.2.1) (hL : zw_eL as ++ List.replicate (M.2.2.1 - (zw_eL as).length) none = L) (k : zw_W l G d M 0 L [] σ P) : zw_T l G d M as σ P := by
  refine zw_enter hy hl (fun j v h => ?_) k
  rw [← hL] at h
  rcases Nat.lt_or_ge j (zw_eL as).length with q | q
  · rwa [List.getElem?_append_left q] at h
  · rw [List.getElem?_append_right q, List.getElem?_replicate] at h
    split at h <;> simp at h
/-! numbers -/
theorem zn_lt {a b : Nat} (ha : a < 2147483648) (hb : b < 2147483648) : (nI a < nI b) = (a < b) := propext (nI_ltI ha hb)
theorem zn_le {a b : Nat} (ha : a < 2147483648) (hb : b < 2147483648) : (nI a ≤ nI b) = (a ≤ b) := propext (nI_leI ha hb)
theorem zn_eq {a b : Nat} (ha : a < 2147483648) (hb : b < 2147483648) : (nI a = nI b) = (a = b) := propext (nI_eq ha hb)
theorem zn_0 : (0 : Int32) = nI 0 := rfl
theorem zn_1 : (1 : Int32) = nI 1 := rfl
theorem zn_m1 (a : Nat) (ha : a < 2147483648) : (nI a = -1) = False := by
  have : (nI a).toInt = a := nI_toInt ha
  refine eq_false (fun h => ?_)
  rw [h] at this
  have h2 : ((-1 : Int32)).toInt = -1 := rfl
  omega
theorem zn_m1' (a : Nat) (ha : a < 2147483648) : ((-1 : Int32) = nI a) = False := by
  exact eq_false (fun h => by have := zn_m1 a ha; rw [← this]; exact h.symm)
theorem zn_neg (a : Nat) (ha : a < 2147483648) : (nI a < nI 0) = False := by rw [zn_lt ha (by decide)]; exact eq_false (by omega)
theorem zn_m1lt : ((-1 : Int32) < nI 0) = True := by decide
/-- an int that is no index below n -/
def zn_out (x : Int32) (n : Nat) : Prop := x < nI 0 ∨ nI n ≤ x
theorem zn_case (x : Int32) {n : Nat} (hn : n < 2147483648) : zn_out x n ∨ ∃ j : Nat, j < n ∧ x = nI j := by
  rcases pk_ix x hn with h | h | h
  · exact Or.inl (Or.inl h)
  · exact Or.inl (Or.inr h)
  · exact Or.inr h
theorem zn_out_m1 (n : Nat) : zn_out (-1) n := Or.inl (by decide)
/-- a pattern, or none: 8 -/
def zp_gI (g : Nat) : Int32 := if g < 8 then nI g else -1
theorem zp_gI_lt {g : Nat} (h : g < 8) : zp_gI g = nI g := if_pos h
theorem zp_gI_no {g : Nat} (h : ¬ g < 8) : zp_gI g = -1 := if_neg h
theorem zp_gI_eq {g k : Nat} (hk : k < 8) : (zp_gI g = nI k) = (g = k) := by
  unfold zp_gI
  split
  · rw [zn_eq (by omega) (by omega)]
  · rw [zn_m1' k (by omega)]
    exact (eq_false (by omega)).symm
theorem zp_gI_m1 {g : Nat} : (zp_gI g = -1) = (8 ≤ g) := by
  unfold zp_gI
  split
  · rw [zn_m1 g (by omega)]
    exact (eq_false (by omega)).symm
  · exact propext ⟨fun _ => by omega, fun _ => rfl⟩
/-- nothing changed in the store but what A names -/
def zw_F (A : Nat → Prop) (σ τ : zw_S) : Prop := τ.2 = σ.2 ∧ ∀ o, ¬ A o → τ.1 o = σ.1 o
theorem zw_F.rf {A : Nat → Prop} {σ : zw_S} : zw_F A σ σ := ⟨rfl, fun _ _ => rfl⟩
theorem zw_F.tr {A B C : Nat → Prop} {σ τ υ : zw_S} (h1 : zw_F A σ τ) (h2 : zw_F B τ υ) (ha : ∀ o, A o → C o) (hb : ∀ o, B o → C o) : zw_F C σ υ :=
  ⟨h2.1.trans h1.1, fun o h => (h2.2 o (fun q => h (hb o q))).trans (h1.2 o (fun q => h (ha o q)))⟩
theorem zw_F.mono {A B : Nat → Prop} {σ τ : zw_S} (h : zw_F A σ τ) (hb : ∀ o, A o → B o) : zw_F B σ τ := ⟨h.1, fun o q => h.2 o (fun z => q (hb o z))⟩
theorem zw_F.pI {A : Nat → Prop} {σ τ : zw_S} {o j : Nat} {v : Int32} (h : zw_F A σ τ) (ho : A o) : zw_F A σ (zw_pI τ o j v) :=
  ⟨h.1, fun k hk => by
    have : k ≠ o := fun e => hk (e ▸ ho)
    show (if k = o then _ else _) = _
    rw [if_neg this]
    exact h.2 k hk⟩
theorem zs_same (σ : zw_S) (o j : Nat) (v : Int32) : (zw_pI σ o j v).1 o j = v := by simp [zw_pI, upd]
theorem zs_slot {σ : zw_S} {o j i : Nat} {v : Int32} (h : i ≠ j) : (zw_pI σ o j v).1 o i = σ.1 o i := by simp [zw_pI, upd, h]
theorem zs_obj {σ : zw_S} {o j k : Nat} {v : Int32} (h : k ≠ o) : (zw_pI σ o j v).1 k = σ.1 k := by simp [zw_pI, h]
theorem zs_snd {σ : zw_S} {o j : Nat} {v : Int32} : (zw_pI σ o j v).2 = σ.2 := rfl
/-! lists by their places -/
theorem zl_kth {N s : Nat} {b : Nat → Bool} (hs : s < N) (hb : b s = true) : ((List.range N).filter b)[((List.range s).filter b).length]? = some s := by
  obtain ⟨m, rfl⟩ : ∃ m, N = s + 1 + m := ⟨N - (s + 1), by omega⟩
  have e : List.range (s + 1 + m) = List.range s ++ (s :: (List.range m).map (fun i => s + 1 + i)) := by
    rw [List.range_add, List.range_succ, List.append_assoc]
    rfl
  rw [e, List.filter_append, List.filter_cons, if_pos hb, List.getElem?_append_right (Nat.le_refl _), Nat.sub_self]
  rfl
theorem zl_fs {s : Nat} {b : Nat → Bool} (hb : b s = true) : ((List.range (s + 1)).filter b).length = ((List.range s).filter b).length + 1 := by
  rw [List.range_succ, List.filter_append, List.length_append]
  simp [hb]
theorem zl_fn {s : Nat} {b : Nat → Bool} (hb : b s = false) : ((List.range (s + 1)).filter b).length = ((List.range s).filter b).length := by
  rw [List.range_succ, List.filter_append, List.length_append]
  simp [hb]
theorem zl_fle {s : Nat} {b : Nat → Bool} : ((List.range s).filter b).length ≤ s := by
  have := List.length_filter_le b (List.range s)
  rwa [List.length_range] at this
/-- the k-th of a list, k any int -/
def zp_at (l : List Nat) (k : Int32) : Option Nat := if k < nI 0 then none else l[k.toNatClampNeg]?
theorem zp_at_n {l : List Nat} {k : Nat} (hk : k < 2147483648) : zp_at l (nI k) = l[k]? := by
  unfold zp_at
  rw [if_neg (by rw [zn_neg k hk]; exact id), nI_clamp hk]
theorem zp_at_no {l : List Nat} {k : Int32} (hl : l.length < 2147483648) (h : ∀ j, j < l.length → k ≠ nI j) : zp_at l k = none := by
  rcases zn_case k hl with h1 | ⟨j, hj, rfl⟩
  · unfold zp_at
    rcases h1 with h1 | h1
    · rw [if_pos h1]
    · split
      · rfl
      · next h2 =>
        obtain ⟨j, hj, rfl⟩ := nI_of h2
        rw [zn_le hl hj] at h1
        rw [nI_clamp hj]
        exact List.getElem?_eq_none h1
  · exact absurd rfl (h j hj)
theorem zw_W.mono {l : Launch} {G : zw_G} {d : Nat} {M : zw_M} {pc : Nat} {L : List (Option Value)} {st : List Value} {σ : zw_S} {P P' : Option Value → zw_S → Prop} (h : zw_W l G d M pc L st σ P) (hi : ∀ r s, P r s → P' r s) : zw_W l G d M pc L st σ P' :=
  fun p e R s m args below meth c H locs cells slots Q ls hC hP hS hL hR => h p e R s m args below meth c H locs cells slots Q ls hC hP hS hL (fun r σ' H' locs' pc' ls' hr => hR r σ' H' locs' pc' ls' (hi r σ' hr))
end
section
/-! the class's Rules: an object r, its fates r + 1, its goals r + 2 -/
/-- the shape of a Rules object -/
def zr_ok (r : Nat) : Prop := zw_kd r = 4 ∧ zw_kd (r + 1) = 10 ∧ zw_kd (r + 2) = 10 ∧ zw_ln (r + 1) = 8 ∧ zw_ln (r + 2) = 8
/-- it holds fates fa and goals go (8: none) -/
def zr_V (σ : zw_S) (r : Nat) (fa go : Nat → Nat) : Prop := ∀ p, p < 8 → fa p < 4 ∧ go p ≤ 8 ∧ (2 ≤ fa p ↔ go p < 8) ∧ σ.1 (r + 1) p = nI (fa p) ∧ σ.1 (r + 2) p = zp_gI (go p)
/-- who becomes q, looked for from 8 - n on: 8, none -/
def zr_mk (go : Nat → Nat) (q : Nat) : Nat → Nat
  | 0 => 8
  | n + 1 => if go (7 - n) = q then 7 - n else zr_mk go q n
theorem zr_mk_le (go : Nat → Nat) (q : Nat) : ∀ n, zr_mk go q n ≤ 8
  | 0 => Nat.le_refl 8
  | n + 1 => by
    unfold zr_mk
    split
    · omega
    · exact zr_mk_le go q n
/-- may pattern p have fate v, and become q -/
def zr_al (fa go : Nat → Nat) (p v q : Nat) : Bool := v == 0 || (zr_mk go p 8 == 8 && (v == 1 || (q != p && (fa q == 0 && (zr_mk go q 8 == 8 || zr_mk go q 8 == p)))))
/-- the dual's fate of p -/
def zr_df (fa go : Nat → Nat) (p : Nat) : Nat := if fa p = 0 then (if zr_mk go p 8 = 8 then 1 else 0) else if fa p = 1 then 0 else if p % 2 = go p % 2 then 5 - fa p else fa p
def zr_bd (fa : Nat → Nat) : Nat → Nat
  | 0 => 0
  | n + 1 => zr_bd fa n + (if fa n = 0 then 0 else 1)
theorem zr_bd_le (fa : Nat → Nat) : ∀ n, zr_bd fa n ≤ n
  | 0 => Nat.le_refl 0
  | n + 1 => by
    have := zr_bd_le fa n
    unfold zr_bd
    split <;> omega
def zr_up (f : Nat → Nat) (k v : Nat) : Nat → Nat := fun j => if j = k then v else f j
section Z10
variable {l : Launch} {G : zw_G} {d : Nat} {σ : zw_S} {r : Nat} {fa go : Nat → Nat}
theorem zr_V.f (h : zr_V σ r fa go) {p : Nat} (hp : p < 8) : σ.1 (r + 1) p = nI (fa p) := (h p hp).2.2.2.1
theorem zr_V.g (h : zr_V σ r fa go) {p : Nat} (hp : p < 8) : σ.1 (r + 2) p = zp_gI (go p) := (h p hp).2.2.2.2
theorem zr_V.cg {τ : zw_S} (h : zr_V σ r fa go) (h1 : τ.1 (r + 1) = σ.1 (r + 1)) (h2 : τ.1 (r + 2) = σ.1 (r + 2)) : zr_V τ r fa go := fun p hp => by rw [h1, h2]; exact h p hp
theorem c4_isPattern_in {p : Nat} (hp : p < 8) : zw_Ti l G (d + 1) mX4_isPattern [.int (nI p)] σ (fun r s => σ = s ∧ r = nI 1) := by
  refine zw_enter2 (L := [some _]) (by decide) (Nat.le_of_ble_eq_true rfl) rfl ?_
  refine zi_ild0 dX4_isPattern_0 ?_
  refine zi_if_lt 14 dX4_isPattern_1 (by decide) (fun c1 => ?_) (fun c1 => ?_)
  · rw [zn_0, zn_neg p (by omega)] at c1; exact c1.elim
  · refine zi_ild0 dX4_isPattern_4 ?_
    refine zi_bipush (nI 8) dX4_isPattern_5 (by decide) ?_
    refine zi_icmp_ge 14 dX4_isPattern_7 (by decide) (fun c7 => ?_) (fun c7 => ?_)
    · rw [zn_le (by omega) (by omega)] at c7; omega
    · refine zi_iconst (nI 1) dX4_isPattern_10 (by decide) ?_
      refine zi_goto 15 dX4_isPattern_11 (by decide) ?_
      refine zi_zret dX4_isPattern_15 rfl (by decide) ?_
      exact ⟨_, rfl, rfl, rfl⟩
theorem c4_isPattern_out {p : Int32} (hp : zn_out p 8) : zw_Ti l G (d + 1) mX4_isPattern [.int p] σ (fun r s => σ = s ∧ r = nI 0) := by
  refine zw_enter2 (L := [some _]) (by decide) (Nat.le_of_ble_eq_true rfl) rfl ?_
  refine zi_ild0 dX4_isPattern_0 ?_
  refine zi_if_lt 14 dX4_isPattern_1 (by decide) (fun c1 => ?_) (fun c1 => ?_)
  · refine zi_iconst (nI 0) dX4_isPattern_14 (by decide) ?_
    refine zi_zret dX4_isPattern_15 rfl (by decide) ?_
    exact ⟨_, rfl, rfl, rfl⟩
  · refine zi_ild0 dX4_isPattern_4 ?_
    refine zi_bipush (nI 8) dX4_isPattern_5 (by decide) ?_
    refine zi_icmp_ge 14 dX4_isPattern_7 (by decide) (fun c7 => ?_) (fun c7 => ?_)
    · refine zi_iconst (nI 0) dX4_isPattern_14 (by decide) ?_
      refine zi_zret dX4_isPattern_15 rfl (by decide) ?_
      exact ⟨_, rfl, rfl, rfl⟩
    · rcases hp with h | h
      · exact absurd h c1
      · exact absurd h c7
theorem c4_sideOf {p : Nat} (hp : p < 8) : zw_Ti l G (d + 1) mX4_sideOf [.int (nI p)] σ (fun r s => σ = s ∧ r = nI (p % 2)) := by
  refine zw_enter2 (L := [some _]) (by decide) (Nat.le_of_ble_eq_true rfl) rfl ?_
  refine zi_ild0 dX4_sideOf_0 ?_
  refine zi_iconst (nI 1) dX4_sideOf_1 (by decide) ?_
  refine zi_iand dX4_sideOf_2 ?_
  refine zi_iret dX4_sideOf_3 rfl ?_
  refine ⟨_, rfl, rfl, ?_⟩
  exact pk_andN (by omega) (m := nI 1) 1 rfl
theorem c4_fateOf (ho : zr_ok r) (h : zr_V σ r fa go) {p : Nat} (hp : p < 8) : zw_Ti l G (d + 2) mX4_fateOf [.ref r, .int (nI p)] σ (fun x s => σ = s ∧ x = nI (fa p)) := by
  obtain ⟨k0, k1, k2, l1, l2⟩ := ho
  refine zw_enter2 (L := [some _, some _]) (by decide) (Nat.le_of_ble_eq_true rfl) rfl ?_
  refine zi_ild1 dX4_fateOf_0 ?_
  refine zi_cS1i smX4_isPattern lkX4_24 dX4_fateOf_1 (Nat.le_of_ble_eq_true rfl) (c4_isPattern_in hp) ?_
  rintro _ _ ⟨rfl, rfl⟩
  refine zi_if_eq 16 dX4_fateOf_4 (by decide) (fun c4 => ?_) (fun c4 => ?_)
  · exact absurd c4 (by decide)
  · refine zi_ald0 dX4_fateOf_7 ?_
    refine zi_getR dX4_fateOf_8 flX4_9 rfl (by first | assumption | decide) ?_
    refine zi_ild1 dX4_fateOf_11 ?_
    refine zi_ialdN _ dX4_fateOf_12 (by first | assumption | decide) rfl (by omega) (by omega) ?_
    refine zi_goto 17 dX4_fateOf_13 (by decide) ?_
    refine zi_iret dX4_fateOf_17 rfl ?_
    exact ⟨_, rfl, rfl, h.f hp⟩
theorem c4_fateOf_out (ho : zr_ok r) {p : Int32} (hp : zn_out p 8) : zw_Ti l G (d + 2) mX4_fateOf [.ref r, .int p] σ (fun x s => σ = s ∧ x = nI 0) := by
  obtain ⟨k0, k1, k2, l1, l2⟩ := ho
  refine zw_enter2 (L := [some _, some _]) (by decide) (Nat.le_of_ble_eq_true rfl) rfl ?_
  refine zi_ild1 dX4_fateOf_0 ?_
  refine zi_cS1i smX4_isPattern lkX4_24 dX4_fateOf_1 (Nat.le_of_ble_eq_true rfl) (c4_isPattern_out hp) ?_
  rintro _ _ ⟨rfl, rfl⟩
  refine zi_if_eq 16 dX4_fateOf_4 (by decide) (fun c4 => ?_) (fun c4 => ?_)
  · refine zi_iconst (nI 0) dX4_fateOf_16 (by decide) ?_
    refine zi_iret dX4_fateOf_17 rfl ?_
    exact ⟨_, rfl, rfl, rfl⟩
  · exact absurd rfl c4
theorem c4_goalOf (ho : zr_ok r) (h : zr_V σ r fa go) {p : Nat} (hp : p < 8) : zw_Ti l G (d + 2) mX4_goalOf [.ref r, .int (nI p)] σ (fun x s => σ = s ∧ x = zp_gI (go p)) := by
  obtain ⟨k0, k1, k2, l1, l2⟩ := ho
  refine zw_enter2 (L := [some _, some _]) (by decide) (Nat.le_of_ble_eq_true rfl) rfl ?_
  refine zi_ild1 dX4_goalOf_0 ?_
  refine zi_cS1i smX4_isPattern lkX4_24 dX4_goalOf_1 (Nat.le_of_ble_eq_true rfl) (c4_isPattern_in hp) ?_
  rintro _ _ ⟨rfl, rfl⟩
  refine zi_if_eq 16 dX4_goalOf_4 (by decide) (fun c4 => ?_) (fun c4 => ?_)
  · exact absurd c4 (by decide)
  · refine zi_ald0 dX4_goalOf_7 ?_
    refine zi_getR dX4_goalOf_8 flX4_15 rfl (by first | assumption | decide) ?_
    refine zi_ild1 dX4_goalOf_11 ?_
    refine zi_ialdN _ dX4_goalOf_12 (by first | assumption | decide) rfl (by omega) (by omega) ?_
    refine zi_goto 17 dX4_goalOf_13 (by decide) ?_
    refine zi_iret dX4_goalOf_17 rfl ?_
    exact ⟨_, rfl, rfl, h.g hp⟩
theorem l4_makerOf (ho : zr_ok r) (h : zr_V σ r fa go) {q : Nat} (hq : q < 8) : ∀ n i, i + n = 8 → zw_W l G (d + 2) mX4_makerOf 2 [some (.ref r), some (.int (nI q)), some (.int (nI i))] [] σ (fun x s => ∃ y, x = some (.int y) ∧ σ = s ∧ y = zp_gI (zr_mk go q n)) := by
  obtain ⟨k0, k1, k2, l1, l2⟩ := ho
  intro n
  induction n with
  | zero =>
    intro i hi
    refine zi_ild2 dX4_makerOf_2 ?_
    refine zi_bipush (nI 8) dX4_makerOf_3 (by decide) ?_
    refine zi_icmp_ge 33 dX4_makerOf_5 (by decide) (fun c5 => ?_) (fun c5 => ?_)
    · refine zi_iconst (-1) dX4_makerOf_33 (by decide) ?_
      refine zi_iret dX4_makerOf_34 rfl ?_
      exact ⟨_, rfl, rfl, rfl⟩
    · rw [zn_le (by omega) (by omega)] at c5; omega
  | succ n ih =>
    intro i hi
    have hi7 : i = 7 - n := by omega
    refine zi_ild2 dX4_makerOf_2 ?_
    refine zi_bipush (nI 8) dX4_makerOf_3 (by decide) ?_
    refine zi_icmp_ge 33 dX4_makerOf_5 (by decide) (fun c5 => ?_) (fun c5 => ?_)
    · rw [zn_le (by omega) (by omega)] at c5; omega
    · refine zi_ild1 dX4_makerOf_8 ?_
      refine zi_cS1i smX4_isPattern lkX4_24 dX4_makerOf_9 (Nat.le_of_ble_eq_true rfl) (c4_isPattern_in hq) ?_
      rintro _ _ ⟨rfl, rfl⟩
      refine zi_if_eq 27 dX4_makerOf_12 (by decide) (fun c12 => ?_) (fun c12 => ?_)
      · exact absurd c12 (by decide)
      · refine zi_ald0 dX4_makerOf_15 ?_
        refine zi_getR dX4_makerOf_16 flX4_15 rfl (by first | assumption | decide) ?_
        refine zi_ild2 dX4_makerOf_19 ?_
        refine zi_ialdN _ dX4_makerOf_20 (by first | assumption | decide) rfl (by omega) (by omega) ?_
        rw [h.g (show i < 8 by omega)]
        refine zi_ild1 dX4_makerOf_21 ?_
        refine zi_icmp_ne 27 dX4_makerOf_22 (by decide) (fun c22 => ?_) (fun c22 => ?_)
        · rw [zp_gI_eq hq] at c22
          refine zi_inc2 (nI 1) dX4_makerOf_27 (by decide) (Nat.le_of_ble_eq_true rfl) rfl ?_
          refine zi_goto 2 dX4_makerOf_30 (by decide) ?_
          have := ih (i + 1) (by omega)
          unfold zr_mk
          rw [← hi7, if_neg c22, nI_add]
          exact this
        · rw [zp_gI_eq hq] at c22
          refine zi_ild2 dX4_makerOf_25 ?_
          refine zi_iret dX4_makerOf_26 rfl ?_
          refine ⟨_, rfl, rfl, ?_⟩
          unfold zr_mk
          rw [← hi7, if_pos c22, zp_gI_lt (by omega)]
theorem c4_makerOf (ho : zr_ok r) (h : zr_V σ r fa go) {q : Nat} (hq : q < 8) : zw_Ti l G (d + 2) mX4_makerOf [.ref r, .int (nI q)] σ (fun x s => σ = s ∧ x = zp_gI (zr_mk go q 8)) := by
  refine zw_enter2 (L := [some _, some _, none]) (by decide) (Nat.le_of_ble_eq_true rfl) rfl ?_
  refine zi_iconst (nI 0) dX4_makerOf_0 (by decide) ?_
  refine zi_ist2 dX4_makerOf_1 (Nat.le_of_ble_eq_true rfl) rfl ?_
  exact l4_makerOf ho h hq 8 0 rfl
theorem c4_put (ho : zr_ok r) {p v : Nat} {y : Int32} (hp : p < 8) (hv : v < 4) : zw_Tv l G (d + 2) mX4_put [.ref r, .int (nI p), .int (nI v), .int y] σ (fun s => s = zw_pI (zw_pI σ (r + 1) p (nI v)) (r + 2) p (if v < 2 then -1 else y)) := by
  obtain ⟨k0, k1, k2, l1, l2⟩ := ho
  refine zw_enter2 (L := [some _, some _, some _, some _]) (by decide) (Nat.le_of_ble_eq_true rfl) rfl ?_
  refine zi_ild1 dX4_put_0 ?_
  refine zi_cS1i smX4_isPattern lkX4_24 dX4_put_1 (Nat.le_of_ble_eq_true rfl) (c4_isPattern_in hp) ?_
  rintro _ _ ⟨rfl, rfl⟩
  refine zi_if_eq 30 dX4_put_4 (by decide) (fun c4 => ?_) (fun c4 => ?_)
  · exact absurd c4 (by decide)
  · refine zi_ald0 dX4_put_7 ?_
    refine zi_getR dX4_put_8 flX4_9 rfl (by first | assumption | decide) ?_
    refine zi_ild1 dX4_put_11 ?_
    refine zi_ild2 dX4_put_12 ?_
    refine zi_iastN _ dX4_put_13 (by first | assumption | decide) rfl (by omega) (by omega) ?_
    refine zi_ald0 dX4_put_14 ?_
    refine zi_getR dX4_put_15 flX4_15 rfl (by first | assumption | decide) ?_
    refine zi_ild1 dX4_put_18 ?_
    refine zi_ild2 dX4_put_19 ?_
    refine zi_iconst (nI 2) dX4_put_20 (by decide) ?_
    refine zi_icmp_lt 28 dX4_put_21 (by decide) (fun c21 => ?_) (fun c21 => ?_)
    · rw [zn_lt (by omega) (by omega)] at c21
      refine zi_iconst (-1) dX4_put_28 (by decide) ?_
      refine zi_iastN _ dX4_put_29 (by first | assumption | decide) rfl (by omega) (by omega) ?_
      refine zi_ret dX4_put_30 rfl ?_
      exact ⟨rfl, by first | rw [if_pos c21] | rw [if_neg c21]⟩
    · rw [zn_lt (by omega) (by omega)] at c21
      refine zi_ild3 dX4_put_24 ?_
      refine zi_goto 29 dX4_put_25 (by decide) ?_
      refine zi_iastN _ dX4_put_29 (by first | assumption | decide) rfl (by omega) (by omega) ?_
      refine zi_ret dX4_put_30 rfl ?_
      exact ⟨rfl, by first | rw [if_pos c21] | rw [if_neg c21]⟩
theorem c4_allows (ho : zr_ok r) (h : zr_V σ r fa go) {p v q : Nat} {y : Int32} (hp : p < 8) (hv : v < 4) (hq : q < 8) (hy : 2 ≤ v → y = nI q) : zw_Ti l G (d + 3) mX4_allows [.ref r, .int (nI p), .int (nI v), .int y] σ (fun x s => σ = s ∧ x = if zr_al fa go p v q then nI 1 else nI 0) := by
  have k0 := ho.1
  have m1 := zr_mk_le go p 8
  have m2 := zr_mk_le go q 8
  refine zw_enter2 (L := [some _, some _, some _, some _, none]) (by decide) (Nat.le_of_ble_eq_true rfl) rfl ?_
  refine zi_ild2 dX4_allows_0 ?_
  refine zi_if_ne 6 dX4_allows_1 (by decide) (fun c1 => ?_) (fun c1 => ?_)
  · rw [zn_0, zn_eq (by omega) (by omega)] at c1
    refine zi_ald0 dX4_allows_6 ?_
    refine zi_ild1 dX4_allows_7 ?_
    refine zi_cV1i vmX4_makerOf lkX4_28 dX4_allows_8 (by first | assumption | decide) (Nat.le_of_ble_eq_true rfl) (c4_makerOf ho h hp) ?_
    rintro _ _ ⟨rfl, rfl⟩
    refine zi_iconst (-1) dX4_allows_11 (by decide) ?_
    refine zi_icmp_eq 17 dX4_allows_12 (by decide) (fun c12 => ?_) (fun c12 => ?_)
    · rw [zp_gI_m1] at c12
      refine zi_ild2 dX4_allows_17 ?_
      refine zi_iconst (nI 1) dX4_allows_18 (by decide) ?_
      refine zi_icmp_ne 24 dX4_allows_19 (by decide) (fun c19 => ?_) (fun c19 => ?_)
      · rw [zn_eq (by omega) (by omega)] at c19
        obtain rfl := hy (by omega)
        have e0 : zr_mk go p 8 = 8 := by omega
        refine zi_ald0 dX4_allows_24 ?_
        refine zi_ild3 dX4_allows_25 ?_
        refine zi_cV1i vmX4_makerOf lkX4_28 dX4_allows_26 (by first | assumption | decide) (Nat.le_of_ble_eq_true rfl) (c4_makerOf ho h hq) ?_
        rintro _ _ ⟨rfl, rfl⟩
        refine zi_ist4 dX4_allows_29 (Nat.le_of_ble_eq_true rfl) rfl ?_
        refine zi_ild3 dX4_allows_31 ?_
        refine zi_ild1 dX4_allows_32 ?_
        refine zi_icmp_eq 60 dX4_allows_33 (by decide) (fun c33 => ?_) (fun c33 => ?_)
        · refine zi_iconst (nI 0) dX4_allows_60 (by decide) ?_
          refine zi_zret dX4_allows_61 rfl (by decide) ?_
          refine ⟨_, rfl, rfl, ?_⟩
          have hf := (h q hq).1
          simp only [zn_0, zp_gI_m1, zn_eq (show q < 2147483648 by omega) (show p < 2147483648 by omega), zn_eq (show fa q < 2147483648 by omega) (show 0 < 2147483648 by omega), zp_gI_eq hp] at *
          have e1 : ¬ v = 0 := c1
          have e2 : ¬ v = 1 := c19
          simp only [zr_al, e1, e2, e0]
          simp_all
          try omega
        · refine zi_ald0 dX4_allows_36 ?_
          refine zi_ild3 dX4_allows_37 ?_
          refine zi_cV1i vmX4_fateOf lkX4_32 dX4_allows_38 (by first | assumption | decide) (Nat.le_of_ble_eq_true rfl) (c4_fateOf ho h hq) ?_
          rintro _ _ ⟨rfl, rfl⟩
          refine zi_if_ne 60 dX4_allows_41 (by decide) (fun c41 => ?_) (fun c41 => ?_)
          · refine zi_iconst (nI 0) dX4_allows_60 (by decide) ?_
            refine zi_zret dX4_allows_61 rfl (by decide) ?_
            refine ⟨_, rfl, rfl, ?_⟩
            have hf := (h q hq).1
            simp only [zn_0, zp_gI_m1, zn_eq (show q < 2147483648 by omega) (show p < 2147483648 by omega), zn_eq (show fa q < 2147483648 by omega) (show 0 < 2147483648 by omega), zp_gI_eq hp] at *
            have e1 : ¬ v = 0 := c1
            have e2 : ¬ v = 1 := c19
            simp only [zr_al, e1, e2, e0]
            simp_all
            try omega
          · refine zi_ild4 dX4_allows_44 ?_
            refine zi_iconst (-1) dX4_allows_46 (by decide) ?_
            refine zi_icmp_eq 56 dX4_allows_47 (by decide) (fun c47 => ?_) (fun c47 => ?_)
            · refine zi_iconst (nI 1) dX4_allows_56 (by decide) ?_
              refine zi_goto 61 dX4_allows_57 (by decide) ?_
              refine zi_zret dX4_allows_61 rfl (by decide) ?_
              refine ⟨_, rfl, rfl, ?_⟩
              have hf := (h q hq).1
              simp only [zn_0, zp_gI_m1, zn_eq (show q < 2147483648 by omega) (show p < 2147483648 by omega), zn_eq (show fa q < 2147483648 by omega) (show 0 < 2147483648 by omega), zp_gI_eq hp] at *
              have e1 : ¬ v = 0 := c1
              have e2 : ¬ v = 1 := c19
              simp only [zr_al, e1, e2, e0]
              simp_all
              try omega
            · refine zi_ild4 dX4_allows_50 ?_
              refine zi_ild1 dX4_allows_52 ?_
              refine zi_icmp_ne 60 dX4_allows_53 (by decide) (fun c53 => ?_) (fun c53 => ?_)
              · refine zi_iconst (nI 0) dX4_allows_60 (by decide) ?_
                refine zi_zret dX4_allows_61 rfl (by decide) ?_
                refine ⟨_, rfl, rfl, ?_⟩
                have hf := (h q hq).1
                simp only [zn_0, zp_gI_m1, zn_eq (show q < 2147483648 by omega) (show p < 2147483648 by omega), zn_eq (show fa q < 2147483648 by omega) (show 0 < 2147483648 by omega), zp_gI_eq hp] at *
                have e1 : ¬ v = 0 := c1
                have e2 : ¬ v = 1 := c19
                simp only [zr_al, e1, e2, e0]
                simp_all
                try omega
              · refine zi_iconst (nI 1) dX4_allows_56 (by decide) ?_
                refine zi_goto 61 dX4_allows_57 (by decide) ?_
                refine zi_zret dX4_allows_61 rfl (by decide) ?_
                refine ⟨_, rfl, rfl, ?_⟩
                have hf := (h q hq).1
                simp only [zn_0, zp_gI_m1, zn_eq (show q < 2147483648 by omega) (show p < 2147483648 by omega), zn_eq (show fa q < 2147483648 by omega) (show 0 < 2147483648 by omega), zp_gI_eq hp] at *
                have e1 : ¬ v = 0 := c1
                have e2 : ¬ v = 1 := c19
                simp only [zr_al, e1, e2, e0]
                simp_all
                try omega
      · rw [zn_eq (by omega) (by omega)] at c19
        refine zi_iconst (nI 1) dX4_allows_22 (by decide) ?_
        refine zi_zret dX4_allows_23 rfl (by decide) ?_
        refine ⟨_, rfl, rfl, ?_⟩
        have e : zr_mk go p 8 = 8 := by omega
        simp [zr_al, c19, e]
    · rw [zp_gI_m1] at c12
      refine zi_iconst (nI 0) dX4_allows_15 (by decide) ?_
      refine zi_zret dX4_allows_16 rfl (by decide) ?_
      refine ⟨_, rfl, rfl, ?_⟩
      have e : zr_mk go p 8 ≠ 8 := by omega
      simp [zr_al, c1, e]
  · rw [zn_0, zn_eq (by omega) (by omega)] at c1
    refine zi_iconst (nI 1) dX4_allows_4 (by decide) ?_
    refine zi_zret dX4_allows_5 rfl (by decide) ?_
    refine ⟨_, rfl, rfl, ?_⟩
    simp [zr_al, c1]
theorem l4_bound (ho : zr_ok r) (h : zr_V σ r fa go) : ∀ n i, i + n = 8 → zw_W l G (d + 1) mX4_bound 4 [some (.ref r), some (.int (nI (zr_bd fa i))), some (.int (nI i))] [] σ (fun x s => ∃ y, x = some (.int y) ∧ σ = s ∧ y = nI (zr_bd fa 8)) := by
  obtain ⟨k0, k1, k2, l1, l2⟩ := ho
  intro n
  induction n with
  | zero =>
    intro i hi
    obtain rfl : i = 8 := by omega
    refine zi_ild2 dX4_bound_4 ?_
    refine zi_bipush (nI 8) dX4_bound_5 (by decide) ?_
    refine zi_icmp_ge 28 dX4_bound_7 (by decide) (fun c7 => ?_) (fun c7 => ?_)
    · refine zi_ild1 dX4_bound_28 ?_
      refine zi_iret dX4_bound_29 rfl ?_
      exact ⟨_, rfl, rfl, rfl⟩
    · exact absurd (by decide) c7
  | succ n ih =>
    intro i hi
    have hf := (h i (by omega)).1
    refine zi_ild2 dX4_bound_4 ?_
    refine zi_bipush (nI 8) dX4_bound_5 (by decide) ?_
    refine zi_icmp_ge 28 dX4_bound_7 (by decide) (fun c7 => ?_) (fun c7 => ?_)
    · rw [zn_le (by omega) (by omega)] at c7; omega
    · refine zi_ald0 dX4_bound_10 ?_
      refine zi_getR dX4_bound_11 flX4_9 rfl (by first | assumption | decide) ?_
      refine zi_ild2 dX4_bound_14 ?_
      refine zi_ialdN _ dX4_bound_15 (by first | assumption | decide) rfl (by omega) (by omega) ?_
      rw [h.f (show i < 8 by omega)]
      refine zi_if_eq 22 dX4_bound_16 (by decide) (fun c16 => ?_) (fun c16 => ?_)
      · refine zi_inc2 (nI 1) dX4_bound_22 (by decide) (Nat.le_of_ble_eq_true rfl) rfl ?_
        refine zi_goto 4 dX4_bound_25 (by decide) ?_
        have e : zr_bd fa (i + 1) = zr_bd fa i + (if fa i = 0 then 0 else 1) := rfl
        have := ih (i + 1) (by omega)
        rw [e] at this
        rw [nI_add]
        first | (rw [if_neg c16] at this; rw [nI_add]; exact this) | (rw [zn_0, zn_eq (by omega) (by omega)] at c16; rw [if_pos c16] at this; exact this)
      · rw [zn_0, zn_eq (by omega) (by omega)] at c16
        refine zi_inc1 (nI 1) dX4_bound_19 (by decide) (Nat.le_of_ble_eq_true rfl) rfl ?_
        refine zi_inc2 (nI 1) dX4_bound_22 (by decide) (Nat.le_of_ble_eq_true rfl) rfl ?_
        refine zi_goto 4 dX4_bound_25 (by decide) ?_
        have e : zr_bd fa (i + 1) = zr_bd fa i + (if fa i = 0 then 0 else 1) := rfl
        have := ih (i + 1) (by omega)
        rw [e] at this
        rw [nI_add]
        first | (rw [if_neg c16] at this; rw [nI_add]; exact this) | (rw [zn_0, zn_eq (by omega) (by omega)] at c16; rw [if_pos c16] at this; exact this)
theorem c4_bound (ho : zr_ok r) (h : zr_V σ r fa go) : zw_Ti l G (d + 1) mX4_bound [.ref r] σ (fun x s => σ = s ∧ x = nI (zr_bd fa 8)) := by
  refine zw_enter2 (L := [some _, none, none]) (by decide) (Nat.le_of_ble_eq_true rfl) rfl ?_
  refine zi_iconst (nI 0) dX4_bound_0 (by decide) ?_
  refine zi_ist1 dX4_bound_1 (Nat.le_of_ble_eq_true rfl) rfl ?_
  refine zi_iconst (nI 0) dX4_bound_2 (by decide) ?_
  refine zi_ist2 dX4_bound_3 (Nat.le_of_ble_eq_true rfl) rfl ?_
  exact l4_bound ho h 8 0 rfl
theorem l4_release (ho : zr_ok r) : ∀ n i τ, i + n = 8 → zw_F (fun o => o = r + 1 ∨ o = r + 2) σ τ → (∀ p, p < i → τ.1 (r + 1) p = nI 0 ∧ τ.1 (r + 2) p = -1) → zw_W l G (d + 3) mX4_release 2 [some (.ref r), some (.int (nI i))] [] τ (fun x s => x = none ∧ zr_V s r (fun _ => 0) (fun _ => 8) ∧ zw_F (fun o => o = r + 1 ∨ o = r + 2) σ s) := by
  have k0 := ho.1
  intro n
  induction n with
  | zero =>
    intro i τ hi hF hI
    obtain rfl : i = 8 := by omega
    refine zi_ild1 dX4_release_2 ?_
    refine zi_bipush (nI 8) dX4_release_3 (by decide) ?_
    refine zi_icmp_ge 21 dX4_release_5 (by decide) (fun c5 => ?_) (fun c5 => ?_)
    · refine zi_ret dX4_release_21 rfl ?_
      exact ⟨rfl, fun p hp => ⟨by show 0 < 4; decide, by show 8 ≤ 8; decide, by show 2 ≤ 0 ↔ 8 < 8; decide, (hI p hp).1, (hI p hp).2⟩, hF⟩
    · exact absurd (by decide) c5
  | succ n ih =>
    intro i τ hi hF hI
    refine zi_ild1 dX4_release_2 ?_
    refine zi_bipush (nI 8) dX4_release_3 (by decide) ?_
    refine zi_icmp_ge 21 dX4_release_5 (by decide) (fun c5 => ?_) (fun c5 => ?_)
    · rw [zn_le (by omega) (by omega)] at c5; omega
    · refine zi_ald0 dX4_release_8 ?_
      refine zi_ild1 dX4_release_9 ?_
      refine zi_iconst (nI 0) dX4_release_10 (by decide) ?_
      refine zi_iconst (-1) dX4_release_11 (by decide) ?_
      refine zi_cV3v vmX4_put lkX4_35 dX4_release_12 (by first | assumption | decide) (Nat.le_of_ble_eq_true rfl) (c4_put (v := 0) ho (show i < 8 by omega) (by decide)) ?_
      rintro _ rfl
      refine zi_inc1 (nI 1) dX4_release_15 (by decide) (Nat.le_of_ble_eq_true rfl) rfl ?_
      refine zi_goto 2 dX4_release_18 (by decide) ?_
      rw [nI_add]
      refine ih (i + 1) _ (by omega) ((hF.pI (Or.inl rfl)).pI (Or.inr rfl)) (fun p hp => ?_)
      rw [zs_obj (show r + 1 ≠ r + 2 by omega)]
      by_cases e : p = i
      · subst e
        exact ⟨zs_same _ _ _ _, zs_same _ _ _ _⟩
      · rw [zs_slot e, zs_slot e, zs_obj (show r + 2 ≠ r + 1 by omega)]
        exact hI p (by omega)
theorem c4_release (ho : zr_ok r) : zw_Tv l G (d + 3) mX4_release [.ref r] σ (fun s => zr_V s r (fun _ => 0) (fun _ => 8) ∧ zw_F (fun o => o = r + 1 ∨ o = r + 2) σ s) := by
  refine zw_enter2 (L := [some _, none]) (by decide) (Nat.le_of_ble_eq_true rfl) rfl ?_
  refine zi_iconst (nI 0) dX4_release_0 (by decide) ?_
  refine zi_ist1 dX4_release_1 (Nat.le_of_ble_eq_true rfl) rfl ?_
  exact l4_release ho 8 0 σ rfl zw_F.rf (fun p hp => by omega)
theorem c4_dualFate (ho : zr_ok r) (h : zr_V σ r fa go) {p : Nat} (hp : p < 8) : zw_Ti l G (d + 3) mX4_dualFate [.ref r, .int (nI p)] σ (fun x s => σ = s ∧ x = nI (zr_df fa go p)) := by
  have k0 := ho.1
  have m1 := zr_mk_le go p 8
  obtain ⟨h1, h2, h3, -, -⟩ := h p hp
  refine zw_enter2 (L := [some _, some _, none]) (by decide) (Nat.le_of_ble_eq_true rfl) rfl ?_
  refine zi_ald0 dX4_dualFate_0 ?_
  refine zi_ild1 dX4_dualFate_1 ?_
  refine zi_cV1i vmX4_fateOf lkX4_32 dX4_dualFate_2 (by first | assumption | decide) (Nat.le_of_ble_eq_true rfl) (c4_fateOf ho h hp) ?_
  rintro _ _ ⟨rfl, rfl⟩
  refine zi_ist2 dX4_dualFate_5 (Nat.le_of_ble_eq_true rfl) rfl ?_
  refine zi_ild2 dX4_dualFate_6 ?_
  refine zi_if_ne 25 dX4_dualFate_7 (by decide) (fun c7 => ?_) (fun c7 => ?_)
  · rw [zn_0, zn_eq (by omega) (by omega)] at c7
    refine zi_ild2 dX4_dualFate_25 ?_
    refine zi_iconst (nI 1) dX4_dualFate_26 (by decide) ?_
    refine zi_icmp_ne 32 dX4_dualFate_27 (by decide) (fun c27 => ?_) (fun c27 => ?_)
    · rw [zn_eq (by omega) (by omega)] at c27
      refine zi_ild1 dX4_dualFate_32 ?_
      refine zi_cS1i smX4_sideOf lkX4_39 dX4_dualFate_33 (Nat.le_of_ble_eq_true rfl) (c4_sideOf hp) ?_
      rintro _ _ ⟨rfl, rfl⟩
      refine zi_ald0 dX4_dualFate_36 ?_
      refine zi_ild1 dX4_dualFate_37 ?_
      refine zi_cV1i vmX4_goalOf lkX4_42 dX4_dualFate_38 (by first | assumption | decide) (Nat.le_of_ble_eq_true rfl) (c4_goalOf ho h hp) ?_
      rintro _ _ ⟨rfl, rfl⟩
      have hg : go p < 8 := h3.mp (by omega)
      rw [zp_gI_lt hg]
      refine zi_cS1i smX4_sideOf lkX4_39 dX4_dualFate_41 (Nat.le_of_ble_eq_true rfl) (c4_sideOf hg) ?_
      rintro _ _ ⟨rfl, rfl⟩
      refine zi_icmp_eq 49 dX4_dualFate_44 (by decide) (fun c44 => ?_) (fun c44 => ?_)
      · rw [zn_eq (by omega) (by omega)] at c44
        refine zi_ild2 dX4_dualFate_49 ?_
        refine zi_iconst (nI 2) dX4_dualFate_50 (by decide) ?_
        refine zi_icmp_ne 58 dX4_dualFate_51 (by decide) (fun c51 => ?_) (fun c51 => ?_)
        · rw [zn_eq (by omega) (by omega)] at c51
          refine zi_iconst (nI 2) dX4_dualFate_58 (by decide) ?_
          refine zi_iret dX4_dualFate_59 rfl ?_
          refine ⟨_, rfl, rfl, ?_⟩
          unfold zr_df
          rw [if_neg c7, if_neg c27, if_pos c44]
          first | rw [show 5 - fa p = 3 by omega] | rw [show 5 - fa p = 2 by omega]
        · rw [zn_eq (by omega) (by omega)] at c51
          refine zi_iconst (nI 3) dX4_dualFate_54 (by decide) ?_
          refine zi_goto 59 dX4_dualFate_55 (by decide) ?_
          refine zi_iret dX4_dualFate_59 rfl ?_
          refine ⟨_, rfl, rfl, ?_⟩
          unfold zr_df
          rw [if_neg c7, if_neg c27, if_pos c44]
          first | rw [show 5 - fa p = 3 by omega] | rw [show 5 - fa p = 2 by omega]
      · rw [zn_eq (by omega) (by omega)] at c44
        refine zi_ild2 dX4_dualFate_47 ?_
        refine zi_iret dX4_dualFate_48 rfl ?_
        refine ⟨_, rfl, rfl, ?_⟩
        unfold zr_df
        rw [if_neg c7, if_neg c27, if_neg c44]
    · rw [zn_eq (by omega) (by omega)] at c27
      refine zi_iconst (nI 0) dX4_dualFate_30 (by decide) ?_
      refine zi_iret dX4_dualFate_31 rfl ?_
      refine ⟨_, rfl, rfl, ?_⟩
      unfold zr_df
      rw [if_neg c7, if_pos c27]
  · rw [zn_0, zn_eq (by omega) (by omega)] at c7
    refine zi_ald0 dX4_dualFate_10 ?_
    refine zi_ild1 dX4_dualFate_11 ?_
    refine zi_cV1i vmX4_makerOf lkX4_28 dX4_dualFate_12 (by first | assumption | decide) (Nat.le_of_ble_eq_true rfl) (c4_makerOf ho h hp) ?_
    rintro _ _ ⟨rfl, rfl⟩
    refine zi_iconst (-1) dX4_dualFate_15 (by decide) ?_
    refine zi_icmp_ne 23 dX4_dualFate_16 (by decide) (fun c16 => ?_) (fun c16 => ?_)
    · rw [zp_gI_m1] at c16
      refine zi_iconst (nI 0) dX4_dualFate_23 (by decide) ?_
      refine zi_iret dX4_dualFate_24 rfl ?_
      refine ⟨_, rfl, rfl, ?_⟩
      unfold zr_df
      first | rw [if_pos c7, if_pos (show zr_mk go p 8 = 8 by omega)] | rw [if_pos c7, if_neg (show ¬ zr_mk go p 8 = 8 by omega)]
    · rw [zp_gI_m1] at c16
      refine zi_iconst (nI 1) dX4_dualFate_19 (by decide) ?_
      refine zi_goto 24 dX4_dualFate_20 (by decide) ?_
      refine zi_iret dX4_dualFate_24 rfl ?_
      refine ⟨_, rfl, rfl, ?_⟩
      unfold zr_df
      first | rw [if_pos c7, if_pos (show zr_mk go p 8 = 8 by omega)] | rw [if_pos c7, if_neg (show ¬ zr_mk go p 8 = 8 by omega)]
theorem l4_isOwnDual (ho : zr_ok r) (h : zr_V σ r fa go) : ∀ n i, i + n = 8 → (∀ p, p < i → zr_df fa go p = fa p) → zw_W l G (d + 4) mX4_isOwnDual 2 [some (.ref r), some (.int (nI i))] [] σ (fun x s => ∃ y, x = some (.int y) ∧ σ = s ∧ ((y = nI 1 ∧ ∀ p, p < 8 → zr_df fa go p = fa p) ∨ (y = nI 0 ∧ ∃ p, p < 8 ∧ zr_df fa go p ≠ fa p))) := by
  obtain ⟨k0, k1, k2, l1, l2⟩ := id ho
  intro n
  induction n with
  | zero =>
    intro i hi hI
    obtain rfl : i = 8 := by omega
    refine zi_ild1 dX4_isOwnDual_2 ?_
    refine zi_bipush (nI 8) dX4_isOwnDual_3 (by decide) ?_
    refine zi_icmp_ge 30 dX4_isOwnDual_5 (by decide) (fun c5 => ?_) (fun c5 => ?_)
    · refine zi_iconst (nI 1) dX4_isOwnDual_30 (by decide) ?_
      refine zi_zret dX4_isOwnDual_31 rfl (by decide) ?_
      exact ⟨_, rfl, rfl, Or.inl ⟨rfl, hI⟩⟩
    · exact absurd (by decide) c5
  | succ n ih =>
    intro i hi hI
    have hf := (h i (by omega)).1
    have hd : zr_df fa go i < 4 := by
      unfold zr_df
      (repeat' split) <;> omega
    refine zi_ild1 dX4_isOwnDual_2 ?_
    refine zi_bipush (nI 8) dX4_isOwnDual_3 (by decide) ?_
    refine zi_icmp_ge 30 dX4_isOwnDual_5 (by decide) (fun c5 => ?_) (fun c5 => ?_)
    · rw [zn_le (by omega) (by omega)] at c5; omega
    · refine zi_ald0 dX4_isOwnDual_8 ?_
      refine zi_ild1 dX4_isOwnDual_9 ?_
      refine zi_cV1i vmX4_dualFate lkX4_45 dX4_isOwnDual_10 (by first | assumption | decide) (Nat.le_of_ble_eq_true rfl) (c4_dualFate ho h (show i < 8 by omega)) ?_
      rintro _ _ ⟨rfl, rfl⟩
      refine zi_ald0 dX4_isOwnDual_13 ?_
      refine zi_getR dX4_isOwnDual_14 flX4_9 rfl (by first | assumption | decide) ?_
      refine zi_ild1 dX4_isOwnDual_17 ?_
      refine zi_ialdN _ dX4_isOwnDual_18 (by first | assumption | decide) rfl (by omega) (by omega) ?_
      rw [h.f (show i < 8 by omega)]
      refine zi_icmp_eq 24 dX4_isOwnDual_19 (by decide) (fun c19 => ?_) (fun c19 => ?_)
      · rw [zn_eq (by omega) (by omega)] at c19
        refine zi_inc1 (nI 1) dX4_isOwnDual_24 (by decide) (Nat.le_of_ble_eq_true rfl) rfl ?_
        refine zi_goto 2 dX4_isOwnDual_27 (by decide) ?_
        rw [nI_add]
        refine ih (i + 1) (by omega) (fun p hp => ?_)
        by_cases e : p = i
        · subst e
          exact c19
        · exact hI p (by omega)
      · rw [zn_eq (by omega) (by omega)] at c19
        refine zi_iconst (nI 0) dX4_isOwnDual_22 (by decide) ?_
        refine zi_zret dX4_isOwnDual_23 rfl (by decide) ?_
        exact ⟨_, rfl, rfl, Or.inr ⟨rfl, i, by omega, c19⟩⟩
theorem c4_isOwnDual (ho : zr_ok r) (h : zr_V σ r fa go) : zw_Ti l G (d + 4) mX4_isOwnDual [.ref r] σ (fun y s => σ = s ∧ ((y = nI 1 ∧ ∀ p, p < 8 → zr_df fa go p = fa p) ∨ (y = nI 0 ∧ ∃ p, p < 8 ∧ zr_df fa go p ≠ fa p))) := by
  refine zw_enter2 (L := [some _, none]) (by decide) (Nat.le_of_ble_eq_true rfl) rfl ?_
  refine zi_iconst (nI 0) dX4_isOwnDual_0 (by decide) ?_
  refine zi_ist1 dX4_isOwnDual_1 (Nat.le_of_ble_eq_true rfl) rfl ?_
  exact l4_isOwnDual ho h 8 0 rfl (fun p hp => by omega)
theorem zr_df_ok {fa go : Nat → Nat} {p : Nat} (h1 : fa p < 4) (h2 : 2 ≤ fa p ↔ go p < 8) : zr_df fa go p < 4 ∧ (2 ≤ zr_df fa go p ↔ go p < 8) := by
  unfold zr_df
  (repeat' split) <;> omega
theorem l4_turnDual (ho : zr_ok r) (h : zr_V σ r fa go) : ∀ n i τ, i + n = 8 → zw_F (fun o => o = r + 1) σ τ → (∀ p, p < 8 → τ.1 (r + 1) p = nI (if p < i then zr_df fa go p else fa p)) → zw_W l G (d + 4) mX4_turnDual 2 [some (.ref r), some (.int (nI i))] [] τ (fun x s => x = none ∧ zr_V s r (zr_df fa go) go ∧ zw_F (fun o => o = r + 1) σ s) := by
  obtain ⟨k0, k1, k2, l1, l2⟩ := id ho
  intro n
  induction n with
  | zero =>
    intro i τ hi hF hI
    obtain rfl : i = 8 := by omega
    refine zi_ild1 dX4_turnDual_2 ?_
    refine zi_bipush (nI 8) dX4_turnDual_3 (by decide) ?_
    refine zi_icmp_ge 25 dX4_turnDual_5 (by decide) (fun c5 => ?_) (fun c5 => ?_)
    · refine zi_ret dX4_turnDual_25 rfl ?_
      refine ⟨rfl, fun p hp => ?_, hF⟩
      obtain ⟨h1, h2, h3, h4, h5⟩ := h p hp
      obtain ⟨g1, g2⟩ := zr_df_ok h1 h3
      refine ⟨g1, h2, g2, ?_, ?_⟩
      · rw [hI p hp, if_pos hp]
      · rw [hF.2 _ (by omega)]
        exact h5
    · exact absurd (by decide) c5
  | succ n ih =>
    intro i τ hi hF hI
    have hV : zr_V τ r (fun p => if p < i then zr_df fa go p else fa p) go := fun p hp => by
      obtain ⟨h1, h2, h3, h4, h5⟩ := h p hp
      obtain ⟨g1, g2⟩ := zr_df_ok h1 h3
      refine ⟨?_, h2, ?_, hI p hp, ?_⟩
      · show (if p < i then _ else _) < 4
        split
        · exact g1
        · exact h1
      · show 2 ≤ (if p < i then _ else _) ↔ _
        split
        · exact g2
        · exact h3
      · rw [hF.2 _ (by omega)]
        exact h5
    have hd : zr_df (fun p => if p < i then zr_df fa go p else fa p) go i = zr_df fa go i := by
      unfold zr_df
      simp
    refine zi_ild1 dX4_turnDual_2 ?_
    refine zi_bipush (nI 8) dX4_turnDual_3 (by decide) ?_
    refine zi_icmp_ge 25 dX4_turnDual_5 (by decide) (fun c5 => ?_) (fun c5 => ?_)
    · rw [zn_le (by omega) (by omega)] at c5; omega
    · refine zi_ald0 dX4_turnDual_8 ?_
      refine zi_getR dX4_turnDual_9 flX4_9 rfl (by first | assumption | decide) ?_
      refine zi_ild1 dX4_turnDual_12 ?_
      refine zi_ald0 dX4_turnDual_13 ?_
      refine zi_ild1 dX4_turnDual_14 ?_
      refine zi_cV1i vmX4_dualFate lkX4_45 dX4_turnDual_15 (by first | assumption | decide) (Nat.le_of_ble_eq_true rfl) (c4_dualFate ho hV (show i < 8 by omega)) ?_
      rintro _ _ ⟨rfl, rfl⟩
      rw [hd]
      refine zi_iastN _ dX4_turnDual_18 (by first | assumption | decide) rfl (by omega) (by omega) ?_
      refine zi_inc1 (nI 1) dX4_turnDual_19 (by decide) (Nat.le_of_ble_eq_true rfl) rfl ?_
      refine zi_goto 2 dX4_turnDual_22 (by decide) ?_
      rw [nI_add]
      refine ih (i + 1) _ (by omega) (hF.pI rfl) (fun p hp => ?_)
      by_cases e : p = i
      · subst e
        rw [zs_same, if_pos (by omega)]
      · rw [zs_slot e, hI p hp]
        by_cases q : p < i
        · rw [if_pos q, if_pos (by omega)]
        · rw [if_neg q, if_neg (by omega)]
theorem c4_turnDual (ho : zr_ok r) (h : zr_V σ r fa go) : zw_Tv l G (d + 4) mX4_turnDual [.ref r] σ (fun s => zr_V s r (zr_df fa go) go ∧ zw_F (fun o => o = r + 1) σ s) := by
  refine zw_enter2 (L := [some _, none]) (by decide) (Nat.le_of_ble_eq_true rfl) rfl ?_
  refine zi_iconst (nI 0) dX4_turnDual_0 (by decide) ?_
  refine zi_ist1 dX4_turnDual_1 (Nat.le_of_ble_eq_true rfl) rfl ?_
  exact l4_turnDual ho h 8 0 σ rfl zw_F.rf (fun p hp => by rw [if_neg (by omega)]; exact h.f hp)
theorem l4_copyFrom {q : Nat} (ho : zr_ok r) (hq : zr_ok q) (ha : r + 3 ≤ q ∨ q + 3 ≤ r) : ∀ n i τ, i + n = 8 → zw_F (fun o => o = r + 1 ∨ o = r + 2) σ τ → (∀ p, p < i → τ.1 (r + 1) p = σ.1 (q + 1) p ∧ τ.1 (r + 2) p = σ.1 (q + 2) p) → zw_W l G (d + 1) mX4_copyFrom 2 [some (.ref r), some (.ref q), some (.int (nI i))] [] τ (fun x s => x = none ∧ (∀ p, p < 8 → s.1 (r + 1) p = σ.1 (q + 1) p ∧ s.1 (r + 2) p = σ.1 (q + 2) p) ∧ zw_F (fun o => o = r + 1 ∨ o = r + 2) σ s) := by
  obtain ⟨k0, k1, k2, l1, l2⟩ := ho
  obtain ⟨j0, j1, j2, m1, m2⟩ := hq
  intro n
  induction n with
  | zero =>
    intro i τ hi hF hI
    obtain rfl : i = 8 := by omega
    refine zi_ild2 dX4_copyFrom_2 ?_
    refine zi_bipush (nI 8) dX4_copyFrom_3 (by decide) ?_
    refine zi_icmp_ge 38 dX4_copyFrom_5 (by decide) (fun c5 => ?_) (fun c5 => ?_)
    · refine zi_ret dX4_copyFrom_38 rfl ?_
      exact ⟨rfl, hI, hF⟩
    · exact absurd (by decide) c5
  | succ n ih =>
    intro i τ hi hF hI
    refine zi_ild2 dX4_copyFrom_2 ?_
    refine zi_bipush (nI 8) dX4_copyFrom_3 (by decide) ?_
    refine zi_icmp_ge 38 dX4_copyFrom_5 (by decide) (fun c5 => ?_) (fun c5 => ?_)
    · rw [zn_le (by omega) (by omega)] at c5; omega
    · refine zi_ald0 dX4_copyFrom_8 ?_
      refine zi_getR dX4_copyFrom_9 flX4_9 rfl (by first | assumption | decide) ?_
      refine zi_ild2 dX4_copyFrom_12 ?_
      refine zi_ald1 dX4_copyFrom_13 ?_
      refine zi_getR dX4_copyFrom_14 flX4_9 rfl (by first | assumption | decide) ?_
      refine zi_ild2 dX4_copyFrom_17 ?_
      refine zi_ialdN _ dX4_copyFrom_18 (by first | assumption | decide) rfl (by omega) (by omega) ?_
      refine zi_iastN _ dX4_copyFrom_19 (by first | assumption | decide) rfl (by omega) (by omega) ?_
      refine zi_ald0 dX4_copyFrom_20 ?_
      refine zi_getR dX4_copyFrom_21 flX4_15 rfl (by first | assumption | decide) ?_
      refine zi_ild2 dX4_copyFrom_24 ?_
      refine zi_ald1 dX4_copyFrom_25 ?_
      refine zi_getR dX4_copyFrom_26 flX4_15 rfl (by first | assumption | decide) ?_
      refine zi_ild2 dX4_copyFrom_29 ?_
      refine zi_ialdN _ dX4_copyFrom_30 (by first | assumption | decide) rfl (by omega) (by omega) ?_
      refine zi_iastN _ dX4_copyFrom_31 (by first | assumption | decide) rfl (by omega) (by omega) ?_
      refine zi_inc2 (nI 1) dX4_copyFrom_32 (by decide) (Nat.le_of_ble_eq_true rfl) rfl ?_
      refine zi_goto 2 dX4_copyFrom_35 (by decide) ?_
      rw [nI_add]
      refine ih (i + 1) _ (by omega) ((hF.pI (Or.inl rfl)).pI (Or.inr rfl)) (fun p hp => ?_)
      rw [zs_obj (show r + 1 ≠ r + 2 by omega)]
      by_cases e : p = i
      · subst e
        rw [zs_same, zs_same, hF.2 (q + 1) (by omega), zs_obj (show q + 2 ≠ r + 1 by omega), hF.2 (q + 2) (by omega)]
        exact ⟨rfl, rfl⟩
      · rw [zs_slot e, zs_slot e, zs_obj (show r + 2 ≠ r + 1 by omega)]
        exact hI p (by omega)
theorem c4_copyFrom {q : Nat} (ho : zr_ok r) (hq : zr_ok q) (ha : r + 3 ≤ q ∨ q + 3 ≤ r) (h : zr_V σ q fa go) : zw_Tv l G (d + 1) mX4_copyFrom [.ref r, .ref q] σ (fun s => zr_V s r fa go ∧ zw_F (fun o => o = r + 1 ∨ o = r + 2) σ s) := by
  refine zw_enter2 (L := [some _, some _, none]) (by decide) (Nat.le_of_ble_eq_true rfl) rfl ?_
  refine zi_iconst (nI 0) dX4_copyFrom_0 (by decide) ?_
  refine zi_ist2 dX4_copyFrom_1 (Nat.le_of_ble_eq_true rfl) rfl ?_
  have := l4_copyFrom (l := l) (G := G) (d := d) (σ := σ) ho hq ha 8 0 σ rfl zw_F.rf (fun p hp => by omega)
  refine zw_W.mono this (fun x s hx => ⟨hx.1, fun p hp => ?_, hx.2.2⟩)
  rw [(hx.2.1 p hp).1, (hx.2.1 p hp).2]
  exact h p hp
end Z10
end
section
/-! words: a tree as it is typed, '.' 0, a 1, b 2 -/
/-- the word is just m trees -/
def zt_rd : Nat → List Nat → Prop
  | 0, [] => True
  | 0, _ :: _ => False
  | _ + 1, [] => False
  | m + 1, 0 :: l => zt_rd m l
  | m + 1, (_ + 1) :: l => zt_rd (m + 2) l
/-- how many letters the first m trees take -/
def zt_cn : Nat → List Nat → Nat
  | 0, _ => 0
  | _ + 1, [] => 0
  | m + 1, 0 :: l => 1 + zt_cn m l
  | m + 1, (_ + 1) :: l => 1 + zt_cn (m + 2) l
def zt_code (w : List Nat) : Nat := w.foldl (fun c x => 3 * c + x) 0
theorem zt_cn_le : ∀ (l : List Nat) (m : Nat), zt_cn m l ≤ l.length
  | [], m => by cases m <;> simp [zt_cn]
  | x :: l, 0 => by simp [zt_cn]
  | 0 :: l, m + 1 => by
    have := zt_cn_le l m
    simp [zt_cn]; omega
  | (x + 1) :: l, m + 1 => by
    have := zt_cn_le l (m + 2)
    simp [zt_cn]; omega
theorem zt_rd_split : ∀ (l : List Nat) (a b : Nat), zt_rd (a + b) l → zt_rd a (l.take (zt_cn a l)) ∧ zt_rd b (l.drop (zt_cn a l))
  | l, 0, b, h => by
    rw [Nat.zero_add] at h
    simpa [zt_cn, zt_rd] using h
  | [], a + 1, b, h => by
    rw [show a + 1 + b = (a + b) + 1 by omega] at h
    exact h.elim
  | 0 :: l, a + 1, b, h => by
    rw [show a + 1 + b = (a + b) + 1 by omega] at h
    have := zt_rd_split l a b h
    simpa [zt_cn, zt_rd, Nat.add_comm 1] using this
  | (x + 1) :: l, a + 1, b, h => by
    rw [show a + 1 + b = (a + b) + 1 by omega] at h
    have h2 : zt_rd (a + 2 + b) l := by
      rw [show a + 2 + b = a + b + 2 by omega]; exact h
    have := zt_rd_split l (a + 2) b h2
    simpa [zt_cn, zt_rd, Nat.add_comm 1] using this
theorem zt_rd_app : ∀ (l k : List Nat) (a b : Nat), zt_rd a l → zt_rd b k → zt_rd (a + b) (l ++ k)
  | [], k, 0, b, _, h2 => by rw [Nat.zero_add]; exact h2
  | [], k, a + 1, b, h1, _ => h1.elim
  | x :: l, k, 0, b, h1, _ => h1.elim
  | 0 :: l, k, a + 1, b, h1, h2 => by
    rw [show a + 1 + b = (a + b) + 1 by omega]
    exact zt_rd_app l k a b h1 h2
  | (x + 1) :: l, k, a + 1, b, h1, h2 => by
    rw [show a + 1 + b = (a + b) + 1 by omega]
    have := zt_rd_app l k (a + 2) b h1 h2
    rw [show a + 2 + b = a + b + 2 by omega] at this
    exact this
theorem zt_cn_app : ∀ (l k : List Nat) (a : Nat), zt_rd a l → zt_cn a (l ++ k) = l.length
  | [], k, 0, _ => by simp [zt_cn]
  | [], k, a + 1, h1 => h1.elim
  | x :: l, k, 0, h1 => h1.elim
  | 0 :: l, k, a + 1, h1 => by
    have := zt_cn_app l k a h1
    simp [zt_cn, this]; omega
  | (x + 1) :: l, k, a + 1, h1 => by
    have := zt_cn_app l k (a + 2) h1
    simp [zt_cn, this]; omega
theorem zt_cn_add : ∀ (l : List Nat) (a b : Nat), zt_rd (a + b) l ∨ (∃ c, zt_rd (a + b + c) l) → zt_cn (a + b) l = zt_cn a l + zt_cn b (l.drop (zt_cn a l))
  | l, 0, b, _ => by simp [zt_cn]
  | [], a + 1, b, h => by
    rw [show a + 1 + b = (a + b) + 1 by omega]
    simp only [zt_cn, List.drop_nil]
    cases b <;> simp [zt_cn]
  | 0 :: l, a + 1, b, h => by
    have e := zt_cn_add l a b (by
      rcases h with h | ⟨c, h⟩
      · left; rw [show a + 1 + b = (a + b) + 1 by omega] at h; exact h
      · right; refine ⟨c, ?_⟩; rw [show a + 1 + b + c = (a + b + c) + 1 by omega] at h; exact h)
    rw [show a + 1 + b = (a + b) + 1 by omega]
    simp only [zt_cn]
    rw [e, show 1 + zt_cn a l = zt_cn a l + 1 by omega, List.drop_succ_cons]
    omega
  | (x + 1) :: l, a + 1, b, h => by
    have e := zt_cn_add l (a + 2) b (by
      rcases h with h | ⟨c, h⟩
      · left; rw [show a + 1 + b = (a + b) + 1 by omega] at h; rw [show a + 2 + b = a + b + 2 by omega]; exact h
      · right; refine ⟨c, ?_⟩; rw [show a + 1 + b + c = (a + b + c) + 1 by omega] at h; rw [show a + 2 + b + c = a + b + c + 2 by omega]; exact h)
    rw [show a + 1 + b = (a + b) + 1 by omega]
    simp only [zt_cn]
    rw [show a + b + 2 = a + 2 + b by omega, e, show 1 + zt_cn (a + 2) l = zt_cn (a + 2) l + 1 by omega, List.drop_succ_cons]
    omega
/-- behind any place of a word of trees stand trees -/
theorem zt_rd_drop : ∀ (l : List Nat) (m i : Nat), zt_rd m l → i ≤ l.length → ∃ k, zt_rd k (l.drop i)
  | l, m, 0, h, _ => ⟨m, h⟩
  | [], m, i + 1, h, hi => by simp at hi
  | x :: l, 0, i + 1, h, hi => h.elim
  | 0 :: l, m + 1, i + 1, h, hi => by
    rw [List.drop_succ_cons]
    exact zt_rd_drop l m i h (by simpa using hi)
  | (x + 1) :: l, m + 1, i + 1, h, hi => by
    rw [List.drop_succ_cons]
    exact zt_rd_drop l (m + 2) i h (by simpa using hi)
theorem zt_rd_pos {m : Nat} {l : List Nat} (h : zt_rd m l) (hl : 0 < l.length) : 0 < m := by
  cases m with
  | zero =>
    cases l with
    | nil => simp at hl
    | cons x l => exact h.elim
  | succ m => exact Nat.succ_pos m
theorem zt_rd_ne {m : Nat} {l : List Nat} (h : zt_rd (m + 1) l) : 0 < l.length := by
  cases l with
  | nil => exact h.elim
  | cons x l => simp
/-- the letters of m trees are an even number more than m -/
theorem zt_rd_len : ∀ (l : List Nat) (m : Nat), zt_rd m l → ∃ n, l.length = 2 * n + m
  | [], 0, _ => ⟨0, rfl⟩
  | [], m + 1, h => h.elim
  | x :: l, 0, h => h.elim
  | 0 :: l, m + 1, h => by
    obtain ⟨n, hn⟩ := zt_rd_len l m h
    exact ⟨n, by rw [List.length_cons, hn]; omega⟩
  | (x + 1) :: l, m + 1, h => by
    obtain ⟨n, hn⟩ := zt_rd_len l (m + 2) h
    exact ⟨n + 1, by rw [List.length_cons, hn]; omega⟩
/-! codes -/
theorem zt_fold (w : List Nat) (c : Nat) : w.foldl (fun c x => 3 * c + x) c = c * 3 ^ w.length + zt_code w := by
  unfold zt_code
  induction w generalizing c with
  | nil => simp
  | cons x w ih =>
    rw [List.foldl_cons, List.foldl_cons, ih, ih (3 * 0 + x), List.length_cons, Nat.pow_succ, Nat.add_mul]
    rw [show 3 * c * 3 ^ w.length = c * (3 ^ w.length * 3) by rw [Nat.mul_comm 3 c, Nat.mul_assoc, Nat.mul_comm 3]]
    simp [Nat.add_assoc]
theorem zt_code_app (a b : List Nat) : zt_code (a ++ b) = zt_code a * 3 ^ b.length + zt_code b := by
  unfold zt_code
  rw [List.foldl_append]
  exact zt_fold b _
theorem zt_code_snoc (a : List Nat) (x : Nat) : zt_code (a ++ [x]) = 3 * zt_code a + x := by
  unfold zt_code
  rw [List.foldl_append]
  rfl
theorem zt_code_lt : ∀ (w : List Nat), (∀ x ∈ w, x < 3) → zt_code w < 3 ^ w.length
  | [], _ => by simp [zt_code]
  | x :: w, h => by
    have h1 := zt_code_lt w (fun y hy => h y (List.mem_cons_of_mem _ hy))
    have h2 : x < 3 := h x List.mem_cons_self
    have e : zt_code (x :: w) = x * 3 ^ w.length + zt_code w := by
      rw [show x :: w = [x] ++ w from rfl, zt_code_app]
      simp [zt_code]
    rw [e, List.length_cons, Nat.pow_succ]
    have h3 : x * 3 ^ w.length ≤ 2 * 3 ^ w.length := Nat.mul_le_mul_right _ (by omega)
    omega
theorem zt_code_small {w : List Nat} (h : ∀ x ∈ w, x < 3) (hl : w.length ≤ 13) : zt_code w < 1594323 := by
  have h1 := zt_code_lt w h
  have h2 : 3 ^ w.length ≤ 3 ^ 13 := Nat.pow_le_pow_right (by decide) hl
  have h3 : 3 ^ 13 = 1594323 := by decide
  omega
/-- the word has no letter 0 at its head, or is the leaf -/
def zt_nm (w : List Nat) : Prop := 0 < w.length ∧ (w.length = 1 ∨ w.getD 0 0 ≠ 0)
theorem zt_code_ge {w : List Nat} (h : zt_nm w) (hl : 2 ≤ w.length) : 3 ^ (w.length - 1) ≤ zt_code w := by
  cases w with
  | nil => simp at hl
  | cons x w =>
    rw [show x :: w = [x] ++ w from rfl, zt_code_app]
    have hx : x ≠ 0 := by
      rcases h.2 with q | q
      · omega
      · simpa using q
    have : zt_code [x] = x := by simp [zt_code]
    rw [this]
    simp only [List.length_append, List.length_cons, List.length_nil, Nat.zero_add, Nat.add_sub_cancel_left]
    have : 1 * 3 ^ w.length ≤ x * 3 ^ w.length := Nat.mul_le_mul_right _ (by omega)
    omega
/-- a digit by division -/
theorem zt_digit {w : List Nat} (h : ∀ x ∈ w, x < 3) {i : Nat} (hi : i < w.length) : zt_code w / 3 ^ (w.length - 1 - i) % 3 = w.getD i 0 := by
  have e : w = (w.take i ++ [w.getD i 0]) ++ w.drop (i + 1) := by
    rw [List.append_assoc]
    have : w.getD i 0 :: w.drop (i + 1) = w.drop i := by
      rw [List.drop_eq_getElem_cons hi, List.getD_eq_getElem?_getD, List.getElem?_eq_getElem hi]
      rfl
    rw [show [w.getD i 0] ++ w.drop (i + 1) = w.getD i 0 :: w.drop (i + 1) from rfl, this, List.take_append_drop]
  have hd : (w.drop (i + 1)).length = w.length - 1 - i := by rw [List.length_drop]; omega
  have hlt : zt_code (w.drop (i + 1)) < 3 ^ (w.length - 1 - i) := by
    rw [← hd]
    exact zt_code_lt _ (fun x hx => h x (List.mem_of_mem_drop hx))
  have hx : w.getD i 0 < 3 := by
    rw [List.getD_eq_getElem?_getD, List.getElem?_eq_getElem hi]
    exact h _ (List.getElem_mem hi)
  have e2 : zt_code w = (3 * zt_code (w.take i) + w.getD i 0) * 3 ^ (w.length - 1 - i) + zt_code (w.drop (i + 1)) := by
    have := congrArg zt_code e
    rw [zt_code_app, zt_code_snoc, hd] at this
    exact this
  rw [e2, Nat.mul_comm, Nat.mul_add_div (Nat.pow_pos (by decide)), Nat.div_eq_of_lt hlt]
  omega
theorem zl_getD {w : List Nat} {i : Nat} (hi : i < w.length) : w.getD i 0 = w[i] := by
  rw [List.getD_eq_getElem?_getD, List.getElem?_eq_getElem hi]; rfl
theorem zl_getD_no {w : List Nat} {i : Nat} (hi : w.length ≤ i) : w.getD i 0 = 0 := by
  rw [List.getD_eq_getElem?_getD, List.getElem?_eq_none hi]; rfl
theorem zl_getD_lt {w : List Nat} (h : ∀ x ∈ w, x < 3) (i : Nat) : w.getD i 0 < 3 := by
  rcases Nat.lt_or_ge i w.length with q | q
  · rw [zl_getD q]; exact h _ (List.getElem_mem q)
  · rw [zl_getD_no q]; omega
theorem zl_take_succ {w : List Nat} {i : Nat} (hi : i < w.length) : w.take (i + 1) = w.take i ++ [w.getD i 0] := by
  rw [List.take_succ, List.getElem?_eq_getElem hi, zl_getD hi]; rfl
theorem zl_drop {w : List Nat} {i : Nat} (hi : i < w.length) : w.drop i = w.getD i 0 :: w.drop (i + 1) := by
  rw [List.drop_eq_getElem_cons hi, zl_getD hi]
theorem zl_ext {v w : List Nat} (hl : v.length = w.length) (h : ∀ i, i < v.length → v.getD i 0 = w.getD i 0) : v = w := by
  apply List.ext_getElem hl
  intro i h1 h2
  have := h i h1
  rwa [zl_getD h1, zl_getD h2] at this
theorem zl_set {w : List Nat} {i x : Nat} (hi : i < w.length) (j : Nat) : (w.set i x).getD j 0 = if j = i then x else w.getD j 0 := by
  rw [List.getD_eq_getElem?_getD, List.getElem?_set, List.getD_eq_getElem?_getD]
  by_cases e : j = i
  · subst e
    simp [hi]
  · rw [if_neg (fun q => e q.symm), if_neg e]
theorem zl_app_lo {v w : List Nat} {i : Nat} (h : i < v.length) : (v ++ w).getD i 0 = v.getD i 0 := by
  rw [List.getD_eq_getElem?_getD, List.getElem?_append_left h, List.getD_eq_getElem?_getD]
theorem zl_app_hi {v w : List Nat} {i : Nat} (h : v.length ≤ i) : (v ++ w).getD i 0 = w.getD (i - v.length) 0 := by
  rw [List.getD_eq_getElem?_getD, List.getElem?_append_right h, List.getD_eq_getElem?_getD]
theorem zl_dropD (w : List Nat) (i j : Nat) : (w.drop i).getD j 0 = w.getD (i + j) 0 := by
  rw [List.getD_eq_getElem?_getD, List.getElem?_drop, List.getD_eq_getElem?_getD]
theorem zl_takeD {w : List Nat} {i j : Nat} (h : j < i) : (w.take i).getD j 0 = w.getD j 0 := by
  rw [List.getD_eq_getElem?_getD, List.getElem?_take, if_pos h, List.getD_eq_getElem?_getD]
end
section
/-! the class's Tree: an object h, its figures h + 1, its handed row h + 2 -/
def zt_ok (h : Nat) : Prop := zw_kd h = 7 ∧ zw_kd (h + 1) = 10 ∧ zw_kd (h + 2) = 10 ∧ zw_ln (h + 1) = 13 ∧ zw_ln (h + 2) = 13
def zt_V (σ : zw_S) (h : Nat) (w : List Nat) (s : Int32) : Prop := w.length ≤ 13 ∧ (∀ x ∈ w, x < 3) ∧ σ.1 h 2 = nI w.length ∧ σ.1 h 3 = s ∧ ∀ i, i < w.length → σ.1 (h + 1) i = nI (w.getD i 0)
def zt_A (h : Nat) : Nat → Prop := fun o => h ≤ o ∧ o < h + 3
/-- an index, or none -/
def zp_oI (o : Option Nat) : Int32 := match o with
  | some j => nI j
  | none => -1
/-- the leaves' places -/
def zt_lv (w : List Nat) : List Nat := (List.range w.length).filter (fun i => w.getD i 0 == 0)
section Z12
variable {l : Launch} {G : zw_G} {d : Nat} {σ : zw_S} {h : Nat} {w : List Nat} {s : Int32}
theorem zt_V.cg {τ : zw_S} (hV : zt_V σ h w s) (h1 : τ.1 h = σ.1 h) (h2 : τ.1 (h + 1) = σ.1 (h + 1)) : zt_V τ h w s := ⟨hV.1, hV.2.1, by rw [h1]; exact hV.2.2.1, by rw [h1]; exact hV.2.2.2.1, fun i hi => by rw [h2]; exact hV.2.2.2.2 i hi⟩
theorem zt_V.fr {τ : zw_S} {A : Nat → Prop} (hV : zt_V σ h w s) (hF : zw_F A σ τ) (h1 : ¬ A h) (h2 : ¬ A (h + 1)) : zt_V τ h w s := hV.cg (hF.2 _ h1) (hF.2 _ h2)
theorem c7_open (ho : zt_ok h) : zw_Tv l G (d + 1) mX7_open [.ref h] σ (fun τ => zt_V τ h [] (nI 1) ∧ zw_F (zt_A h) σ τ) := by
  obtain ⟨k0, k1, k2, l1, l2⟩ := ho
  refine zw_enter2 (L := [some _]) (by decide) (Nat.le_of_ble_eq_true rfl) rfl ?_
  refine zi_ald0 dX7_open_0 ?_
  refine zi_iconst (nI 0) dX7_open_1 (by decide) ?_
  refine zi_putI dX7_open_2 flX7_18 fp_7_2 rfl (by first | assumption | decide) ?_
  refine zi_ald0 dX7_open_5 ?_
  refine zi_iconst (nI 1) dX7_open_6 (by decide) ?_
  refine zi_putI dX7_open_7 flX7_22 fp_7_3 rfl (by first | assumption | decide) ?_
  refine zi_ret dX7_open_10 rfl ?_
  refine ⟨rfl, ⟨by decide, by simp, ?_, zs_same _ _ _ _, fun i hi => by simp at hi⟩, (zw_F.rf.pI ?_).pI ?_⟩
  · rw [zs_slot (by decide), zs_same]; rfl
  · exact ⟨Nat.le_refl _, by omega⟩
  · exact ⟨Nat.le_refl _, by omega⟩
theorem c7_append (ho : zt_ok h) (hV : zt_V σ h w s) (hl : w.length < 13) {x : Nat} (hx : x < 3) : zw_Tv l G (d + 1) mX7_append [.ref h, .int (nI x)] σ (fun τ => zt_V τ h (w ++ [x]) s ∧ zw_F (zt_A h) σ τ) := by
  obtain ⟨k0, k1, k2, l1, l2⟩ := ho
  obtain ⟨v1, v2, v3, v4, v5⟩ := hV
  refine zw_enter2 (L := [some _, some _]) (by decide) (Nat.le_of_ble_eq_true rfl) rfl ?_
  refine zi_ald0 dX7_append_0 ?_
  refine zi_getI dX7_append_1 flX7_18 rfl (by first | assumption | decide) ?_
  refine zi_if_lt 36 dX7_append_4 (by decide) (fun c4 => ?_) (fun c4 => ?_)
  · rw [v3, zn_0, zn_neg _ (by omega)] at c4; exact c4.elim
  · refine zi_ald0 dX7_append_7 ?_
    refine zi_getI dX7_append_8 flX7_18 rfl (by first | assumption | decide) ?_
    refine zi_bipush (nI 13) dX7_append_11 (by decide) ?_
    refine zi_icmp_ge 36 dX7_append_13 (by decide) (fun c13 => ?_) (fun c13 => ?_)
    · rw [v3, zn_le (by omega) (by omega)] at c13; omega
    · refine zi_ald0 dX7_append_16 ?_
      refine zi_getR dX7_append_17 flX7_9 rfl (by first | assumption | decide) ?_
      refine zi_ald0 dX7_append_20 ?_
      refine zi_getI dX7_append_21 flX7_18 rfl (by first | assumption | decide) ?_
      refine zi_ild1 dX7_append_24 ?_
      refine zi_iastN w.length dX7_append_25 (by first | assumption | decide) v3 (by omega) (by omega) ?_
      refine zi_ald0 dX7_append_26 ?_
      refine zi_dupr dX7_append_27 ?_
      refine zi_getI dX7_append_28 flX7_18 rfl (by first | assumption | decide) ?_
      refine zi_iconst (nI 1) dX7_append_31 (by decide) ?_
      refine zi_iadd dX7_append_32 ?_
      refine zi_putI dX7_append_33 flX7_18 fp_7_2 rfl (by first | assumption | decide) ?_
      refine zi_ret dX7_append_36 rfl ?_
      refine ⟨rfl, ⟨by simp; omega, ?_, ?_, ?_, fun i hi => ?_⟩, (zw_F.rf.pI ?_).pI ?_⟩
      · intro y hy
        rcases List.mem_append.mp hy with q | q
        · exact v2 y q
        · rw [List.mem_singleton.mp q]; exact hx
      · rw [zs_same, zs_obj (by omega), v3, nI_add, List.length_append]; rfl
      · rw [zs_slot (by decide), zs_obj (by omega)]; exact v4
      · rw [zs_obj (by omega)]
        rw [List.length_append, List.length_singleton] at hi
        by_cases e : i = w.length
        · subst e
          rw [zs_same, zl_app_hi (Nat.le_refl _), Nat.sub_self]; rfl
        · rw [zs_slot e, zl_app_lo (by omega)]
          exact v5 i (by omega)
      · exact ⟨by omega, by omega⟩
      · exact ⟨by omega, by omega⟩
theorem c7_becomeLeaf (ho : zt_ok h) : zw_Tv l G (d + 2) mX7_becomeLeaf [.ref h, .int s] σ (fun τ => zt_V τ h [0] s ∧ zw_F (zt_A h) σ τ) := by
  have k0 := ho.1
  refine zw_enter2 (L := [some _, some _]) (by decide) (Nat.le_of_ble_eq_true rfl) rfl ?_
  refine zi_ald0 dX7_becomeLeaf_0 ?_
  refine zi_cV0v vmX7_open lkX7_25 dX7_becomeLeaf_1 (by first | assumption | decide) (Nat.le_of_ble_eq_true rfl) (c7_open ho) ?_
  rintro τ1 ⟨hV1, hF1⟩
  refine zi_ald0 dX7_becomeLeaf_4 ?_
  refine zi_iconst (nI 0) dX7_becomeLeaf_5 (by decide) ?_
  refine zi_cV1v vmX7_append lkX7_28 dX7_becomeLeaf_6 (by first | assumption | decide) (Nat.le_of_ble_eq_true rfl) (c7_append (x := 0) ho hV1 (by decide) (by decide)) ?_
  rintro τ2 ⟨hV2, hF2⟩
  refine zi_ald0 dX7_becomeLeaf_9 ?_
  refine zi_ild1 dX7_becomeLeaf_10 ?_
  refine zi_putI dX7_becomeLeaf_11 flX7_22 fp_7_3 rfl (by first | assumption | decide) ?_
  refine zi_ret dX7_becomeLeaf_14 rfl ?_
  obtain ⟨v1, v2, v3, v4, v5⟩ := hV2
  refine ⟨rfl, ⟨v1, v2, ?_, zs_same _ _ _ _, fun i hi => ?_⟩, (hF1.tr hF2 (fun _ q => q) (fun _ q => q)).pI ?_⟩
  · rw [zs_slot (by decide)]; exact v3
  · rw [zs_obj (by omega)]; exact v5 i hi
  · exact ⟨by omega, by omega⟩
theorem c7_becomeNode (ho : zt_ok h) {x : Nat} (hx : x < 2) : zw_Tv l G (d + 2) mX7_becomeNode [.ref h, .int (nI x)] σ (fun τ => zt_V τ h [x + 1, 0, 0] (nI 1) ∧ zw_F (zt_A h) σ τ) := by
  have k0 := ho.1
  refine zw_enter2 (L := [some _, some _]) (by decide) (Nat.le_of_ble_eq_true rfl) rfl ?_
  refine zi_ald0 dX7_becomeNode_0 ?_
  refine zi_cV0v vmX7_open lkX7_25 dX7_becomeNode_1 (by first | assumption | decide) (Nat.le_of_ble_eq_true rfl) (c7_open ho) ?_
  rintro τ1 ⟨hV1, hF1⟩
  refine zi_ald0 dX7_becomeNode_4 ?_
  refine zi_ild1 dX7_becomeNode_5 ?_
  refine zi_iconst (nI 1) dX7_becomeNode_6 (by decide) ?_
  refine zi_iadd dX7_becomeNode_7 ?_
  rw [nI_add]
  refine zi_cV1v vmX7_append lkX7_28 dX7_becomeNode_8 (by first | assumption | decide) (Nat.le_of_ble_eq_true rfl) (c7_append (x := x + 1) ho hV1 (by decide) (by omega)) ?_
  rintro τ2 ⟨hV2, hF2⟩
  refine zi_ald0 dX7_becomeNode_11 ?_
  refine zi_iconst (nI 0) dX7_becomeNode_12 (by decide) ?_
  refine zi_cV1v vmX7_append lkX7_28 dX7_becomeNode_13 (by first | assumption | decide) (Nat.le_of_ble_eq_true rfl) (c7_append (x := 0) ho hV2 (by simp) (by decide)) ?_
  rintro τ3 ⟨hV3, hF3⟩
  refine zi_ald0 dX7_becomeNode_16 ?_
  refine zi_iconst (nI 0) dX7_becomeNode_17 (by decide) ?_
  refine zi_cV1v vmX7_append lkX7_28 dX7_becomeNode_18 (by first | assumption | decide) (Nat.le_of_ble_eq_true rfl) (c7_append (x := 0) ho hV3 (by simp) (by decide)) ?_
  rintro τ4 ⟨hV4, hF4⟩
  refine zi_ret dX7_becomeNode_21 rfl ?_
  exact ⟨rfl, hV4, ((hF1.tr hF2 (fun _ q => q) (fun _ q => q)).tr hF3 (fun _ q => q) (fun _ q => q)).tr hF4 (fun _ q => q) (fun _ q => q)⟩
theorem c7_figureAt_raw (ho : zt_ok h) {n i : Nat} (hn : σ.1 h 2 = nI n) (h13 : n ≤ 13) (hi : i < n) : zw_Ti l G (d + 1) mX7_figureAt [.ref h, .int (nI i)] σ (fun x τ => σ = τ ∧ x = σ.1 (h + 1) i) := by
  obtain ⟨k0, k1, k2, l1, l2⟩ := ho
  refine zw_enter2 (L := [some _, some _]) (by decide) (Nat.le_of_ble_eq_true rfl) rfl ?_
  refine zi_ild1 dX7_figureAt_0 ?_
  refine zi_if_lt 27 dX7_figureAt_1 (by decide) (fun c1 => ?_) (fun c1 => ?_)
  · rw [zn_0, zn_neg i (by omega)] at c1; exact c1.elim
  · refine zi_ild1 dX7_figureAt_4 ?_
    refine zi_ald0 dX7_figureAt_5 ?_
    refine zi_getI dX7_figureAt_6 flX7_18 rfl (by first | assumption | decide) ?_
    refine zi_icmp_ge 27 dX7_figureAt_9 (by decide) (fun c9 => ?_) (fun c9 => ?_)
    · rw [hn, zn_le (by omega) (by omega)] at c9; omega
    · refine zi_ild1 dX7_figureAt_12 ?_
      refine zi_bipush (nI 13) dX7_figureAt_13 (by decide) ?_
      refine zi_icmp_ge 27 dX7_figureAt_15 (by decide) (fun c15 => ?_) (fun c15 => ?_)
      · rw [zn_le (by omega) (by omega)] at c15; omega
      · refine zi_ald0 dX7_figureAt_18 ?_
        refine zi_getR dX7_figureAt_19 flX7_9 rfl (by first | assumption | decide) ?_
        refine zi_ild1 dX7_figureAt_22 ?_
        refine zi_ialdN _ dX7_figureAt_23 (by first | assumption | decide) rfl (by omega) (by omega) ?_
        refine zi_goto 28 dX7_figureAt_24 (by decide) ?_
        refine zi_iret dX7_figureAt_28 rfl ?_
        exact ⟨_, rfl, rfl, rfl⟩
theorem c7_figureAt_no (ho : zt_ok h) {n i : Nat} (hn : σ.1 h 2 = nI n) (h13 : n ≤ 13) (hi : n ≤ i) (hi2 : i < 2147483648) : zw_Ti l G (d + 1) mX7_figureAt [.ref h, .int (nI i)] σ (fun x τ => σ = τ ∧ x = nI 0) := by
  obtain ⟨k0, k1, k2, l1, l2⟩ := ho
  refine zw_enter2 (L := [some _, some _]) (by decide) (Nat.le_of_ble_eq_true rfl) rfl ?_
  refine zi_ild1 dX7_figureAt_0 ?_
  refine zi_if_lt 27 dX7_figureAt_1 (by decide) (fun c1 => ?_) (fun c1 => ?_)
  · rw [zn_0, zn_neg i (by omega)] at c1; exact c1.elim
  · refine zi_ild1 dX7_figureAt_4 ?_
    refine zi_ald0 dX7_figureAt_5 ?_
    refine zi_getI dX7_figureAt_6 flX7_18 rfl (by first | assumption | decide) ?_
    refine zi_icmp_ge 27 dX7_figureAt_9 (by decide) (fun c9 => ?_) (fun c9 => ?_)
    · refine zi_iconst (nI 0) dX7_figureAt_27 (by decide) ?_
      refine zi_iret dX7_figureAt_28 rfl ?_
      exact ⟨_, rfl, rfl, rfl⟩
    · rw [hn, zn_le (by omega) (by omega)] at c9; omega
theorem c7_figureAt (ho : zt_ok h) (hV : zt_V σ h w s) {i : Nat} (hi2 : i < 2147483648) : zw_Ti l G (d + 1) mX7_figureAt [.ref h, .int (nI i)] σ (fun x τ => σ = τ ∧ x = nI (w.getD i 0)) := by
  rcases Nat.lt_or_ge i w.length with q | q
  · exact (c7_figureAt_raw ho hV.2.2.1 hV.1 q).mono (fun r τ ⟨x, e1, e2, e3⟩ => ⟨x, e1, e2, e3.trans (hV.2.2.2.2 i q)⟩)
  · exact (c7_figureAt_no ho hV.2.2.1 hV.1 q hi2).mono (fun r τ ⟨x, e1, e2, e3⟩ => ⟨x, e1, e2, by rw [zl_getD_no q]; exact e3⟩)
theorem c7_putFigure_raw (ho : zt_ok h) {n i : Nat} {x : Int32} (hn : σ.1 h 2 = nI n) (h13 : n ≤ 13) (hi : i < n) : zw_Tv l G (d + 1) mX7_putFigure [.ref h, .int (nI i), .int x] σ (fun τ => τ = zw_pI σ (h + 1) i x) := by
  obtain ⟨k0, k1, k2, l1, l2⟩ := ho
  refine zw_enter2 (L := [some _, some _, some _]) (by decide) (Nat.le_of_ble_eq_true rfl) rfl ?_
  refine zi_ild1 dX7_putFigure_0 ?_
  refine zi_if_lt 25 dX7_putFigure_1 (by decide) (fun c1 => ?_) (fun c1 => ?_)
  · rw [zn_0, zn_neg i (by omega)] at c1; exact c1.elim
  · refine zi_ild1 dX7_putFigure_4 ?_
    refine zi_ald0 dX7_putFigure_5 ?_
    refine zi_getI dX7_putFigure_6 flX7_18 rfl (by first | assumption | decide) ?_
    refine zi_icmp_ge 25 dX7_putFigure_9 (by decide) (fun c9 => ?_) (fun c9 => ?_)
    · rw [hn, zn_le (by omega) (by omega)] at c9; omega
    · refine zi_ild1 dX7_putFigure_12 ?_
      refine zi_bipush (nI 13) dX7_putFigure_13 (by decide) ?_
      refine zi_icmp_ge 25 dX7_putFigure_15 (by decide) (fun c15 => ?_) (fun c15 => ?_)
      · rw [zn_le (by omega) (by omega)] at c15; omega
      · refine zi_ald0 dX7_putFigure_18 ?_
        refine zi_getR dX7_putFigure_19 flX7_9 rfl (by first | assumption | decide) ?_
        refine zi_ild1 dX7_putFigure_22 ?_
        refine zi_ild2 dX7_putFigure_23 ?_
        refine zi_iastN _ dX7_putFigure_24 (by first | assumption | decide) rfl (by omega) (by omega) ?_
        refine zi_ret dX7_putFigure_25 rfl ?_
        exact ⟨rfl, rfl⟩
theorem zt_V.put (hV : zt_V σ h w s) {i x : Nat} (hi : i < w.length) (hx : x < 3) : zt_V (zw_pI σ (h + 1) i (nI x)) h (w.set i x) s := by
  obtain ⟨v1, v2, v3, v4, v5⟩ := hV
  refine ⟨by rw [List.length_set]; exact v1, ?_, ?_, ?_, ?_⟩
  · intro y hy
    rcases List.mem_or_eq_of_mem_set hy with q | q
    · exact v2 y q
    · omega
  · rw [zs_obj (by omega), List.length_set]; exact v3
  · rw [zs_obj (by omega)]; exact v4
  · intro j hj
    rw [List.length_set] at hj
    rw [zl_set hi]
    by_cases e : j = i
    · subst e
      rw [zs_same, if_pos rfl]
    · rw [zs_slot e, if_neg e]
      exact v5 j hj
theorem c7_putFigure (ho : zt_ok h) (hV : zt_V σ h w s) {i x : Nat} (hi : i < w.length) (hx : x < 3) : zw_Tv l G (d + 1) mX7_putFigure [.ref h, .int (nI i), .int (nI x)] σ (fun τ => zt_V τ h (w.set i x) s ∧ zw_F (fun o => o = h + 1) σ τ) :=
  (c7_putFigure_raw ho hV.2.2.1 hV.1 hi).mono (fun r τ ⟨e1, e2⟩ => ⟨e1, by rw [e2]; exact hV.put hi hx, by rw [e2]; exact zw_F.rf.pI rfl⟩)
theorem c7_isNode (ho : zt_ok h) (hV : zt_V σ h w s) {i : Nat} (hi2 : i < 2147483648) : zw_Ti l G (d + 2) mX7_isNode [.ref h, .int (nI i)] σ (fun x τ => σ = τ ∧ x = if w.getD i 0 = 0 then nI 0 else nI 1) := by
  have k0 := ho.1
  have hx := zl_getD_lt hV.2.1 i
  refine zw_enter2 (L := [some _, some _]) (by decide) (Nat.le_of_ble_eq_true rfl) rfl ?_
  refine zi_ald0 dX7_isNode_0 ?_
  refine zi_ild1 dX7_isNode_1 ?_
  refine zi_cV1i vmX7_figureAt lkX7_32 dX7_isNode_2 (by first | assumption | decide) (Nat.le_of_ble_eq_true rfl) (c7_figureAt ho hV hi2) ?_
  rintro _ _ ⟨rfl, rfl⟩
  refine zi_if_eq 12 dX7_isNode_5 (by decide) (fun c5 => ?_) (fun c5 => ?_)
  · rw [zn_0, zn_eq (by omega) (by omega)] at c5
    refine zi_iconst (nI 0) dX7_isNode_12 (by decide) ?_
    refine zi_zret dX7_isNode_13 rfl (by decide) ?_
    exact ⟨_, rfl, rfl, by first | rw [if_pos c5] | rw [if_neg c5]⟩
  · rw [zn_0, zn_eq (by omega) (by omega)] at c5
    refine zi_iconst (nI 1) dX7_isNode_8 (by decide) ?_
    refine zi_goto 13 dX7_isNode_9 (by decide) ?_
    refine zi_zret dX7_isNode_13 rfl (by decide) ?_
    exact ⟨_, rfl, rfl, by first | rw [if_pos c5] | rw [if_neg c5]⟩
theorem c7_nodes (ho : zt_ok h) (hV : zt_V σ h w s) (hl : 1 ≤ w.length) : zw_Ti l G (d + 1) mX7_nodes [.ref h] σ (fun x τ => σ = τ ∧ x = nI ((w.length - 1) / 2)) := by
  have k0 := ho.1
  have := hV.1
  refine zw_enter2 (L := [some _]) (by decide) (Nat.le_of_ble_eq_true rfl) rfl ?_
  refine zi_ald0 dX7_nodes_0 ?_
  refine zi_getI dX7_nodes_1 flX7_18 rfl (by first | assumption | decide) ?_
  refine zi_iconst (nI 1) dX7_nodes_4 (by decide) ?_
  refine zi_isub dX7_nodes_5 ?_
  refine zi_iconst (nI 2) dX7_nodes_6 (by decide) ?_
  refine zi_idiv dX7_nodes_7 (by decide) ?_
  refine zi_iret dX7_nodes_8 rfl ?_
  refine ⟨_, rfl, rfl, ?_⟩
  rw [hV.2.2.1, pk_sub hl, pk_div (by omega) (by decide) (by decide)]
theorem c7_leaves (ho : zt_ok h) (hV : zt_V σ h w s) (hl : 1 ≤ w.length) : zw_Ti l G (d + 2) mX7_leaves [.ref h] σ (fun x τ => σ = τ ∧ x = nI ((w.length - 1) / 2 + 1)) := by
  have k0 := ho.1
  refine zw_enter2 (L := [some _]) (by decide) (Nat.le_of_ble_eq_true rfl) rfl ?_
  refine zi_ald0 dX7_leaves_0 ?_
  refine zi_cV0i vmX7_nodes lkX7_36 dX7_leaves_1 (by first | assumption | decide) (Nat.le_of_ble_eq_true rfl) (c7_nodes ho hV hl) ?_
  rintro _ _ ⟨rfl, rfl⟩
  refine zi_iconst (nI 1) dX7_leaves_4 (by decide) ?_
  refine zi_iadd dX7_leaves_5 ?_
  refine zi_iret dX7_leaves_6 rfl ?_
  exact ⟨_, rfl, rfl, nI_add _ _⟩
theorem l7_codeNow (ho : zt_ok h) (hV : zt_V σ h w s) : ∀ n i, i + n = w.length → zw_W l G (d + 2) mX7_codeNow 4 [some (.ref h), some (.int (nI (zt_code (w.take i)))), some (.int (nI i))] [] σ (fun x τ => ∃ y, x = some (.int y) ∧ σ = τ ∧ y = nI (zt_code w)) := by
  obtain ⟨k0, k1, k2, l1, l2⟩ := id ho
  have h13 := hV.1
  intro n
  induction n with
  | zero =>
    intro i hi
    refine zi_ild2 dX7_codeNow_4 ?_
    refine zi_ald0 dX7_codeNow_5 ?_
    refine zi_getI dX7_codeNow_6 flX7_18 rfl (by first | assumption | decide) ?_
    refine zi_icmp_ge 28 dX7_codeNow_9 (by decide) (fun c9 => ?_) (fun c9 => ?_)
    · refine zi_ild1 dX7_codeNow_28 ?_
      refine zi_iret dX7_codeNow_29 rfl ?_
      exact ⟨_, rfl, rfl, by rw [List.take_of_length_le (by omega)]⟩
    · rw [hV.2.2.1, zn_le (by omega) (by omega)] at c9; omega
  | succ n ih =>
    intro i hi
    refine zi_ild2 dX7_codeNow_4 ?_
    refine zi_ald0 dX7_codeNow_5 ?_
    refine zi_getI dX7_codeNow_6 flX7_18 rfl (by first | assumption | decide) ?_
    refine zi_icmp_ge 28 dX7_codeNow_9 (by decide) (fun c9 => ?_) (fun c9 => ?_)
    · rw [hV.2.2.1, zn_le (by omega) (by omega)] at c9; omega
    · refine zi_iconst (nI 3) dX7_codeNow_12 (by decide) ?_
      refine zi_ild1 dX7_codeNow_13 ?_
      refine zi_imul dX7_codeNow_14 ?_
      refine zi_ald0 dX7_codeNow_15 ?_
      refine zi_ild2 dX7_codeNow_16 ?_
      refine zi_cV1i vmX7_figureAt lkX7_32 dX7_codeNow_17 (by first | assumption | decide) (Nat.le_of_ble_eq_true rfl) (c7_figureAt ho hV (show i < 2147483648 by omega)) ?_
      rintro _ _ ⟨rfl, rfl⟩
      refine zi_iadd dX7_codeNow_20 ?_
      refine zi_ist1 dX7_codeNow_21 (Nat.le_of_ble_eq_true rfl) rfl ?_
      refine zi_inc2 (nI 1) dX7_codeNow_22 (by decide) (Nat.le_of_ble_eq_true rfl) rfl ?_
      refine zi_goto 4 dX7_codeNow_25 (by decide) ?_
      rw [pk_mul, nI_add, nI_add, ← zt_code_snoc, ← zl_take_succ (by omega)]
      exact ih (i + 1) (by omega)
theorem c7_codeNow (ho : zt_ok h) (hV : zt_V σ h w s) : zw_Ti l G (d + 2) mX7_codeNow [.ref h] σ (fun x τ => σ = τ ∧ x = nI (zt_code w)) := by
  refine zw_enter2 (L := [some _, none, none]) (by decide) (Nat.le_of_ble_eq_true rfl) rfl ?_
  refine zi_iconst (nI 0) dX7_codeNow_0 (by decide) ?_
  refine zi_ist1 dX7_codeNow_1 (Nat.le_of_ble_eq_true rfl) rfl ?_
  refine zi_iconst (nI 0) dX7_codeNow_2 (by decide) ?_
  refine zi_ist2 dX7_codeNow_3 (Nat.le_of_ble_eq_true rfl) rfl ?_
  exact l7_codeNow ho hV w.length 0 (by omega)
theorem l7_copyFrom {q : Nat} (ho : zt_ok h) (hq : zt_ok q) (ha : h + 3 ≤ q ∨ q + 3 ≤ h) (hV : zt_V σ q w s) : ∀ n i τ, i + n = w.length → zt_V τ h (w.take i) (nI 1) → zw_F (zt_A h) σ τ → zw_W l G (d + 2) mX7_copyFrom 6 [some (.ref h), some (.ref q), some (.int (nI i))] [] τ (fun x υ => x = none ∧ zt_V υ h w s ∧ zw_F (zt_A h) σ υ) := by
  have k0 := ho.1
  have j0 := hq.1
  have h13 := hV.1
  intro n
  induction n with
  | zero =>
    intro i τ hi hT hF
    have hQ : zt_V τ q w s := hV.fr hF (by unfold zt_A; omega) (by unfold zt_A; omega)
    refine zi_ild2 dX7_copyFrom_6 ?_
    refine zi_ald1 dX7_copyFrom_7 ?_
    refine zi_getI dX7_copyFrom_8 flX7_18 rfl (by first | assumption | decide) ?_
    refine zi_icmp_ge 29 dX7_copyFrom_11 (by decide) (fun c11 => ?_) (fun c11 => ?_)
    · refine zi_ald0 dX7_copyFrom_29 ?_
      refine zi_ald1 dX7_copyFrom_30 ?_
      refine zi_getI dX7_copyFrom_31 flX7_22 rfl (by first | assumption | decide) ?_
      refine zi_putI dX7_copyFrom_34 flX7_22 fp_7_3 rfl (by first | assumption | decide) ?_
      refine zi_ret dX7_copyFrom_37 rfl ?_
      rw [List.take_of_length_le (by omega)] at hT
      obtain ⟨v1, v2, v3, v4, v5⟩ := hT
      refine ⟨rfl, ⟨v1, v2, ?_, ?_, fun i hi => ?_⟩, hF.pI ?_⟩
      · rw [zs_slot (by decide)]; exact v3
      · rw [zs_same]; exact hQ.2.2.2.1
      · rw [zs_obj (by omega)]; exact v5 i hi
      · exact ⟨by omega, by omega⟩
    · rw [hQ.2.2.1, zn_le (by omega) (by omega)] at c11; omega
  | succ n ih =>
    intro i τ hi hT hF
    have hQ : zt_V τ q w s := hV.fr hF (by unfold zt_A; omega) (by unfold zt_A; omega)
    have hx := zl_getD_lt hV.2.1 i
    refine zi_ild2 dX7_copyFrom_6 ?_
    refine zi_ald1 dX7_copyFrom_7 ?_
    refine zi_getI dX7_copyFrom_8 flX7_18 rfl (by first | assumption | decide) ?_
    refine zi_icmp_ge 29 dX7_copyFrom_11 (by decide) (fun c11 => ?_) (fun c11 => ?_)
    · rw [hQ.2.2.1, zn_le (by omega) (by omega)] at c11; omega
    · refine zi_ald0 dX7_copyFrom_14 ?_
      refine zi_ald1 dX7_copyFrom_15 ?_
      refine zi_ild2 dX7_copyFrom_16 ?_
      refine zi_cV1i vmX7_figureAt lkX7_32 dX7_copyFrom_17 (by first | assumption | decide) (Nat.le_of_ble_eq_true rfl) (c7_figureAt hq hQ (show i < 2147483648 by omega)) ?_
      rintro _ _ ⟨rfl, rfl⟩
      refine zi_cV1v vmX7_append lkX7_28 dX7_copyFrom_20 (by first | assumption | decide) (Nat.le_of_ble_eq_true rfl) (c7_append ho hT (by rw [List.length_take]; omega) hx) ?_
      rintro τ2 ⟨hT2, hF2⟩
      refine zi_inc2 (nI 1) dX7_copyFrom_23 (by decide) (Nat.le_of_ble_eq_true rfl) rfl ?_
      refine zi_goto 6 dX7_copyFrom_26 (by decide) ?_
      rw [nI_add]
      rw [← zl_take_succ (by omega)] at hT2
      exact ih (i + 1) τ2 (by omega) hT2 (hF.tr hF2 (fun _ q => q) (fun _ q => q))
theorem c7_copyFrom {q : Nat} (ho : zt_ok h) (hq : zt_ok q) (ha : h + 3 ≤ q ∨ q + 3 ≤ h) (hV : zt_V σ q w s) : zw_Tv l G (d + 2) mX7_copyFrom [.ref h, .ref q] σ (fun υ => zt_V υ h w s ∧ zw_F (zt_A h) σ υ) := by
  have k0 := ho.1
  refine zw_enter2 (L := [some _, some _, none]) (by decide) (Nat.le_of_ble_eq_true rfl) rfl ?_
  refine zi_ald0 dX7_copyFrom_0 ?_
  refine zi_cV0v vmX7_open lkX7_25 dX7_copyFrom_1 (by first | assumption | decide) (Nat.le_of_ble_eq_true rfl) (c7_open ho) ?_
  rintro τ1 ⟨hV1, hF1⟩
  refine zi_iconst (nI 0) dX7_copyFrom_4 (by decide) ?_
  refine zi_ist2 dX7_copyFrom_5 (Nat.le_of_ble_eq_true rfl) rfl ?_
  exact l7_copyFrom ho hq ha hV w.length 0 τ1 (by omega) hV1 hF1
theorem c7_equalTo {q : Nat} {v : List Nat} {t : Int32} (ho : zt_ok h) (hq : zt_ok q) (hV : zt_V σ h w s) (hQ : zt_V σ q v t) : zw_Ti l G (d + 3) mX7_equalTo [.ref h, .ref q] σ (fun x τ => σ = τ ∧ x = if s = t ∧ zt_code w = zt_code v then nI 1 else nI 0) := by
  have k0 := ho.1
  have j0 := hq.1
  have e1 := zt_code_small hV.2.1 hV.1
  have e2 := zt_code_small hQ.2.1 hQ.1
  refine zw_enter2 (L := [some _, some _]) (by decide) (Nat.le_of_ble_eq_true rfl) rfl ?_
  refine zi_ald0 dX7_equalTo_0 ?_
  refine zi_getI dX7_equalTo_1 flX7_22 rfl (by first | assumption | decide) ?_
  refine zi_ald1 dX7_equalTo_4 ?_
  refine zi_getI dX7_equalTo_5 flX7_22 rfl (by first | assumption | decide) ?_
  rw [hV.2.2.2.1, hQ.2.2.2.1]
  refine zi_icmp_ne 26 dX7_equalTo_8 (by decide) (fun c8 => ?_) (fun c8 => ?_)
  · refine zi_iconst (nI 0) dX7_equalTo_26 (by decide) ?_
    refine zi_zret dX7_equalTo_27 rfl (by decide) ?_
    refine ⟨_, rfl, rfl, ?_⟩
    first | (rw [zn_eq (by omega) (by omega)] at c19; simp [c8, c19]; done) | (simp [c8]; done)
  · refine zi_ald0 dX7_equalTo_11 ?_
    refine zi_cV0i vmX7_codeNow lkX7_40 dX7_equalTo_12 (by first | assumption | decide) (Nat.le_of_ble_eq_true rfl) (c7_codeNow ho hV) ?_
    rintro _ _ ⟨rfl, rfl⟩
    refine zi_ald1 dX7_equalTo_15 ?_
    refine zi_cV0i vmX7_codeNow lkX7_40 dX7_equalTo_16 (by first | assumption | decide) (Nat.le_of_ble_eq_true rfl) (c7_codeNow hq hQ) ?_
    rintro _ _ ⟨rfl, rfl⟩
    refine zi_icmp_ne 26 dX7_equalTo_19 (by decide) (fun c19 => ?_) (fun c19 => ?_)
    · refine zi_iconst (nI 0) dX7_equalTo_26 (by decide) ?_
      refine zi_zret dX7_equalTo_27 rfl (by decide) ?_
      refine ⟨_, rfl, rfl, ?_⟩
      first | (rw [zn_eq (by omega) (by omega)] at c19; simp [c8, c19]; done) | (simp [c8]; done)
    · refine zi_iconst (nI 1) dX7_equalTo_22 (by decide) ?_
      refine zi_goto 27 dX7_equalTo_23 (by decide) ?_
      refine zi_zret dX7_equalTo_27 rfl (by decide) ?_
      refine ⟨_, rfl, rfl, ?_⟩
      first | (rw [zn_eq (by omega) (by omega)] at c19; simp [c8, c19]; done) | (simp [c8]; done)
end Z12
end
section
/-- three to the n -/
theorem zp_p3 {n : Nat} (h : n ≤ 13) : 3 ^ n ≤ 1594323 := by
  have : 3 ^ n ≤ 3 ^ 13 := Nat.pow_le_pow_right (by decide) h
  have e : 3 ^ 13 = 1594323 := by decide
  omega
theorem zp_p3pos (n : Nat) : 1 ≤ 3 ^ n := Nat.pow_pos (by decide)
section Z13
variable {l : Launch} {G : zw_G} {d : Nat} {σ : zw_S} {h : Nat} {w : List Nat} {s : Int32}
theorem l7_readCode1 (ho : zt_ok h) (hx : ∀ x ∈ w, x < 3) (hn : zt_nm w) (h13 : w.length ≤ 13) {P : Option Value → zw_S → Prop} (hk : zw_W l G (d + 2) mX7_readCode 33 [some (.ref h), some (.int (nI (zt_code w))), some (.int s), some (.int (nI (3 ^ (w.length - 1)))), some (.int (nI w.length))] [] σ P) : ∀ n i, i + n = w.length → 1 ≤ i → zw_W l G (d + 2) mX7_readCode 9 [some (.ref h), some (.int (nI (zt_code w))), some (.int s), some (.int (nI (3 ^ (i - 1)))), some (.int (nI i))] [] σ P := by
  have hc := zt_code_small hx h13
  have hlt := zt_code_lt w hx
  intro n
  induction n with
  | zero =>
    intro i hi h1
    have hp := zp_p3 (show i - 1 ≤ 13 by omega)
    obtain rfl : i = w.length := by omega
    refine zi_ild4 dX7_readCode_9 ?_
    refine zi_bipush (nI 13) dX7_readCode_11 (by decide) ?_
    refine zi_icmp_ge 33 dX7_readCode_13 (by decide) (fun c13 => ?_) (fun c13 => ?_)
    · exact hk
    · refine zi_ild3 dX7_readCode_16 ?_
      refine zi_ild1 dX7_readCode_17 ?_
      refine zi_iconst (nI 3) dX7_readCode_18 (by decide) ?_
      refine zi_idiv dX7_readCode_19 (by decide) ?_
      refine zi_icmp_gt 33 dX7_readCode_20 (by decide) (fun c20 => ?_) (fun c20 => ?_)
      · exact hk
      · rw [pk_div (by omega) (by decide) (by decide), zn_lt (by omega) (by omega)] at c20
        exfalso
        have e : 3 ^ w.length = 3 ^ (w.length - 1) * 3 := by rw [← Nat.pow_succ]; congr 1; omega
        omega
  | succ n ih =>
    intro i hi h1
    have hp := zp_p3 (show i - 1 ≤ 13 by omega)
    have hge := zt_code_ge hn (by omega)
    have h3 : 3 ^ (i - 1) * 3 = 3 ^ i := by rw [← Nat.pow_succ]; congr 1; omega
    have h4 : 3 ^ i ≤ 3 ^ (w.length - 1) := Nat.pow_le_pow_right (by decide) (by omega)
    refine zi_ild4 dX7_readCode_9 ?_
    refine zi_bipush (nI 13) dX7_readCode_11 (by decide) ?_
    refine zi_icmp_ge 33 dX7_readCode_13 (by decide) (fun c13 => ?_) (fun c13 => ?_)
    · rw [zn_le (by omega) (by omega)] at c13; omega
    · refine zi_ild3 dX7_readCode_16 ?_
      refine zi_ild1 dX7_readCode_17 ?_
      refine zi_iconst (nI 3) dX7_readCode_18 (by decide) ?_
      refine zi_idiv dX7_readCode_19 (by decide) ?_
      refine zi_icmp_gt 33 dX7_readCode_20 (by decide) (fun c20 => ?_) (fun c20 => ?_)
      · rw [pk_div (by omega) (by decide) (by decide), zn_lt (by omega) (by omega)] at c20
        exfalso
        omega
      · refine zi_ild3 dX7_readCode_23 ?_
        refine zi_iconst (nI 3) dX7_readCode_24 (by decide) ?_
        refine zi_imul dX7_readCode_25 ?_
        refine zi_ist3 dX7_readCode_26 (Nat.le_of_ble_eq_true rfl) rfl ?_
        refine zi_inc4 (nI 1) dX7_readCode_27 (by decide) (Nat.le_of_ble_eq_true rfl) rfl ?_
        refine zi_goto 9 dX7_readCode_30 (by decide) ?_
        rw [pk_mul, h3, nI_add]
        exact ih (i + 1) (by omega) (by omega)
theorem l7_readCode2 (ho : zt_ok h) (hx : ∀ x ∈ w, x < 3) (h1 : 1 ≤ w.length) (h13 : w.length ≤ 13) : ∀ n i τ, i + n = w.length → zt_V τ h (w.take i) (nI 1) → zw_F (zt_A h) σ τ → zw_W l G (d + 2) mX7_readCode 36 [some (.ref h), some (.int (nI (zt_code w))), some (.int s), some (.int (nI (if i < w.length then 3 ^ (w.length - 1 - i) else 0))), some (.int (nI i))] [] τ (fun x υ => x = none ∧ zt_V υ h w s ∧ zw_F (zt_A h) σ υ) := by
  have k0 := ho.1
  have hc := zt_code_small hx h13
  intro n
  induction n with
  | zero =>
    intro i τ hi hT hF
    rw [if_neg (by omega)]
    rw [List.take_of_length_le (by omega)] at hT
    refine zi_ild4 dX7_readCode_36 ?_
    refine zi_bipush (nI 13) dX7_readCode_38 (by decide) ?_
    refine zi_icmp_ge 66 dX7_readCode_40 (by decide) (fun c40 => ?_) (fun c40 => ?_)
    · refine zi_ald0 dX7_readCode_66 ?_
      refine zi_ild2 dX7_readCode_67 ?_
      refine zi_putI dX7_readCode_68 flX7_22 fp_7_3 rfl (by first | assumption | decide) ?_
      refine zi_ret dX7_readCode_71 rfl ?_
      obtain ⟨v1, v2, v3, v4, v5⟩ := hT
      refine ⟨rfl, ⟨v1, v2, ?_, zs_same _ _ _ _, fun i hi => ?_⟩, hF.pI ?_⟩
      · rw [zs_slot (by decide)]; exact v3
      · rw [zs_obj (by omega)]; exact v5 i hi
      · exact ⟨by omega, by omega⟩
    · refine zi_ild3 dX7_readCode_43 ?_
      refine zi_if_le 66 dX7_readCode_44 (by decide) (fun c44 => ?_) (fun c44 => ?_)
      · refine zi_ald0 dX7_readCode_66 ?_
        refine zi_ild2 dX7_readCode_67 ?_
        refine zi_putI dX7_readCode_68 flX7_22 fp_7_3 rfl (by first | assumption | decide) ?_
        refine zi_ret dX7_readCode_71 rfl ?_
        obtain ⟨v1, v2, v3, v4, v5⟩ := hT
        refine ⟨rfl, ⟨v1, v2, ?_, zs_same _ _ _ _, fun i hi => ?_⟩, hF.pI ?_⟩
        · rw [zs_slot (by decide)]; exact v3
        · rw [zs_obj (by omega)]; exact v5 i hi
        · exact ⟨by omega, by omega⟩
      · exact absurd (by decide) c44
  | succ n ih =>
    intro i τ hi hT hF
    have hp := zp_p3 (show w.length - 1 - i ≤ 13 by omega)
    have hp1 := zp_p3pos (w.length - 1 - i)
    rw [if_pos (by omega)]
    have hdg := zt_digit hx (show i < w.length by omega)
    have hdl := zl_getD_lt hx i
    refine zi_ild4 dX7_readCode_36 ?_
    refine zi_bipush (nI 13) dX7_readCode_38 (by decide) ?_
    refine zi_icmp_ge 66 dX7_readCode_40 (by decide) (fun c40 => ?_) (fun c40 => ?_)
    · rw [zn_le (by omega) (by omega)] at c40; omega
    · refine zi_ild3 dX7_readCode_43 ?_
      refine zi_if_le 66 dX7_readCode_44 (by decide) (fun c44 => ?_) (fun c44 => ?_)
      · rw [zn_0, zn_le (by omega) (by omega)] at c44; omega
      · refine zi_ald0 dX7_readCode_47 ?_
        refine zi_ild1 dX7_readCode_48 ?_
        refine zi_ild3 dX7_readCode_49 ?_
        refine zi_idiv dX7_readCode_50 (by rw [zn_0, zn_eq (by omega) (by omega)]; omega) ?_
        refine zi_iconst (nI 3) dX7_readCode_51 (by decide) ?_
        refine zi_irem dX7_readCode_52 (by decide) ?_
        rw [pk_div (by omega) (by omega) (by omega), pk_rem (by have := Nat.div_le_self (zt_code w) (3 ^ (w.length - 1 - i)); omega) (by decide) (by decide), hdg]
        refine zi_cV1v vmX7_append lkX7_28 dX7_readCode_53 (by first | assumption | decide) (Nat.le_of_ble_eq_true rfl) (c7_append ho hT (by rw [List.length_take]; omega) hdl) ?_
        rintro τ2 ⟨hT2, hF2⟩
        refine zi_ild3 dX7_readCode_56 ?_
        refine zi_iconst (nI 3) dX7_readCode_57 (by decide) ?_
        refine zi_idiv dX7_readCode_58 (by decide) ?_
        refine zi_ist3 dX7_readCode_59 (Nat.le_of_ble_eq_true rfl) rfl ?_
        refine zi_inc4 (nI 1) dX7_readCode_60 (by decide) (Nat.le_of_ble_eq_true rfl) rfl ?_
        refine zi_goto 36 dX7_readCode_63 (by decide) ?_
        rw [nI_add, pk_div (by omega) (by decide) (by decide)]
        rw [← zl_take_succ (by omega)] at hT2
        have e : 3 ^ (w.length - 1 - i) / 3 = if i + 1 < w.length then 3 ^ (w.length - 1 - (i + 1)) else 0 := by
          by_cases q : i + 1 < w.length
          · rw [if_pos q, show w.length - 1 - i = (w.length - 1 - (i + 1)) + 1 by omega, Nat.pow_succ, Nat.mul_div_cancel _ (by decide)]
          · rw [if_neg q, show w.length - 1 - i = 0 by omega]
        rw [e]
        exact ih (i + 1) τ2 (by omega) hT2 (hF.tr hF2 (fun _ q => q) (fun _ q => q))
theorem c7_readCode (ho : zt_ok h) (hx : ∀ x ∈ w, x < 3) (hn : zt_nm w) (h13 : w.length ≤ 13) : zw_Tv l G (d + 2) mX7_readCode [.ref h, .int (nI (zt_code w)), .int s] σ (fun υ => zt_V υ h w s ∧ zw_F (zt_A h) σ υ) := by
  have k0 := ho.1
  have hl := hn.1
  refine zw_enter2 (L := [some _, some _, some _, none, none]) (by decide) (Nat.le_of_ble_eq_true rfl) rfl ?_
  refine zi_ald0 dX7_readCode_0 ?_
  refine zi_cV0v vmX7_open lkX7_25 dX7_readCode_1 (by first | assumption | decide) (Nat.le_of_ble_eq_true rfl) (c7_open ho) ?_
  rintro τ1 ⟨hV1, hF1⟩
  refine zi_iconst (nI 1) dX7_readCode_4 (by decide) ?_
  refine zi_ist3 dX7_readCode_5 (Nat.le_of_ble_eq_true rfl) rfl ?_
  refine zi_iconst (nI 1) dX7_readCode_6 (by decide) ?_
  refine zi_ist4 dX7_readCode_7 (Nat.le_of_ble_eq_true rfl) rfl ?_
  refine l7_readCode1 ho hx hn h13 ?_ (w.length - 1) 1 (by omega) (by omega)
  refine zi_iconst (nI 0) dX7_readCode_33 (by decide) ?_
  refine zi_ist4 dX7_readCode_34 (Nat.le_of_ble_eq_true rfl) rfl ?_
  have := l7_readCode2 (l := l) (G := G) (d := d) (s := s) ho hx hl h13 w.length 0 τ1 (by omega) hV1 hF1
  rw [if_pos (by omega)] at this
  exact this
theorem l7_endOf (ho : zt_ok h) (hV : zt_V σ h w s) {a : Int32} : ∀ n i m, i + n = w.length → m ≤ i → zw_W l G (d + 1) mX7_endOf 13 [some (.ref h), some (.int a), some (.int (nI (m + 1))), some (.int (nI i))] [] σ (fun x τ => ∃ y, x = some (.int y) ∧ σ = τ ∧ y = nI (i + zt_cn (m + 1) (w.drop i))) := by
  obtain ⟨k0, k1, k2, l1, l2⟩ := id ho
  have h13 := hV.1
  intro n
  induction n with
  | zero =>
    intro i m hi hm
    refine zi_ild3 dX7_endOf_13 ?_
    refine zi_ald0 dX7_endOf_14 ?_
    refine zi_getI dX7_endOf_15 flX7_18 rfl (by first | assumption | decide) ?_
    refine zi_icmp_ge 58 dX7_endOf_18 (by decide) (fun c18 => ?_) (fun c18 => ?_)
    · refine zi_ald0 dX7_endOf_58 ?_
      refine zi_getI dX7_endOf_59 flX7_18 rfl (by first | assumption | decide) ?_
      refine zi_iret dX7_endOf_62 rfl ?_
      refine ⟨_, rfl, rfl, ?_⟩
      rw [List.drop_of_length_le (by omega), hV.2.2.1]
      simp [zt_cn]
      rw [← hi]; rfl
    · rw [hV.2.2.1, zn_le (by omega) (by omega)] at c18; omega
  | succ n ih =>
    intro i m hi hm
    have hx := zl_getD_lt hV.2.1 i
    have hd := zl_drop (show i < w.length by omega)
    refine zi_ild3 dX7_endOf_13 ?_
    refine zi_ald0 dX7_endOf_14 ?_
    refine zi_getI dX7_endOf_15 flX7_18 rfl (by first | assumption | decide) ?_
    refine zi_icmp_ge 58 dX7_endOf_18 (by decide) (fun c18 => ?_) (fun c18 => ?_)
    · rw [hV.2.2.1, zn_le (by omega) (by omega)] at c18; omega
    · refine zi_ild3 dX7_endOf_21 ?_
      refine zi_bipush (nI 13) dX7_endOf_22 (by decide) ?_
      refine zi_icmp_ge 58 dX7_endOf_24 (by decide) (fun c24 => ?_) (fun c24 => ?_)
      · rw [zn_le (by omega) (by omega)] at c24; omega
      · refine zi_ild2 dX7_endOf_27 ?_
        refine zi_ald0 dX7_endOf_28 ?_
        refine zi_getR dX7_endOf_29 flX7_9 rfl (by first | assumption | decide) ?_
        refine zi_ild3 dX7_endOf_32 ?_
        refine zi_ialdN _ dX7_endOf_33 (by first | assumption | decide) rfl (by omega) (by omega) ?_
        rw [hV.2.2.2.2 i (by omega)]
        refine zi_if_ne 41 dX7_endOf_34 (by decide) (fun c34 => ?_) (fun c34 => ?_)
        · rw [zn_0, zn_eq (by omega) (by omega)] at c34
          obtain ⟨x, hxx⟩ : ∃ x, w.getD i 0 = x + 1 := ⟨w.getD i 0 - 1, by omega⟩
          rw [hxx] at hd
          refine zi_iconst (nI 1) dX7_endOf_41 (by decide) ?_
          refine zi_iadd dX7_endOf_42 ?_
          first | rw [pk_m1] | rw [nI_add]
          refine zi_ist2 dX7_endOf_43 (Nat.le_of_ble_eq_true rfl) rfl ?_
          refine zi_ild2 dX7_endOf_44 ?_
          refine zi_if_ne 52 dX7_endOf_45 (by decide) (fun c45 => ?_) (fun c45 => ?_)
          · rw [zn_0, zn_eq (by omega) (by omega)] at c45
            refine zi_inc3 (nI 1) dX7_endOf_52 (by decide) (Nat.le_of_ble_eq_true rfl) rfl ?_
            refine zi_goto 13 dX7_endOf_55 (by decide) ?_
            rw [nI_add]
            first
            | (obtain ⟨m', rfl⟩ : ∃ m', m = m' + 1 := ⟨m - 1, by omega⟩
               have := ih (i + 1) m' (by omega) (by omega)
               rw [hd]
               simp only [zt_cn]
               rw [← Nat.add_assoc]
               exact this)
            | (have := ih (i + 1) (m + 1) (by omega) (by omega)
               rw [hd]
               simp only [zt_cn]
               rw [← Nat.add_assoc]
               exact this)
          · rw [zn_0, zn_eq (by omega) (by omega)] at c45
            refine zi_ild3 dX7_endOf_48 ?_
            refine zi_iconst (nI 1) dX7_endOf_49 (by decide) ?_
            refine zi_iadd dX7_endOf_50 ?_
            refine zi_iret dX7_endOf_51 rfl ?_
            refine ⟨_, rfl, rfl, ?_⟩
            first
            | (subst c45; rw [hd, nI_add]; simp [zt_cn]; done)
            | (exfalso; omega)
        · rw [zn_0, zn_eq (by omega) (by omega)] at c34
          rw [c34] at hd
          refine zi_iconst (-1) dX7_endOf_37 (by decide) ?_
          refine zi_goto 42 dX7_endOf_38 (by decide) ?_
          refine zi_iadd dX7_endOf_42 ?_
          first | rw [pk_m1] | rw [nI_add]
          refine zi_ist2 dX7_endOf_43 (Nat.le_of_ble_eq_true rfl) rfl ?_
          refine zi_ild2 dX7_endOf_44 ?_
          refine zi_if_ne 52 dX7_endOf_45 (by decide) (fun c45 => ?_) (fun c45 => ?_)
          · rw [zn_0, zn_eq (by omega) (by omega)] at c45
            refine zi_inc3 (nI 1) dX7_endOf_52 (by decide) (Nat.le_of_ble_eq_true rfl) rfl ?_
            refine zi_goto 13 dX7_endOf_55 (by decide) ?_
            rw [nI_add]
            first
            | (obtain ⟨m', rfl⟩ : ∃ m', m = m' + 1 := ⟨m - 1, by omega⟩
               have := ih (i + 1) m' (by omega) (by omega)
               rw [hd]
               simp only [zt_cn]
               rw [← Nat.add_assoc]
               exact this)
            | (have := ih (i + 1) (m + 1) (by omega) (by omega)
               rw [hd]
               simp only [zt_cn]
               rw [← Nat.add_assoc]
               exact this)
          · rw [zn_0, zn_eq (by omega) (by omega)] at c45
            refine zi_ild3 dX7_endOf_48 ?_
            refine zi_iconst (nI 1) dX7_endOf_49 (by decide) ?_
            refine zi_iadd dX7_endOf_50 ?_
            refine zi_iret dX7_endOf_51 rfl ?_
            refine ⟨_, rfl, rfl, ?_⟩
            first
            | (subst c45; rw [hd, nI_add]; simp [zt_cn]; done)
            | (exfalso; omega)
theorem c7_endOf (ho : zt_ok h) (hV : zt_V σ h w s) {i : Nat} (hi : i ≤ w.length) : zw_Ti l G (d + 1) mX7_endOf [.ref h, .int (nI i)] σ (fun x τ => σ = τ ∧ x = nI (i + zt_cn 1 (w.drop i))) := by
  have k0 := ho.1
  have h13 := hV.1
  refine zw_enter2 (L := [some _, some _, none, none]) (by decide) (Nat.le_of_ble_eq_true rfl) rfl ?_
  refine zi_ild1 dX7_endOf_0 ?_
  refine zi_if_ge 9 dX7_endOf_1 (by decide) (fun c1 => ?_) (fun c1 => ?_)
  · refine zi_iconst (nI 1) dX7_endOf_9 (by decide) ?_
    refine zi_ist2 dX7_endOf_10 (Nat.le_of_ble_eq_true rfl) rfl ?_
    refine zi_ild1 dX7_endOf_11 ?_
    refine zi_ist3 dX7_endOf_12 (Nat.le_of_ble_eq_true rfl) rfl ?_
    exact l7_endOf ho hV (w.length - i) i 0 (by omega) (by omega)
  · exact absurd (by rw [zn_0, zn_le (by omega) (by omega)]; omega) c1
theorem l7_leafAt (ho : zt_ok h) (hV : zt_V σ h w s) {k : Int32} : ∀ n i, i + n = w.length → (∀ j, j < ((List.range i).filter (fun i => w.getD i 0 == 0)).length → k ≠ nI j) → zw_W l G (d + 3) mX7_leafAt 4 [some (.ref h), some (.int k), some (.int (nI ((List.range i).filter (fun i => w.getD i 0 == 0)).length)), some (.int (nI i))] [] σ (fun x τ => ∃ y, x = some (.int y) ∧ σ = τ ∧ y = zp_oI (zp_at (zt_lv w) k)) := by
  obtain ⟨k0, k1, k2, l1, l2⟩ := id ho
  have h13 := hV.1
  intro n
  induction n with
  | zero =>
    intro i hi hI
    obtain rfl : i = w.length := by omega
    have hle := zl_fle (s := w.length) (b := fun i => w.getD i 0 == 0)
    refine zi_ild3 dX7_leafAt_4 ?_
    refine zi_ald0 dX7_leafAt_5 ?_
    refine zi_getI dX7_leafAt_6 flX7_18 rfl (by first | assumption | decide) ?_
    refine zi_icmp_ge 36 dX7_leafAt_9 (by decide) (fun c9 => ?_) (fun c9 => ?_)
    · refine zi_iconst (-1) dX7_leafAt_36 (by decide) ?_
      refine zi_iret dX7_leafAt_37 rfl ?_
      refine ⟨_, rfl, rfl, ?_⟩
      rw [zp_at_no (l := zt_lv w) (by show (List.filter _ _).length < _; omega) hI]; rfl
    · rw [hV.2.2.1, zn_le (by omega) (by omega)] at c9; omega
  | succ n ih =>
    intro i hi hI
    have hle := zl_fle (s := i) (b := fun i => w.getD i 0 == 0)
    have hx := zl_getD_lt hV.2.1 i
    refine zi_ild3 dX7_leafAt_4 ?_
    refine zi_ald0 dX7_leafAt_5 ?_
    refine zi_getI dX7_leafAt_6 flX7_18 rfl (by first | assumption | decide) ?_
    refine zi_icmp_ge 36 dX7_leafAt_9 (by decide) (fun c9 => ?_) (fun c9 => ?_)
    · rw [hV.2.2.1, zn_le (by omega) (by omega)] at c9; omega
    · refine zi_ald0 dX7_leafAt_12 ?_
      refine zi_ild3 dX7_leafAt_13 ?_
      refine zi_cV1i vmX7_isNode lkX7_43 dX7_leafAt_14 (by first | assumption | decide) (Nat.le_of_ble_eq_true rfl) (c7_isNode ho hV (show i < 2147483648 by omega)) ?_
      rintro _ _ ⟨rfl, rfl⟩
      refine zi_if_ne 30 dX7_leafAt_17 (by decide) (fun c17 => ?_) (fun c17 => ?_)
      · refine zi_inc3 (nI 1) dX7_leafAt_30 (by decide) (Nat.le_of_ble_eq_true rfl) rfl ?_
        refine zi_goto 4 dX7_leafAt_33 (by decide) ?_
        first
        | (have hf := zl_fs (s := i) (b := fun i => w.getD i 0 == 0) (by simpa using h0)
           have := ih (i + 1) (by omega) (fun j hj => by
             rw [hf] at hj
             by_cases e : j = ((List.range i).filter (fun i => w.getD i 0 == 0)).length
             · rw [e]; exact fun q => c22 q.symm
             · exact hI j (by omega))
           rw [hf] at this
           rw [nI_add, nI_add]
           exact this)
        | (have h0 : ¬ w.getD i 0 = 0 := by
             intro q; rw [if_pos q] at c17; exact absurd rfl c17
           have hf := zl_fn (s := i) (b := fun i => w.getD i 0 == 0) (by simpa using h0)
           have := ih (i + 1) (by omega) (fun j hj => by rw [hf] at hj; exact hI j hj)
           rw [hf] at this
           rw [nI_add]
           exact this)
      · have h0 : w.getD i 0 = 0 := by
          by_cases q : w.getD i 0 = 0
          · exact q
          · rw [if_neg q] at c17; exact absurd c17 (by decide)
        refine zi_ild2 dX7_leafAt_20 ?_
        refine zi_ild1 dX7_leafAt_21 ?_
        refine zi_icmp_ne 27 dX7_leafAt_22 (by decide) (fun c22 => ?_) (fun c22 => ?_)
        · refine zi_inc2 (nI 1) dX7_leafAt_27 (by decide) (Nat.le_of_ble_eq_true rfl) rfl ?_
          refine zi_inc3 (nI 1) dX7_leafAt_30 (by decide) (Nat.le_of_ble_eq_true rfl) rfl ?_
          refine zi_goto 4 dX7_leafAt_33 (by decide) ?_
          first
          | (have hf := zl_fs (s := i) (b := fun i => w.getD i 0 == 0) (by simpa using h0)
             have := ih (i + 1) (by omega) (fun j hj => by
               rw [hf] at hj
               by_cases e : j = ((List.range i).filter (fun i => w.getD i 0 == 0)).length
               · rw [e]; exact fun q => c22 q.symm
               · exact hI j (by omega))
             rw [hf] at this
             rw [nI_add, nI_add]
             exact this)
          | (have h0 : ¬ w.getD i 0 = 0 := by
               intro q; rw [if_pos q] at c17; exact absurd rfl c17
             have hf := zl_fn (s := i) (b := fun i => w.getD i 0 == 0) (by simpa using h0)
             have := ih (i + 1) (by omega) (fun j hj => by rw [hf] at hj; exact hI j hj)
             rw [hf] at this
             rw [nI_add]
             exact this)
        · refine zi_ild3 dX7_leafAt_25 ?_
          refine zi_iret dX7_leafAt_26 rfl ?_
          refine ⟨_, rfl, rfl, ?_⟩
          rw [← c22, zp_at_n (by omega)]
          unfold zt_lv
          rw [zl_kth (show i < w.length by omega) (by simpa using h0)]; rfl
theorem c7_leafAt (ho : zt_ok h) (hV : zt_V σ h w s) {k : Int32} : zw_Ti l G (d + 3) mX7_leafAt [.ref h, .int k] σ (fun x τ => σ = τ ∧ x = zp_oI (zp_at (zt_lv w) k)) := by
  refine zw_enter2 (L := [some _, some _, none, none]) (by decide) (Nat.le_of_ble_eq_true rfl) rfl ?_
  refine zi_iconst (nI 0) dX7_leafAt_0 (by decide) ?_
  refine zi_ist2 dX7_leafAt_1 (Nat.le_of_ble_eq_true rfl) rfl ?_
  refine zi_iconst (nI 0) dX7_leafAt_2 (by decide) ?_
  refine zi_ist3 dX7_leafAt_3 (Nat.le_of_ble_eq_true rfl) rfl ?_
  exact l7_leafAt ho hV w.length 0 (by omega) (fun j hj => by simp at hj)
theorem c7_hasRoomFor {q : Nat} {v : List Nat} {t : Int32} (ho : zt_ok h) (hq : zt_ok q) (hV : zt_V σ h w s) (hQ : zt_V σ q v t) (h1 : 1 ≤ w.length) (h2 : 1 ≤ v.length) : zw_Ti l G (d + 2) mX7_hasRoomFor [.ref h, .ref q] σ (fun x τ => σ = τ ∧ x = if (w.length - 1) / 2 + (v.length - 1) / 2 ≤ 6 then nI 1 else nI 0) := by
  have k0 := ho.1
  have j0 := hq.1
  have e1 := hV.1
  have e2 := hQ.1
  refine zw_enter2 (L := [some _, some _]) (by decide) (Nat.le_of_ble_eq_true rfl) rfl ?_
  refine zi_ald0 dX7_hasRoomFor_0 ?_
  refine zi_cV0i vmX7_nodes lkX7_36 dX7_hasRoomFor_1 (by first | assumption | decide) (Nat.le_of_ble_eq_true rfl) (c7_nodes ho hV h1) ?_
  rintro _ _ ⟨rfl, rfl⟩
  refine zi_ald1 dX7_hasRoomFor_4 ?_
  refine zi_cV0i vmX7_nodes lkX7_36 dX7_hasRoomFor_5 (by first | assumption | decide) (Nat.le_of_ble_eq_true rfl) (c7_nodes hq hQ h2) ?_
  rintro _ _ ⟨rfl, rfl⟩
  refine zi_iadd dX7_hasRoomFor_8 ?_
  refine zi_bipush (nI 6) dX7_hasRoomFor_9 (by decide) ?_
  refine zi_icmp_gt 18 dX7_hasRoomFor_11 (by decide) (fun c11 => ?_) (fun c11 => ?_)
  · refine zi_iconst (nI 0) dX7_hasRoomFor_18 (by decide) ?_
    refine zi_zret dX7_hasRoomFor_19 rfl (by decide) ?_
    refine ⟨_, rfl, rfl, ?_⟩
    rw [nI_add, zn_lt (by omega) (by omega)] at c11
    first | rw [if_pos (by omega)] | rw [if_neg (by omega)]
  · refine zi_iconst (nI 1) dX7_hasRoomFor_14 (by decide) ?_
    refine zi_goto 19 dX7_hasRoomFor_15 (by decide) ?_
    refine zi_zret dX7_hasRoomFor_19 rfl (by decide) ?_
    refine ⟨_, rfl, rfl, ?_⟩
    rw [nI_add, zn_lt (by omega) (by omega)] at c11
    first | rw [if_pos (by omega)] | rw [if_neg (by omega)]
theorem l7_graft1 {q j n m a0 : Nat} {b0 b1 : Int32} (ho : zt_ok h) (hV : ∀ i, i < n → σ.1 (h + 1) i = nI (w.getD i 0)) (hn : σ.1 h 2 = nI (n + m)) (h13 : n + m ≤ 13) (hj : j < n) {P : Option Value → zw_S → Prop} (hk : ∀ τ, zw_F (fun o => o = h + 1) σ τ → (∀ i, i ≤ j → τ.1 (h + 1) i = nI (w.getD i 0)) → (∀ i, j < i → i < n → τ.1 (h + 1) (i + m) = nI (w.getD i 0)) → zw_W l G (d + 2) mX7_graftAt 79 [some (.ref h), some (.int (nI j)), some (.ref q), some (.int (nI m)), some (.int b0), some (.int (nI j))] [] τ P) : ∀ x a τ, a = j + x → a < n → zw_F (fun o => o = h + 1) σ τ → (∀ i, i ≤ a → τ.1 (h + 1) i = nI (w.getD i 0)) → (∀ i, a < i → i < n → τ.1 (h + 1) (i + m) = nI (w.getD i 0)) → zw_W l G (d + 2) mX7_graftAt 53 [some (.ref h), some (.int (nI j)), some (.ref q), some (.int (nI m)), some (.int b0), some (.int (nI a))] [] τ P := by
  obtain ⟨k0, k1, k2, l1, l2⟩ := id ho
  intro x
  induction x with
  | zero =>
    intro a τ ha han hF hI hJ
    obtain rfl : a = j := by omega
    refine zi_ild5 dX7_graftAt_53 ?_
    refine zi_ild1 dX7_graftAt_55 ?_
    refine zi_icmp_le 79 dX7_graftAt_56 (by decide) (fun c56 => ?_) (fun c56 => ?_)
    · exact hk τ hF hI hJ
    · exact absurd (by rw [zn_le (by omega) (by omega)]; omega) c56
  | succ x ih =>
    intro a τ ha han hF hI hJ
    have hn2 : τ.1 h 2 = nI (n + m) := by rw [hF.2 h (by omega)]; exact hn
    refine zi_ild5 dX7_graftAt_53 ?_
    refine zi_ild1 dX7_graftAt_55 ?_
    refine zi_icmp_le 79 dX7_graftAt_56 (by decide) (fun c56 => ?_) (fun c56 => ?_)
    · rw [zn_le (by omega) (by omega)] at c56; omega
    · refine zi_ald0 dX7_graftAt_59 ?_
      refine zi_ild5 dX7_graftAt_60 ?_
      refine zi_ild3 dX7_graftAt_62 ?_
      refine zi_iadd dX7_graftAt_63 ?_
      refine zi_ald0 dX7_graftAt_64 ?_
      refine zi_ild5 dX7_graftAt_65 ?_
      rw [nI_add]
      refine zi_cV1i vmX7_figureAt lkX7_32 dX7_graftAt_67 (by first | assumption | decide) (Nat.le_of_ble_eq_true rfl) (c7_figureAt_raw ho hn2 h13 (show a < n + m by omega)) ?_
      rintro _ _ ⟨rfl, rfl⟩
      rw [hI a (Nat.le_refl a)]
      refine zi_cV2v vmX7_putFigure lkX7_47 dX7_graftAt_70 (by first | assumption | decide) (Nat.le_of_ble_eq_true rfl) (c7_putFigure_raw ho hn2 h13 (show a + m < n + m by omega)) ?_
      rintro _ rfl
      refine zi_inc5 (-1) dX7_graftAt_73 (by decide) (Nat.le_of_ble_eq_true rfl) rfl ?_
      refine zi_goto 53 dX7_graftAt_76 (by decide) ?_
      obtain ⟨b, rfl⟩ : ∃ b, a = b + 1 := ⟨a - 1, by omega⟩
      rw [pk_m1]
      refine ih b _ (by omega) (by omega) (hF.pI rfl) (fun i hi => ?_) (fun i hi1 hi2 => ?_)
      · rw [zs_slot (by omega)]
        exact hI i (by omega)
      · by_cases e : i = b + 1
        · subst e
          rw [zs_same]
        · rw [zs_slot (by omega)]
          exact hJ i (by omega) hi2
theorem l7_graft2 {q j m : Nat} {b0 : Int32} {u z : List Nat} {t : Int32} (ho : zt_ok h) (hq : zt_ok q) (ha : h + 3 ≤ q ∨ q + 3 ≤ h) (hQ : zt_V σ q u t) (hz : z.length = j + u.length + m) (h13 : z.length ≤ 13) (hs : σ.1 h 3 = s) (hn : σ.1 h 2 = nI z.length) (hz3 : ∀ x ∈ z, x < 3) (hzu : ∀ i, i < u.length → z.getD (j + i) 0 = u.getD i 0) {b3 : Int32} : ∀ x i τ, i + x = u.length → zw_F (fun o => o = h + 1) σ τ → (∀ k, k < z.length → (k < j + i ∨ j + u.length ≤ k) → τ.1 (h + 1) k = nI (z.getD k 0)) → zw_W l G (d + 2) mX7_graftAt 82 [some (.ref h), some (.int (nI j)), some (.ref q), some (.int b3), some (.int b0), some (.int (nI i))] [] τ (fun r υ => r = none ∧ zt_V υ h z s ∧ zw_F (fun o => o = h + 1) σ υ) := by
  have k0 := ho.1
  have j0 := hq.1
  intro x
  induction x with
  | zero =>
    intro i τ hi hF hI
    have hQ2 : zt_V τ q u t := hQ.fr hF (by omega) (by omega)
    refine zi_ild5 dX7_graftAt_82 ?_
    refine zi_ald2 dX7_graftAt_84 ?_
    refine zi_getI dX7_graftAt_85 flX7_18 rfl (by first | assumption | decide) ?_
    refine zi_icmp_ge 111 dX7_graftAt_88 (by decide) (fun c88 => ?_) (fun c88 => ?_)
    · refine zi_ret dX7_graftAt_111 rfl ?_
      refine ⟨rfl, ⟨h13, hz3, ?_, ?_, fun k hk => hI k hk (by omega)⟩, hF⟩
      · rw [hF.2 h (by omega)]; exact hn
      · rw [hF.2 h (by omega)]; exact hs
    · rw [hQ2.2.2.1, zn_le (by omega) (by omega)] at c88; omega
  | succ x ih =>
    intro i τ hi hF hI
    have hQ2 : zt_V τ q u t := hQ.fr hF (by omega) (by omega)
    have hn2 : τ.1 h 2 = nI z.length := by rw [hF.2 h (by omega)]; exact hn
    refine zi_ild5 dX7_graftAt_82 ?_
    refine zi_ald2 dX7_graftAt_84 ?_
    refine zi_getI dX7_graftAt_85 flX7_18 rfl (by first | assumption | decide) ?_
    refine zi_icmp_ge 111 dX7_graftAt_88 (by decide) (fun c88 => ?_) (fun c88 => ?_)
    · rw [hQ2.2.2.1, zn_le (by omega) (by omega)] at c88; omega
    · refine zi_ald0 dX7_graftAt_91 ?_
      refine zi_ild1 dX7_graftAt_92 ?_
      refine zi_ild5 dX7_graftAt_93 ?_
      refine zi_iadd dX7_graftAt_95 ?_
      refine zi_ald2 dX7_graftAt_96 ?_
      refine zi_ild5 dX7_graftAt_97 ?_
      rw [nI_add]
      refine zi_cV1i vmX7_figureAt lkX7_32 dX7_graftAt_99 (by first | assumption | decide) (Nat.le_of_ble_eq_true rfl) (c7_figureAt hq hQ2 (show i < 2147483648 by omega)) ?_
      rintro _ _ ⟨rfl, rfl⟩
      refine zi_cV2v vmX7_putFigure lkX7_47 dX7_graftAt_102 (by first | assumption | decide) (Nat.le_of_ble_eq_true rfl) (c7_putFigure_raw ho hn2 h13 (show j + i < z.length by omega)) ?_
      rintro _ rfl
      refine zi_inc5 (nI 1) dX7_graftAt_105 (by decide) (Nat.le_of_ble_eq_true rfl) rfl ?_
      refine zi_goto 82 dX7_graftAt_108 (by decide) ?_
      rw [nI_add]
      refine ih (i + 1) _ (by omega) (hF.pI rfl) (fun k hk hk2 => ?_)
      by_cases e : k = j + i
      · subst e
        rw [zs_same, hzu i (by omega)]
      · rw [zs_slot e]
        exact hI k hk (by omega)
theorem c7_graftAt {q j : Nat} {u : List Nat} {t : Int32} (ho : zt_ok h) (hq : zt_ok q) (ha : h + 3 ≤ q ∨ q + 3 ≤ h) (hV : zt_V σ h w s) (hQ : zt_V σ q u t) (hj : j < w.length) (hu : 1 ≤ u.length) (h13 : w.length + u.length - 1 ≤ 13) : zw_Tv l G (d + 2) mX7_graftAt [.ref h, .int (nI j), .ref q] σ (fun υ => zt_V υ h (w.take j ++ u ++ w.drop (j + 1)) s ∧ zw_F (zt_A h) σ υ) := by
  have k0 := ho.1
  have j0 := hq.1
  obtain ⟨v1, v2, v3, v4, v5⟩ := hV
  have q3 := hQ.2.2.1
  have hu13 := hQ.1
  have hzl : (w.take j ++ u ++ w.drop (j + 1)).length = j + u.length + (w.length - (j + 1)) := by
    rw [List.length_append, List.length_append, List.length_take, List.length_drop]; omega
  refine zw_enter2 (L := [some _, some _, some _, none, none, none]) (by decide) (Nat.le_of_ble_eq_true rfl) rfl ?_
  refine zi_ald2 dX7_graftAt_0 ?_
  refine zi_getI dX7_graftAt_1 flX7_18 rfl (by first | assumption | decide) ?_
  refine zi_iconst (nI 1) dX7_graftAt_4 (by decide) ?_
  refine zi_isub dX7_graftAt_5 ?_
  rw [q3, pk_sub hu]
  refine zi_ist3 dX7_graftAt_6 (Nat.le_of_ble_eq_true rfl) rfl ?_
  refine zi_ild1 dX7_graftAt_7 ?_
  refine zi_if_lt 30 dX7_graftAt_8 (by decide) (fun c8 => ?_) (fun c8 => ?_)
  · rw [zn_0, zn_neg j (by omega)] at c8; exact c8.elim
  · refine zi_ild1 dX7_graftAt_11 ?_
    refine zi_ald0 dX7_graftAt_12 ?_
    refine zi_getI dX7_graftAt_13 flX7_18 rfl (by first | assumption | decide) ?_
    refine zi_icmp_ge 30 dX7_graftAt_16 (by decide) (fun c16 => ?_) (fun c16 => ?_)
    · rw [v3, zn_le (by omega) (by omega)] at c16; omega
    · refine zi_ald0 dX7_graftAt_19 ?_
      refine zi_getI dX7_graftAt_20 flX7_18 rfl (by first | assumption | decide) ?_
      refine zi_ild3 dX7_graftAt_23 ?_
      refine zi_iadd dX7_graftAt_24 ?_
      refine zi_bipush (nI 13) dX7_graftAt_25 (by decide) ?_
      refine zi_icmp_le 31 dX7_graftAt_27 (by decide) (fun c27 => ?_) (fun c27 => ?_)
      · refine zi_ald0 dX7_graftAt_31 ?_
        refine zi_getI dX7_graftAt_32 flX7_18 rfl (by first | assumption | decide) ?_
        refine zi_ist4 dX7_graftAt_35 (Nat.le_of_ble_eq_true rfl) rfl ?_
        refine zi_ald0 dX7_graftAt_37 ?_
        refine zi_dupr dX7_graftAt_38 ?_
        refine zi_getI dX7_graftAt_39 flX7_18 rfl (by first | assumption | decide) ?_
        refine zi_ild3 dX7_graftAt_42 ?_
        refine zi_iadd dX7_graftAt_43 ?_
        refine zi_putI dX7_graftAt_44 flX7_18 fp_7_2 rfl (by first | assumption | decide) ?_
        refine zi_ild4 dX7_graftAt_47 ?_
        refine zi_iconst (nI 1) dX7_graftAt_49 (by decide) ?_
        refine zi_isub dX7_graftAt_50 ?_
        rw [v3, pk_sub (by omega), nI_add]
        refine zi_ist5 dX7_graftAt_51 (Nat.le_of_ble_eq_true rfl) rfl ?_
        refine l7_graft1 (σ := zw_pI σ h 2 (nI (w.length + (u.length - 1)))) (w := w) (n := w.length) ho (fun i hi => by rw [zs_obj (by omega)]; exact v5 i hi) (zs_same _ _ _ _) (by omega) hj (a0 := 0) (b1 := 0) ?_ (w.length - 1 - j) (w.length - 1) _ (by omega) (by omega) zw_F.rf (fun i hi => by rw [zs_obj (by omega)]; exact v5 i (by omega)) (fun i hi1 hi2 => by omega)
        intro τ hF hI hJ
        refine zi_iconst (nI 0) dX7_graftAt_79 (by decide) ?_
        refine zi_ist5 dX7_graftAt_80 (Nat.le_of_ble_eq_true rfl) rfl ?_
        have hQ1 : zt_V τ q u t := (hQ.cg (τ := zw_pI σ h 2 (nI (w.length + (u.length - 1)))) (zs_obj (by omega)) (zs_obj (by omega))).fr hF (by omega) (by omega)
        have hz : (w.take j ++ u ++ w.drop (j + 1)).length = j + u.length + (w.length - (j + 1)) := hzl
        have := l7_graft2 (l := l) (G := G) (d := d) (σ := τ) (s := s) (q := q) (j := j) (b0 := nI w.length) (b3 := nI (u.length - 1)) (z := w.take j ++ u ++ w.drop (j + 1)) ho hq ha hQ1 hz (by omega) (by rw [hF.2 h (by omega), zs_slot (by decide)]; exact v4) (by rw [hF.2 h (by omega), zs_same]; congr 1; omega) (by
          intro x hx
          rcases List.mem_append.mp hx with hx | hx
          · rcases List.mem_append.mp hx with hx | hx
            · exact v2 x (List.mem_of_mem_take hx)
            · exact hQ.2.1 x hx
          · exact v2 x (List.mem_of_mem_drop hx)) (fun i hi => by
          rw [zl_app_lo (by rw [List.length_append, List.length_take]; omega), zl_app_hi (by rw [List.length_take]; omega), List.length_take]
          congr 1; omega) u.length 0 τ (by omega) zw_F.rf (fun k hk hk2 => by
          rcases hk2 with q | q
          · rw [hI k (by omega), zl_app_lo (by rw [List.length_append, List.length_take]; omega), zl_app_lo (by rw [List.length_take]; omega), zl_takeD (by omega)]
          · have := hJ (k - (u.length - 1)) (by omega) (by omega)
            rw [show k - (u.length - 1) + (u.length - 1) = k by omega] at this
            rw [this, zl_app_hi (by rw [List.length_append, List.length_take]; omega), List.length_append, List.length_take, zl_dropD]
            congr 2; omega)
        refine zw_W.mono this (fun r υ hr => ⟨hr.1, hr.2.1, ?_⟩)
        refine ((zw_F.rf (A := zt_A h)).pI (o := h) ⟨by omega, by omega⟩).tr (hF.tr hr.2.2 (fun _ q => q) (fun _ q => q)) (fun _ q => q) (fun o q => ?_)
        exact ⟨by omega, by omega⟩
      · rw [v3, nI_add, zn_le (by omega) (by omega)] at c27; omega
end Z13
end
section
/-! places, steps, made plain: the words of both sides -/
def zt_br (w : List Nat) (n side : Nat) : Nat := if side = 0 then n + 1 else n + 1 + zt_cn 1 (w.drop (n + 1))
/-- the pattern at spot k (twice the node, and the side): 8, none -/
def zt_pat (w : List Nat) (k : Nat) : Nat := if w.getD (k / 2) 0 = 0 then 8 else if w.getD (zt_br w (k / 2) (k % 2)) 0 = 0 then 8 else 4 * (w.getD (k / 2) 0 - 1) + 2 * (w.getD (zt_br w (k / 2) (k % 2)) 0 - 1) + k % 2
def zt_bi (fa : Nat → Nat) (w : List Nat) (k : Nat) : Bool := decide (zt_pat w k < 8) && fa (zt_pat w k) != 0
/-- the places, by spots -/
def zt_sp (fa : Nat → Nat) (w : List Nat) : List Nat := (List.range (2 * w.length)).filter (zt_bi fa w)
/-- how long the first of the three branches is, and where it begins -/
def zt_a (w : List Nat) (k : Nat) : Nat := if k % 2 = 0 then zt_cn 1 (w.drop (k / 2 + 2)) else zt_cn 1 (w.drop (k / 2 + 1))
def zt_b (k : Nat) : Nat := if k % 2 = 0 then k / 2 + 2 else k / 2 + 1
/-- the pattern at spot k becomes g -/
def zt_rb (w : List Nat) (k g : Nat) : List Nat := w.take (k / 2) ++ ((g / 4 + 1) :: (if g % 2 = 0 then (g / 2 % 2 + 1) :: (w.drop (zt_b k)).take (zt_a w k) else (w.drop (zt_b k)).take (zt_a w k) ++ [g / 2 % 2 + 1])) ++ w.drop (k / 2 + 2 + zt_a w k)
/-- a step at spot k -/
def zt_st (fa go : Nat → Nat) (w : List Nat) (s : Int32) (k : Nat) : List Nat × Int32 := if fa (zt_pat w k) = 1 then ([0], nI 0) else (zt_rb w k (go (zt_pat w k)), if fa (zt_pat w k) = 3 then -s else s)
/-- made plain, with at most f steps more: steps, word, sign -/
def zt_pl (fa go : Nat → Nat) : Nat → Nat → List Nat → Int32 → Option (Nat × List Nat × Int32)
  | 0, n, w, s => match zt_sp fa w with
    | [] => some (n, w, s)
    | _ :: _ => none
  | f + 1, n, w, s => match zt_sp fa w with
    | [] => some (n, w, s)
    | k :: _ => zt_pl fa go f (n + 1) (zt_st fa go w s k).1 (zt_st fa go w s k).2
/-- a word that is one tree of six nodes at most -/
def zt_wd (w : List Nat) : Prop := zt_rd 1 w ∧ (∀ x ∈ w, x < 3) ∧ w.length ≤ 13
theorem zt_wd.nm {w : List Nat} (h : zt_wd w) : zt_nm w := by
  obtain ⟨h1, h2, h3⟩ := h
  cases w with
  | nil => exact h1.elim
  | cons x w =>
    refine ⟨by simp, ?_⟩
    cases x with
    | zero =>
      left
      cases w with
      | nil => rfl
      | cons y w => exact h1.elim
    | succ x => right; simp
theorem zt_wd.pos {w : List Nat} (h : zt_wd w) : 1 ≤ w.length := zt_rd_ne h.1
theorem zt_wd.odd {w : List Nat} (h : zt_wd w) : ∃ n, w.length = 2 * n + 1 ∧ n ≤ 6 := by
  obtain ⟨n, hn⟩ := zt_rd_len w 1 h.1
  exact ⟨n, hn, by have := h.2.2; omega⟩
theorem zt_leaf_wd : zt_wd [0] := ⟨trivial, by decide, by decide⟩
theorem zt_pat_le {w : List Nat} (h : ∀ x ∈ w, x < 3) (k : Nat) : zt_pat w k ≤ 8 := by
  have h1 := zl_getD_lt h (k / 2)
  have h2 := zl_getD_lt h (zt_br w (k / 2) (k % 2))
  unfold zt_pat
  split
  · omega
  · split <;> omega
/-- where a pattern stands: two nodes, three branches -/
theorem zt_core {w : List Nat} {k j : Nat} (hp : zt_pat w k < 8) (hj : zt_rd j (w.drop (k / 2))) : ∃ j', j = j' + 1 ∧ zt_rd 1 ((w.drop (zt_b k)).take (zt_a w k)) ∧ zt_rd (j' + 2) (w.drop (k / 2 + 2 + zt_a w k)) ∧ k / 2 + 2 + zt_a w k ≤ w.length ∧ w.getD (k / 2) 0 ≠ 0 ∧ w.getD (zt_br w (k / 2) (k % 2)) 0 ≠ 0 := by
  have hx : w.getD (k / 2) 0 ≠ 0 := by
    intro q; unfold zt_pat at hp; rw [if_pos q] at hp; omega
  have hy : w.getD (zt_br w (k / 2) (k % 2)) 0 ≠ 0 := by
    intro q; unfold zt_pat at hp; rw [if_neg hx, if_pos q] at hp; omega
  have hn : k / 2 < w.length := by
    rcases Nat.lt_or_ge (k / 2) w.length with q | q
    · exact q
    · exact absurd (zl_getD_no q) hx
  have hm : zt_br w (k / 2) (k % 2) < w.length := by
    rcases Nat.lt_or_ge (zt_br w (k / 2) (k % 2)) w.length with q | q
    · exact q
    · exact absurd (zl_getD_no q) hy
  rw [zl_drop hn] at hj
  obtain ⟨x, ex⟩ : ∃ x, w.getD (k / 2) 0 = x + 1 := ⟨w.getD (k / 2) 0 - 1, by omega⟩
  rw [ex] at hj
  cases j with
  | zero => exact hj.elim
  | succ j =>
    have hj : zt_rd (j + 2) (w.drop (k / 2 + 1)) := hj
    refine ⟨j, rfl, ?_⟩
    by_cases e : k % 2 = 0
    · have eb : zt_br w (k / 2) (k % 2) = k / 2 + 1 := by unfold zt_br; rw [if_pos e]
      have ea : zt_a w k = zt_cn 1 (w.drop (k / 2 + 2)) := by unfold zt_a; rw [if_pos e]
      have e2 : zt_b k = k / 2 + 2 := by unfold zt_b; rw [if_pos e]
      rw [eb] at hy hm ⊢
      rw [zl_drop hm] at hj
      obtain ⟨y, ey⟩ : ∃ y, w.getD (k / 2 + 1) 0 = y + 1 := ⟨w.getD (k / 2 + 1) 0 - 1, by omega⟩
      rw [ey] at hj
      have hj : zt_rd (1 + (j + 2)) (w.drop (k / 2 + 2)) := by
        rw [show 1 + (j + 2) = j + 1 + 2 by omega]; exact hj
      obtain ⟨s1, s2⟩ := zt_rd_split _ 1 (j + 2) hj
      have hle := zt_cn_le (w.drop (k / 2 + 2)) 1
      rw [List.length_drop] at hle
      rw [List.drop_drop] at s2
      rw [ea, e2]
      exact ⟨s1, s2, by omega, hx, hy⟩
    · have eb : zt_br w (k / 2) (k % 2) = k / 2 + 1 + zt_cn 1 (w.drop (k / 2 + 1)) := by unfold zt_br; rw [if_neg e]
      have ea : zt_a w k = zt_cn 1 (w.drop (k / 2 + 1)) := by unfold zt_a; rw [if_neg e]
      have e2 : zt_b k = k / 2 + 1 := by unfold zt_b; rw [if_neg e]
      rw [eb] at hy hm ⊢
      have hj : zt_rd (1 + (j + 1)) (w.drop (k / 2 + 1)) := by
        rw [show 1 + (j + 1) = j + 2 by omega]; exact hj
      obtain ⟨s1, s2⟩ := zt_rd_split _ 1 (j + 1) hj
      rw [List.drop_drop, zl_drop hm] at s2
      obtain ⟨y, ey⟩ : ∃ y, w.getD (k / 2 + 1 + zt_cn 1 (w.drop (k / 2 + 1))) 0 = y + 1 := ⟨w.getD (k / 2 + 1 + zt_cn 1 (w.drop (k / 2 + 1))) 0 - 1, by omega⟩
      rw [ey] at s2
      have s2 : zt_rd (j + 2) (w.drop (k / 2 + 1 + zt_cn 1 (w.drop (k / 2 + 1)) + 1)) := s2
      rw [ea, e2, show k / 2 + 2 + zt_cn 1 (w.drop (k / 2 + 1)) = k / 2 + 1 + zt_cn 1 (w.drop (k / 2 + 1)) + 1 by omega]
      exact ⟨s1, s2, by omega, hx, hy⟩
theorem zt_rd_repl : ∀ (u v v' : List Nat) (m : Nat), zt_rd m (u ++ v) → (∀ j, zt_rd j v → zt_rd j v') → zt_rd m (u ++ v')
  | [], v, v', m, h, hj => hj m h
  | x :: u, v, v', 0, h, hj => h.elim
  | 0 :: u, v, v', m + 1, h, hj => zt_rd_repl u v v' m h hj
  | (x + 1) :: u, v, v', m + 1, h, hj => zt_rd_repl u v v' (m + 2) h hj
theorem zt_wd_drop {w : List Nat} (h : zt_rd 1 w) {i : Nat} (hi : i ≤ w.length) : ∃ j, zt_rd j (w.drop i) := zt_rd_drop w 1 i h hi
theorem zt_pat_lt {w : List Nat} {k : Nat} (hp : zt_pat w k < 8) : k / 2 < w.length := by
  rcases Nat.lt_or_ge (k / 2) w.length with q | q
  · exact q
  · unfold zt_pat at hp; rw [if_pos (zl_getD_no q)] at hp; omega
theorem zt_rb_len {w : List Nat} {k g : Nat} (h : k / 2 + 2 + zt_a w k ≤ w.length) : (zt_rb w k g).length = w.length := by
  have hb : ((w.drop (zt_b k)).take (zt_a w k)).length = zt_a w k := by
    rw [List.length_take, List.length_drop]
    unfold zt_b
    split <;> omega
  unfold zt_rb
  rw [List.length_append, List.length_append, List.length_take, List.length_drop, List.length_cons]
  split
  · rw [List.length_cons, hb]; omega
  · rw [List.length_append, List.length_singleton, hb]; omega
theorem zt_rb_wd {w : List Nat} {k g : Nat} (h : zt_wd w) (hp : zt_pat w k < 8) (hg : g < 8) : zt_wd (zt_rb w k g) := by
  obtain ⟨h1, h2, h3⟩ := h
  have hn := zt_pat_lt hp
  obtain ⟨j0, hj0⟩ := zt_wd_drop h1 (Nat.le_of_lt hn)
  obtain ⟨-, -, -, -, hlen, hx, hy⟩ := zt_core hp hj0
  refine ⟨?_, ?_, by rw [zt_rb_len hlen]; exact h3⟩
  · have e : w = w.take (k / 2) ++ w.drop (k / 2) := (List.take_append_drop _ _).symm
    unfold zt_rb
    rw [List.append_assoc]
    refine zt_rd_repl (w.take (k / 2)) (w.drop (k / 2)) _ 1 (by rw [← e]; exact h1) (fun j hj => ?_)
    obtain ⟨j', rfl, s1, s2, -, -, -⟩ := zt_core hp hj
    show zt_rd (j' + 2) ((if g % 2 = 0 then (g / 2 % 2 + 1) :: (w.drop (zt_b k)).take (zt_a w k) else (w.drop (zt_b k)).take (zt_a w k) ++ [g / 2 % 2 + 1]) ++ w.drop (k / 2 + 2 + zt_a w k))
    split
    · show zt_rd (j' + 1 + 2) ((w.drop (zt_b k)).take (zt_a w k) ++ w.drop (k / 2 + 2 + zt_a w k))
      have := zt_rd_app _ _ _ _ s1 s2
      rw [show 1 + (j' + 2) = j' + 1 + 2 by omega] at this
      exact this
    · rw [List.append_assoc]
      have s3 : zt_rd (j' + 1) ([g / 2 % 2 + 1] ++ w.drop (k / 2 + 2 + zt_a w k)) := s2
      have := zt_rd_app _ _ _ _ s1 s3
      rw [show 1 + (j' + 1) = j' + 2 by omega] at this
      exact this
  · have hA : ∀ x ∈ (w.drop (zt_b k)).take (zt_a w k), x < 3 := fun x hx => h2 x (List.mem_of_mem_drop (List.mem_of_mem_take hx))
    intro x hx
    unfold zt_rb at hx
    rcases List.mem_append.mp hx with hx | hx
    · rcases List.mem_append.mp hx with hx | hx
      · exact h2 x (List.mem_of_mem_take hx)
      · rcases List.mem_cons.mp hx with hx | hx
        · omega
        · split at hx
          · rcases List.mem_cons.mp hx with hx | hx
            · omega
            · exact hA x hx
          · rcases List.mem_append.mp hx with hx | hx
            · exact hA x hx
            · rw [List.mem_singleton] at hx
              omega
    · exact h2 x (List.mem_of_mem_drop hx)
theorem zt_st_wd {fa go : Nat → Nat} {w : List Nat} {s : Int32} {k : Nat} (h : zt_wd w) (hp : zt_pat w k < 8) (hg : fa (zt_pat w k) ≠ 1 → go (zt_pat w k) < 8) : zt_wd (zt_st fa go w s k).1 := by
  unfold zt_st
  split
  · exact zt_leaf_wd
  · next q => exact zt_rb_wd h hp (hg q)
/-- the rebuilt word, place by place -/
theorem zt_rb_at {w : List Nat} {k g : Nat} (h : k / 2 + 2 + zt_a w k ≤ w.length) (i : Nat) : (zt_rb w k g).getD i 0 =
    if i = k / 2 then g / 4 + 1 else if g % 2 = 0 then (if i = k / 2 + 1 then g / 2 % 2 + 1 else if k / 2 + 1 < i ∧ i < k / 2 + 2 + zt_a w k then w.getD (zt_b k + (i - (k / 2 + 2))) 0 else w.getD i 0)
    else (if i = k / 2 + 1 + zt_a w k then g / 2 % 2 + 1 else if k / 2 < i ∧ i < k / 2 + 1 + zt_a w k then w.getD (zt_b k + (i - (k / 2 + 1))) 0 else w.getD i 0) := by
  have hbl : zt_b k + zt_a w k ≤ w.length := by unfold zt_b; split <;> omega
  have hb : ((w.drop (zt_b k)).take (zt_a w k)).length = zt_a w k := by
    rw [List.length_take, List.length_drop]; omega
  have hA : ∀ j, j < zt_a w k → ((w.drop (zt_b k)).take (zt_a w k)).getD j 0 = w.getD (zt_b k + j) 0 := fun j hj => by
    rw [zl_takeD hj, zl_dropD]
  have hT : (w.take (k / 2)).length = k / 2 := by rw [List.length_take]; omega
  generalize hAA : (w.drop (zt_b k)).take (zt_a w k) = A at hb hA
  unfold zt_rb
  rw [hAA]
  rw [List.append_assoc]
  rcases Nat.lt_or_ge i (k / 2) with q | q
  · rw [zl_app_lo (by rw [hT]; exact q), zl_takeD q, if_neg (by omega)]
    by_cases g2 : g % 2 = 0
    · rw [if_pos g2, if_neg (by omega), if_neg (by omega)]
    · rw [if_neg g2, if_neg (by omega), if_neg (by omega)]
  · rw [zl_app_hi (by rw [hT]; exact q), hT]
    by_cases e : i = k / 2
    · rw [if_pos e, e, Nat.sub_self]; rfl
    · rw [if_neg e]
      obtain ⟨j, rfl⟩ : ∃ j, i = k / 2 + 1 + j := ⟨i - (k / 2 + 1), by omega⟩
      rw [show k / 2 + 1 + j - k / 2 = j + 1 by omega, List.cons_append, List.getD_cons_succ]
      by_cases g2 : g % 2 = 0
      · rw [if_pos g2, if_pos g2]
        cases j with
        | zero => rw [if_pos (by omega)]; rfl
        | succ j =>
          rw [List.cons_append, List.getD_cons_succ, if_neg (by omega)]
          rcases Nat.lt_or_ge j (zt_a w k) with r | r
          · rw [zl_app_lo (by omega), hA j r, if_pos (by omega)]
            congr 1; omega
          · rw [zl_app_hi (by omega), hb, zl_dropD, if_neg (by omega)]
            congr 1; omega
      · rw [if_neg g2, if_neg g2]
        rw [List.append_assoc]
        rcases Nat.lt_or_ge j (zt_a w k) with r | r
        · rw [zl_app_lo (by omega), hA j r, if_neg (by omega), if_pos (by omega)]
          congr 1; omega
        · rw [zl_app_hi (by omega), hb]
          by_cases r2 : j = zt_a w k
          · rw [r2, Nat.sub_self, if_pos rfl]; rfl
          · rw [show j - zt_a w k = (j - zt_a w k - 1) + 1 by omega, List.cons_append, List.getD_cons_succ, List.nil_append, zl_dropD, if_neg (by omega), if_neg (by omega)]
            congr 1; omega
end
section
section Z15
variable {l : Launch} {G : zw_G} {d : Nat} {σ : zw_S} {h r : Nat} {w : List Nat} {s : Int32} {fa go : Nat → Nat}
theorem c4_fateOf_g (ho : zr_ok r) (hR : zr_V σ r fa go) {p : Nat} : zw_Ti l G (d + 2) mX4_fateOf [.ref r, .int (zp_gI p)] σ (fun x s => σ = s ∧ x = nI (if p < 8 then fa p else 0)) := by
  by_cases hp : p < 8
  · rw [zp_gI_lt hp, if_pos hp]
    exact c4_fateOf ho hR hp
  · rw [zp_gI_no hp, if_neg hp]
    exact c4_fateOf_out ho (zn_out_m1 8)
theorem zt_bi_iff {fa : Nat → Nat} {w : List Nat} {k : Nat} : zt_bi fa w k = true ↔ (if zt_pat w k < 8 then fa (zt_pat w k) else 0) ≠ 0 := by
  unfold zt_bi
  by_cases hp : zt_pat w k < 8
  · simp [hp]
  · simp [hp]
theorem c7_patternAt (ho : zt_ok h) (hV : zt_V σ h w s) {k : Nat} (hk : k < 1000) : zw_Ti l G (d + 2) mX7_patternAt [.ref h, .int (nI k)] σ (fun x τ => σ = τ ∧ x = zp_gI (zt_pat w k)) := by
  have k0 := ho.1
  have h13 := hV.1
  have hx := zl_getD_lt hV.2.1 (k / 2)
  refine zw_enter2 (L := [some _, some _, none, none, none, none]) (by decide) (Nat.le_of_ble_eq_true rfl) rfl ?_
  refine zi_ild1 dX7_patternAt_0 ?_
  refine zi_iconst (nI 2) dX7_patternAt_1 (by decide) ?_
  refine zi_idiv dX7_patternAt_2 (by decide) ?_
  rw [pk_div (by omega) (by decide) (by decide)]
  refine zi_ist2 dX7_patternAt_3 (Nat.le_of_ble_eq_true rfl) rfl ?_
  refine zi_ild1 dX7_patternAt_4 ?_
  refine zi_iconst (nI 1) dX7_patternAt_5 (by decide) ?_
  refine zi_iand dX7_patternAt_6 ?_
  rw [pk_andN (by omega) (m := nI 1) 1 rfl]
  try change zw_W l G _ _ _ _ (Value.int (nI (k % 2)) :: _) _ _
  refine zi_ist3 dX7_patternAt_7 (Nat.le_of_ble_eq_true rfl) rfl ?_
  refine zi_ald0 dX7_patternAt_8 ?_
  refine zi_ild2 dX7_patternAt_9 ?_
  refine zi_cV1i vmX7_figureAt lkX7_32 dX7_patternAt_10 (by first | assumption | decide) (Nat.le_of_ble_eq_true rfl) (c7_figureAt ho hV (show k / 2 < 2147483648 by omega)) ?_
  rintro _ _ ⟨rfl, rfl⟩
  refine zi_ist4 dX7_patternAt_13 (Nat.le_of_ble_eq_true rfl) rfl ?_
  refine zi_ild1 dX7_patternAt_15 ?_
  refine zi_if_lt 24 dX7_patternAt_16 (by decide) (fun c16 => ?_) (fun c16 => ?_)
  · rw [zn_0, zn_neg k (by omega)] at c16; exact c16.elim
  · refine zi_ild4 dX7_patternAt_19 ?_
    refine zi_if_ne 26 dX7_patternAt_21 (by decide) (fun c21 => ?_) (fun c21 => ?_)
    · rw [zn_0, zn_eq (by omega) (by omega)] at c21
      have hn : k / 2 < w.length := by
        rcases Nat.lt_or_ge (k / 2) w.length with q | q
        · exact q
        · exact absurd (zl_getD_no q) c21
      have hle := zt_cn_le (w.drop (k / 2 + 1)) 1
      rw [List.length_drop] at hle
      refine zi_ald0 dX7_patternAt_26 ?_
      refine zi_ild3 dX7_patternAt_27 ?_
      refine zi_if_ne 37 dX7_patternAt_28 (by decide) (fun c28 => ?_) (fun c28 => ?_)
      · rw [zn_0, zn_eq (by omega) (by omega)] at c28
        have eb : zt_br w (k / 2) (k % 2) = k / 2 + 1 + zt_cn 1 (w.drop (k / 2 + 1)) := by unfold zt_br; rw [if_neg c28]
        refine zi_ald0 dX7_patternAt_37 ?_
        refine zi_ild2 dX7_patternAt_38 ?_
        refine zi_iconst (nI 1) dX7_patternAt_39 (by decide) ?_
        refine zi_iadd dX7_patternAt_40 ?_
        rw [nI_add]
        refine zi_cV1i vmX7_endOf lkX7_51 dX7_patternAt_41 (by first | assumption | decide) (Nat.le_of_ble_eq_true rfl) (c7_endOf ho hV (show k / 2 + 1 ≤ w.length by omega)) ?_
        rintro _ _ ⟨rfl, rfl⟩
        rw [← eb]
        refine zi_cV1i vmX7_figureAt lkX7_32 dX7_patternAt_44 (by first | assumption | decide) (Nat.le_of_ble_eq_true rfl) (c7_figureAt ho hV (show zt_br w (k / 2) (k % 2) < 2147483648 by omega)) ?_
        rintro _ _ ⟨rfl, rfl⟩
        have hy := zl_getD_lt hV.2.1 (zt_br w (k / 2) (k % 2))
        refine zi_ist5 dX7_patternAt_47 (Nat.le_of_ble_eq_true rfl) rfl ?_
        refine zi_ild5 dX7_patternAt_49 ?_
        refine zi_if_ne 56 dX7_patternAt_51 (by decide) (fun c51 => ?_) (fun c51 => ?_)
        · rw [zn_0, zn_eq (by omega) (by omega)] at c51
          refine zi_iconst (nI 4) dX7_patternAt_56 (by decide) ?_
          refine zi_ild4 dX7_patternAt_57 ?_
          refine zi_iconst (nI 1) dX7_patternAt_59 (by decide) ?_
          refine zi_isub dX7_patternAt_60 ?_
          refine zi_imul dX7_patternAt_61 ?_
          refine zi_iconst (nI 2) dX7_patternAt_62 (by decide) ?_
          refine zi_ild5 dX7_patternAt_63 ?_
          refine zi_iconst (nI 1) dX7_patternAt_65 (by decide) ?_
          refine zi_isub dX7_patternAt_66 ?_
          refine zi_imul dX7_patternAt_67 ?_
          refine zi_iadd dX7_patternAt_68 ?_
          refine zi_ild3 dX7_patternAt_69 ?_
          refine zi_iadd dX7_patternAt_70 ?_
          refine zi_iret dX7_patternAt_71 rfl ?_
          refine ⟨_, rfl, rfl, ?_⟩
          unfold zt_pat
          rw [if_neg c21, if_neg c51, zp_gI_lt (by omega), pk_sub (by omega), pk_sub (by omega), pk_mul, pk_mul, nI_add, nI_add]
        · rw [zn_0, zn_eq (by omega) (by omega)] at c51
          refine zi_iconst (-1) dX7_patternAt_54 (by decide) ?_
          refine zi_iret dX7_patternAt_55 rfl ?_
          refine ⟨_, rfl, rfl, ?_⟩
          unfold zt_pat
          rw [if_neg c21, if_pos c51]; rfl
      · rw [zn_0, zn_eq (by omega) (by omega)] at c28
        have eb : zt_br w (k / 2) (k % 2) = k / 2 + 1 := by unfold zt_br; rw [if_pos c28]
        refine zi_ild2 dX7_patternAt_31 ?_
        refine zi_iconst (nI 1) dX7_patternAt_32 (by decide) ?_
        refine zi_iadd dX7_patternAt_33 ?_
        rw [nI_add, ← eb]
        refine zi_goto 44 dX7_patternAt_34 (by decide) ?_
        refine zi_cV1i vmX7_figureAt lkX7_32 dX7_patternAt_44 (by first | assumption | decide) (Nat.le_of_ble_eq_true rfl) (c7_figureAt ho hV (show zt_br w (k / 2) (k % 2) < 2147483648 by omega)) ?_
        rintro _ _ ⟨rfl, rfl⟩
        have hy := zl_getD_lt hV.2.1 (zt_br w (k / 2) (k % 2))
        refine zi_ist5 dX7_patternAt_47 (Nat.le_of_ble_eq_true rfl) rfl ?_
        refine zi_ild5 dX7_patternAt_49 ?_
        refine zi_if_ne 56 dX7_patternAt_51 (by decide) (fun c51 => ?_) (fun c51 => ?_)
        · rw [zn_0, zn_eq (by omega) (by omega)] at c51
          refine zi_iconst (nI 4) dX7_patternAt_56 (by decide) ?_
          refine zi_ild4 dX7_patternAt_57 ?_
          refine zi_iconst (nI 1) dX7_patternAt_59 (by decide) ?_
          refine zi_isub dX7_patternAt_60 ?_
          refine zi_imul dX7_patternAt_61 ?_
          refine zi_iconst (nI 2) dX7_patternAt_62 (by decide) ?_
          refine zi_ild5 dX7_patternAt_63 ?_
          refine zi_iconst (nI 1) dX7_patternAt_65 (by decide) ?_
          refine zi_isub dX7_patternAt_66 ?_
          refine zi_imul dX7_patternAt_67 ?_
          refine zi_iadd dX7_patternAt_68 ?_
          refine zi_ild3 dX7_patternAt_69 ?_
          refine zi_iadd dX7_patternAt_70 ?_
          refine zi_iret dX7_patternAt_71 rfl ?_
          refine ⟨_, rfl, rfl, ?_⟩
          unfold zt_pat
          rw [if_neg c21, if_neg c51, zp_gI_lt (by omega), pk_sub (by omega), pk_sub (by omega), pk_mul, pk_mul, nI_add, nI_add]
        · rw [zn_0, zn_eq (by omega) (by omega)] at c51
          refine zi_iconst (-1) dX7_patternAt_54 (by decide) ?_
          refine zi_iret dX7_patternAt_55 rfl ?_
          refine ⟨_, rfl, rfl, ?_⟩
          unfold zt_pat
          rw [if_neg c21, if_pos c51]; rfl
    · rw [zn_0, zn_eq (by omega) (by omega)] at c21
      refine zi_iconst (-1) dX7_patternAt_24 (by decide) ?_
      refine zi_iret dX7_patternAt_25 rfl ?_
      refine ⟨_, rfl, rfl, ?_⟩
      unfold zt_pat
      rw [if_pos c21]; rfl
theorem l7_places (ho : zt_ok h) (hr : zr_ok r) (hV : zt_V σ h w s) (hR : zr_V σ r fa go) : ∀ n i, i + n = 2 * w.length → zw_W l G (d + 3) mX7_places 4 [some (.ref h), some (.ref r), some (.int (nI ((List.range i).filter (zt_bi fa w)).length)), some (.int (nI i))] [] σ (fun x τ => ∃ y, x = some (.int y) ∧ σ = τ ∧ y = nI (zt_sp fa w).length) := by
  have k0 := ho.1
  have j0 := hr.1
  have h13 := hV.1
  intro n
  induction n with
  | zero =>
    intro i hi
    obtain rfl : i = 2 * w.length := by omega
    refine zi_ild3 dX7_places_4 ?_
    refine zi_iconst (nI 2) dX7_places_5 (by decide) ?_
    refine zi_ald0 dX7_places_6 ?_
    refine zi_getI dX7_places_7 flX7_18 rfl (by first | assumption | decide) ?_
    refine zi_imul dX7_places_10 ?_
    refine zi_icmp_ge 35 dX7_places_11 (by decide) (fun c11 => ?_) (fun c11 => ?_)
    · refine zi_ild2 dX7_places_35 ?_
      refine zi_iret dX7_places_36 rfl ?_
      exact ⟨_, rfl, rfl, rfl⟩
    · rw [hV.2.2.1, pk_mul, zn_le (by omega) (by omega)] at c11; omega
  | succ n ih =>
    intro i hi
    have hf : (if zt_pat w i < 8 then fa (zt_pat w i) else 0) < 2147483648 := by
      split
      · next q => have := (hR _ q).1; omega
      · omega
    refine zi_ild3 dX7_places_4 ?_
    refine zi_iconst (nI 2) dX7_places_5 (by decide) ?_
    refine zi_ald0 dX7_places_6 ?_
    refine zi_getI dX7_places_7 flX7_18 rfl (by first | assumption | decide) ?_
    refine zi_imul dX7_places_10 ?_
    refine zi_icmp_ge 35 dX7_places_11 (by decide) (fun c11 => ?_) (fun c11 => ?_)
    · rw [hV.2.2.1, pk_mul, zn_le (by omega) (by omega)] at c11; omega
    · refine zi_ald1 dX7_places_14 ?_
      refine zi_ald0 dX7_places_15 ?_
      refine zi_ild3 dX7_places_16 ?_
      refine zi_cV1i vmX7_patternAt lkX7_54 dX7_places_17 (by first | assumption | decide) (Nat.le_of_ble_eq_true rfl) (c7_patternAt ho hV (show i < 1000 by omega)) ?_
      rintro _ _ ⟨rfl, rfl⟩
      refine zi_cV1i vmX4_fateOf lkX7_57 dX7_places_20 (by first | assumption | decide) (Nat.le_of_ble_eq_true rfl) (c4_fateOf_g hr hR) ?_
      rintro _ _ ⟨rfl, rfl⟩
      refine zi_if_eq 29 dX7_places_23 (by decide) (fun c23 => ?_) (fun c23 => ?_)
      · refine zi_inc3 (nI 1) dX7_places_29 (by decide) (Nat.le_of_ble_eq_true rfl) rfl ?_
        refine zi_goto 4 dX7_places_32 (by decide) ?_
        first
        | (rw [nI_add, nI_add]
           have := ih (i + 1) (by omega)
           rw [zl_fs (zt_bi_iff.mpr c23)] at this
           exact this)
        | (rw [zn_0, zn_eq hf (by omega)] at c23
           rw [nI_add]
           have := ih (i + 1) (by omega)
           rw [zl_fn (by rw [← Bool.not_eq_true, zt_bi_iff]; exact fun q => q c23)] at this
           exact this)
      · rw [zn_0, zn_eq hf (by omega)] at c23
        refine zi_inc2 (nI 1) dX7_places_26 (by decide) (Nat.le_of_ble_eq_true rfl) rfl ?_
        refine zi_inc3 (nI 1) dX7_places_29 (by decide) (Nat.le_of_ble_eq_true rfl) rfl ?_
        refine zi_goto 4 dX7_places_32 (by decide) ?_
        first
        | (rw [nI_add, nI_add]
           have := ih (i + 1) (by omega)
           rw [zl_fs (zt_bi_iff.mpr c23)] at this
           exact this)
        | (rw [zn_0, zn_eq hf (by omega)] at c23
           rw [nI_add]
           have := ih (i + 1) (by omega)
           rw [zl_fn (by rw [← Bool.not_eq_true, zt_bi_iff]; exact fun q => q c23)] at this
           exact this)
theorem c7_places (ho : zt_ok h) (hr : zr_ok r) (hV : zt_V σ h w s) (hR : zr_V σ r fa go) : zw_Ti l G (d + 3) mX7_places [.ref h, .ref r] σ (fun x τ => σ = τ ∧ x = nI (zt_sp fa w).length) := by
  refine zw_enter2 (L := [some _, some _, none, none]) (by decide) (Nat.le_of_ble_eq_true rfl) rfl ?_
  refine zi_iconst (nI 0) dX7_places_0 (by decide) ?_
  refine zi_ist2 dX7_places_1 (Nat.le_of_ble_eq_true rfl) rfl ?_
  refine zi_iconst (nI 0) dX7_places_2 (by decide) ?_
  refine zi_ist3 dX7_places_3 (Nat.le_of_ble_eq_true rfl) rfl ?_
  exact l7_places ho hr hV hR (2 * w.length) 0 (by omega)
theorem l7_spotOf {k : Int32} (ho : zt_ok h) (hr : zr_ok r) (hV : zt_V σ h w s) (hR : zr_V σ r fa go) : ∀ n i, i + n = 2 * w.length → (∀ j, j < ((List.range i).filter (zt_bi fa w)).length → k ≠ nI j) → zw_W l G (d + 3) mX7_spotOf 5 [some (.ref h), some (.int k), some (.ref r), some (.int (nI ((List.range i).filter (zt_bi fa w)).length)), some (.int (nI i))] [] σ (fun x τ => ∃ y, x = some (.int y) ∧ σ = τ ∧ y = zp_oI (zp_at (zt_sp fa w) k)) := by
  have k0 := ho.1
  have j0 := hr.1
  have h13 := hV.1
  intro n
  induction n with
  | zero =>
    intro i hi hI
    obtain rfl : i = 2 * w.length := by omega
    have hle := zl_fle (s := 2 * w.length) (b := zt_bi fa w)
    refine zi_ild4 dX7_spotOf_5 ?_
    refine zi_iconst (nI 2) dX7_spotOf_7 (by decide) ?_
    refine zi_ald0 dX7_spotOf_8 ?_
    refine zi_getI dX7_spotOf_9 flX7_18 rfl (by first | assumption | decide) ?_
    refine zi_imul dX7_spotOf_12 ?_
    refine zi_icmp_ge 46 dX7_spotOf_13 (by decide) (fun c13 => ?_) (fun c13 => ?_)
    · refine zi_iconst (-1) dX7_spotOf_46 (by decide) ?_
      refine zi_iret dX7_spotOf_47 rfl ?_
      refine ⟨_, rfl, rfl, ?_⟩
      rw [zp_at_no (l := zt_sp fa w) (by show (List.filter _ _).length < _; omega) hI]; rfl
    · rw [hV.2.2.1, pk_mul, zn_le (by omega) (by omega)] at c13; omega
  | succ n ih =>
    intro i hi hI
    have hle := zl_fle (s := i) (b := zt_bi fa w)
    have hf : (if zt_pat w i < 8 then fa (zt_pat w i) else 0) < 2147483648 := by
      split
      · next q => have := (hR _ q).1; omega
      · omega
    refine zi_ild4 dX7_spotOf_5 ?_
    refine zi_iconst (nI 2) dX7_spotOf_7 (by decide) ?_
    refine zi_ald0 dX7_spotOf_8 ?_
    refine zi_getI dX7_spotOf_9 flX7_18 rfl (by first | assumption | decide) ?_
    refine zi_imul dX7_spotOf_12 ?_
    refine zi_icmp_ge 46 dX7_spotOf_13 (by decide) (fun c13 => ?_) (fun c13 => ?_)
    · rw [hV.2.2.1, pk_mul, zn_le (by omega) (by omega)] at c13; omega
    · refine zi_ald2 dX7_spotOf_16 ?_
      refine zi_ald0 dX7_spotOf_17 ?_
      refine zi_ild4 dX7_spotOf_18 ?_
      refine zi_cV1i vmX7_patternAt lkX7_54 dX7_spotOf_20 (by first | assumption | decide) (Nat.le_of_ble_eq_true rfl) (c7_patternAt ho hV (show i < 1000 by omega)) ?_
      rintro _ _ ⟨rfl, rfl⟩
      refine zi_cV1i vmX4_fateOf lkX7_57 dX7_spotOf_23 (by first | assumption | decide) (Nat.le_of_ble_eq_true rfl) (c4_fateOf_g hr hR) ?_
      rintro _ _ ⟨rfl, rfl⟩
      refine zi_if_eq 40 dX7_spotOf_26 (by decide) (fun c26 => ?_) (fun c26 => ?_)
      · refine zi_inc4 (nI 1) dX7_spotOf_40 (by decide) (Nat.le_of_ble_eq_true rfl) rfl ?_
        refine zi_goto 5 dX7_spotOf_43 (by decide) ?_
        first
        | (have hfs := zl_fs (zt_bi_iff.mpr c26)
           have := ih (i + 1) (by omega) (fun j hj => by
             rw [hfs] at hj
             by_cases e : j = ((List.range i).filter (zt_bi fa w)).length
             · rw [e]; exact fun q => c31 q.symm
             · exact hI j (by omega))
           rw [hfs] at this
           rw [nI_add, nI_add]
           exact this)
        | (rw [zn_0, zn_eq hf (by omega)] at c26
           have hfs := zl_fn (s := i) (b := zt_bi fa w) (by rw [← Bool.not_eq_true, zt_bi_iff]; exact fun q => q c26)
           have := ih (i + 1) (by omega) (fun j hj => by rw [hfs] at hj; exact hI j hj)
           rw [hfs] at this
           rw [nI_add]
           exact this)
      · rw [zn_0, zn_eq hf (by omega)] at c26
        refine zi_ild3 dX7_spotOf_29 ?_
        refine zi_ild1 dX7_spotOf_30 ?_
        refine zi_icmp_ne 37 dX7_spotOf_31 (by decide) (fun c31 => ?_) (fun c31 => ?_)
        · refine zi_inc3 (nI 1) dX7_spotOf_37 (by decide) (Nat.le_of_ble_eq_true rfl) rfl ?_
          refine zi_inc4 (nI 1) dX7_spotOf_40 (by decide) (Nat.le_of_ble_eq_true rfl) rfl ?_
          refine zi_goto 5 dX7_spotOf_43 (by decide) ?_
          first
          | (have hfs := zl_fs (zt_bi_iff.mpr c26)
             have := ih (i + 1) (by omega) (fun j hj => by
               rw [hfs] at hj
               by_cases e : j = ((List.range i).filter (zt_bi fa w)).length
               · rw [e]; exact fun q => c31 q.symm
               · exact hI j (by omega))
             rw [hfs] at this
             rw [nI_add, nI_add]
             exact this)
          | (rw [zn_0, zn_eq hf (by omega)] at c26
             have hfs := zl_fn (s := i) (b := zt_bi fa w) (by rw [← Bool.not_eq_true, zt_bi_iff]; exact fun q => q c26)
             have := ih (i + 1) (by omega) (fun j hj => by rw [hfs] at hj; exact hI j hj)
             rw [hfs] at this
             rw [nI_add]
             exact this)
        · refine zi_ild4 dX7_spotOf_34 ?_
          refine zi_iret dX7_spotOf_36 rfl ?_
          refine ⟨_, rfl, rfl, ?_⟩
          rw [← c31, zp_at_n (by omega)]
          unfold zt_sp
          rw [zl_kth (show i < 2 * w.length by omega) (zt_bi_iff.mpr c26)]; rfl
theorem c7_spotOf {k : Int32} (ho : zt_ok h) (hr : zr_ok r) (hV : zt_V σ h w s) (hR : zr_V σ r fa go) : zw_Ti l G (d + 3) mX7_spotOf [.ref h, .int k, .ref r] σ (fun x τ => σ = τ ∧ x = zp_oI (zp_at (zt_sp fa w) k)) := by
  refine zw_enter2 (L := [some _, some _, some _, none, none]) (by decide) (Nat.le_of_ble_eq_true rfl) rfl ?_
  refine zi_iconst (nI 0) dX7_spotOf_0 (by decide) ?_
  refine zi_ist3 dX7_spotOf_1 (Nat.le_of_ble_eq_true rfl) rfl ?_
  refine zi_iconst (nI 0) dX7_spotOf_2 (by decide) ?_
  refine zi_ist4 dX7_spotOf_3 (Nat.le_of_ble_eq_true rfl) rfl ?_
  exact l7_spotOf ho hr hV hR (2 * w.length) 0 (by omega) (fun j hj => by simp at hj)
theorem l7_rb1 {f t : Nat} {x1 x2 x3 x4 x5 : Int32} (ho : zt_ok h) (h13 : w.length ≤ 13) (ht : t < w.length) {P : Option Value → zw_S → Prop} (hk : ∀ τ v a, zw_F (zt_A h) σ τ → zt_V τ h v s → v.length = w.length → (∀ i, v.getD i 0 = if f ≤ i ∧ i < t then w.getD (i + 1) 0 else w.getD i 0) → zw_W l G (d + 2) mX7_rebuild 111 [some (.ref h), some (.int x1), some (.int x2), some (.int x3), some (.int x4), some (.int x5), some (.int (nI f)), some (.int (nI t)), some (.int a)] [] τ P) : ∀ n a τ v, a + n = max f t → f ≤ a → a < 100 → zw_F (zt_A h) σ τ → zt_V τ h v s → v.length = w.length → (∀ i, v.getD i 0 = if f ≤ i ∧ i < a then w.getD (i + 1) 0 else w.getD i 0) → zw_W l G (d + 2) mX7_rebuild 84 [some (.ref h), some (.int x1), some (.int x2), some (.int x3), some (.int x4), some (.int x5), some (.int (nI f)), some (.int (nI t)), some (.int (nI a))] [] τ P := by
  have k0 := ho.1
  intro n
  induction n with
  | zero =>
    intro a τ v hn hfa ha hF hT hl hI
    refine zi_ild8 dX7_rebuild_84 ?_
    refine zi_ild7 dX7_rebuild_86 ?_
    refine zi_icmp_ge 111 dX7_rebuild_88 (by decide) (fun c88 => ?_) (fun c88 => ?_)
    · refine hk τ v _ hF hT hl (fun i => ?_)
      rw [hI i]
      by_cases q : f ≤ i ∧ i < t
      · rw [if_pos q, if_pos ⟨q.1, by omega⟩]
      · rw [if_neg q, if_neg (by omega)]
    · rw [zn_le (by omega) (by omega)] at c88; omega
  | succ n ih =>
    intro a τ v hn hfa ha hF hT hl hI
    have hx := zl_getD_lt hT.2.1 (a + 1)
    refine zi_ild8 dX7_rebuild_84 ?_
    refine zi_ild7 dX7_rebuild_86 ?_
    refine zi_icmp_ge 111 dX7_rebuild_88 (by decide) (fun c88 => ?_) (fun c88 => ?_)
    · rw [zn_le (by omega) (by omega)] at c88; omega
    · refine zi_ald0 dX7_rebuild_91 ?_
      refine zi_ild8 dX7_rebuild_92 ?_
      refine zi_ald0 dX7_rebuild_94 ?_
      refine zi_ild8 dX7_rebuild_95 ?_
      refine zi_iconst (nI 1) dX7_rebuild_97 (by decide) ?_
      refine zi_iadd dX7_rebuild_98 ?_
      rw [nI_add]
      refine zi_cV1i vmX7_figureAt lkX7_32 dX7_rebuild_99 (by first | assumption | decide) (Nat.le_of_ble_eq_true rfl) (c7_figureAt ho hT (show a + 1 < 2147483648 by omega)) ?_
      rintro _ _ ⟨rfl, rfl⟩
      refine zi_cV2v vmX7_putFigure lkX7_47 dX7_rebuild_102 (by first | assumption | decide) (Nat.le_of_ble_eq_true rfl) (c7_putFigure ho hT (show a < v.length by omega) hx) ?_
      rintro τ2 ⟨hT2, hF2⟩
      refine zi_inc8 (nI 1) dX7_rebuild_105 (by decide) (Nat.le_of_ble_eq_true rfl) rfl ?_
      refine zi_goto 84 dX7_rebuild_108 (by decide) ?_
      rw [nI_add]
      refine ih (a + 1) τ2 _ (by omega) (by omega) (by omega) (hF.tr hF2 (fun _ q => q) (fun o q => by unfold zt_A; omega)) hT2 (by rw [List.length_set]; exact hl) (fun i => ?_)
      rw [zl_set (by omega)]
      by_cases e : i = a
      · rw [if_pos e, if_pos (by omega), hI, if_neg (by omega), e]
      · rw [if_neg e, hI i]
        by_cases q : f ≤ i ∧ i < a
        · rw [if_pos q, if_pos (by omega)]
        · rw [if_neg q, if_neg (by omega)]
theorem l7_rb2 {f t : Nat} {x1 x2 x3 x4 x5 : Int32} {v0 : List Nat} (ho : zt_ok h) (h13 : v0.length ≤ 13) (hf : f < v0.length) {P : Option Value → zw_S → Prop} (hk : ∀ τ v a, zw_F (zt_A h) σ τ → zt_V τ h v s → v.length = v0.length → (∀ i, v.getD i 0 = if t < i ∧ i ≤ f then v0.getD (i - 1) 0 else v0.getD i 0) → zw_W l G (d + 2) mX7_rebuild 142 [some (.ref h), some (.int x1), some (.int x2), some (.int x3), some (.int x4), some (.int x5), some (.int (nI f)), some (.int (nI t)), some (.int a)] [] τ P) : ∀ n a τ v, a = min f t + n → a ≤ f → zw_F (zt_A h) σ τ → zt_V τ h v s → v.length = v0.length → (∀ i, v.getD i 0 = if a < i ∧ i ≤ f then v0.getD (i - 1) 0 else v0.getD i 0) → t < 100 → zw_W l G (d + 2) mX7_rebuild 115 [some (.ref h), some (.int x1), some (.int x2), some (.int x3), some (.int x4), some (.int x5), some (.int (nI f)), some (.int (nI t)), some (.int (nI a))] [] τ P := by
  have k0 := ho.1
  intro n
  induction n with
  | zero =>
    intro a τ v hn hfa hF hT hl hI ht
    refine zi_ild8 dX7_rebuild_115 ?_
    refine zi_ild7 dX7_rebuild_117 ?_
    refine zi_icmp_le 142 dX7_rebuild_119 (by decide) (fun c119 => ?_) (fun c119 => ?_)
    · refine hk τ v _ hF hT hl (fun i => ?_)
      rw [hI i]
      by_cases q : t < i ∧ i ≤ f
      · rw [if_pos q, if_pos ⟨by omega, q.2⟩]
      · rw [if_neg q, if_neg (by omega)]
    · rw [zn_le (by omega) (by omega)] at c119; omega
  | succ n ih =>
    intro a τ v hn hfa hF hT hl hI ht
    have hx := zl_getD_lt hT.2.1 (a - 1)
    refine zi_ild8 dX7_rebuild_115 ?_
    refine zi_ild7 dX7_rebuild_117 ?_
    refine zi_icmp_le 142 dX7_rebuild_119 (by decide) (fun c119 => ?_) (fun c119 => ?_)
    · rw [zn_le (by omega) (by omega)] at c119; omega
    · refine zi_ald0 dX7_rebuild_122 ?_
      refine zi_ild8 dX7_rebuild_123 ?_
      refine zi_ald0 dX7_rebuild_125 ?_
      refine zi_ild8 dX7_rebuild_126 ?_
      refine zi_iconst (nI 1) dX7_rebuild_128 (by decide) ?_
      refine zi_isub dX7_rebuild_129 ?_
      rw [pk_sub (by omega)]
      refine zi_cV1i vmX7_figureAt lkX7_32 dX7_rebuild_130 (by first | assumption | decide) (Nat.le_of_ble_eq_true rfl) (c7_figureAt ho hT (show a - 1 < 2147483648 by omega)) ?_
      rintro _ _ ⟨rfl, rfl⟩
      refine zi_cV2v vmX7_putFigure lkX7_47 dX7_rebuild_133 (by first | assumption | decide) (Nat.le_of_ble_eq_true rfl) (c7_putFigure ho hT (show a < v.length by omega) hx) ?_
      rintro τ2 ⟨hT2, hF2⟩
      refine zi_inc8 (-1) dX7_rebuild_136 (by decide) (Nat.le_of_ble_eq_true rfl) rfl ?_
      refine zi_goto 115 dX7_rebuild_139 (by decide) ?_
      obtain ⟨b, rfl⟩ : ∃ b, a = b + 1 := ⟨a - 1, by omega⟩
      rw [pk_m1]
      refine ih b τ2 _ (by omega) (by omega) (hF.tr hF2 (fun _ q => q) (fun o q => by unfold zt_A; omega)) hT2 (by rw [List.length_set]; exact hl) (fun i => ?_) ht
      rw [zl_set (by omega)]
      by_cases e : i = b + 1
      · rw [if_pos e, if_pos (by omega), hI, if_neg (by omega), e]
      · rw [if_neg e, hI i]
        by_cases q : b + 1 < i ∧ i ≤ f
        · rw [if_pos q, if_pos (by omega)]
        · rw [if_neg q, if_neg (by omega)]
theorem l7_rb80 {f t n g : Nat} {x1 x4 x5 : Int32} {x8 : Option Value} {z : List Nat} (ho : zt_ok h) (hV : zt_V σ h w s) (hf : f < w.length) (ht : t < w.length) (hn : n < w.length) (hg : g < 8) (hzl : z.length = w.length) (hz : ∀ i, i < w.length → z.getD i 0 = if i = t then g / 2 % 2 + 1 else if i = n then g / 4 + 1 else if f ≤ i ∧ i < t then w.getD (i + 1) 0 else if t < i ∧ i ≤ f then w.getD (i - 1) 0 else w.getD i 0) : zw_W l G (d + 2) mX7_rebuild 80 [some (.ref h), some (.int x1), some (.int (nI g)), some (.int (nI n)), some (.int x4), some (.int x5), some (.int (nI f)), some (.int (nI t)), x8] [] σ (fun x υ => x = none ∧ zt_V υ h z s ∧ zw_F (zt_A h) σ υ) := by
  have k0 := ho.1
  have h13 := hV.1
  refine zi_ild6 dX7_rebuild_80 ?_
  refine zi_ist8 dX7_rebuild_82 (Nat.le_of_ble_eq_true rfl) rfl ?_
  refine l7_rb1 (w := w) (f := f) (t := t) ho h13 ht ?_ (max f t - f) f σ w (by omega) (Nat.le_refl f) (by omega) zw_F.rf hV rfl (fun i => by rw [if_neg (by omega)])
  intro τ1 v1 a1 hF1 hT1 hl1 hI1
  refine zi_ild6 dX7_rebuild_111 ?_
  refine zi_ist8 dX7_rebuild_113 (Nat.le_of_ble_eq_true rfl) rfl ?_
  refine l7_rb2 (v0 := v1) (f := f) (t := t) (σ := σ) ho (by omega) (by omega) ?_ (f - min f t) f τ1 v1 (by omega) (Nat.le_refl f) hF1 hT1 rfl (fun i => by rw [if_neg (by omega)]) (by omega)
  intro τ2 v2 a2 hF2 hT2 hl2 hI2
  refine zi_ald0 dX7_rebuild_142 ?_
  refine zi_ild3 dX7_rebuild_143 ?_
  refine zi_ild2 dX7_rebuild_144 ?_
  refine zi_iconst (nI 2) dX7_rebuild_145 (by decide) ?_
  refine zi_ishr dX7_rebuild_146 ?_
  refine zi_iconst (nI 1) dX7_rebuild_147 (by decide) ?_
  refine zi_iand dX7_rebuild_148 ?_
  refine zi_iconst (nI 1) dX7_rebuild_149 (by decide) ?_
  refine zi_iadd dX7_rebuild_150 ?_
  rw [pk_shrN (by omega) _ 2 rfl, pk_andN (by omega) (m := nI 1) 1 rfl, nI_add]
  refine zi_cV2v vmX7_putFigure lkX7_47 dX7_rebuild_151 (by first | assumption | decide) (Nat.le_of_ble_eq_true rfl) (c7_putFigure (x := g / 2 ^ 2 % 2 ^ 1 + 1) ho hT2 (show n < v2.length by omega) (by omega)) ?_
  rintro τ3 ⟨hT3, hF3⟩
  refine zi_ald0 dX7_rebuild_154 ?_
  refine zi_ild7 dX7_rebuild_155 ?_
  refine zi_ild2 dX7_rebuild_157 ?_
  refine zi_iconst (nI 1) dX7_rebuild_158 (by decide) ?_
  refine zi_ishr dX7_rebuild_159 ?_
  refine zi_iconst (nI 1) dX7_rebuild_160 (by decide) ?_
  refine zi_iand dX7_rebuild_161 ?_
  refine zi_iconst (nI 1) dX7_rebuild_162 (by decide) ?_
  refine zi_iadd dX7_rebuild_163 ?_
  rw [pk_shrN (by omega) _ 1 rfl, pk_andN (by omega) (m := nI 1) 1 rfl, nI_add]
  refine zi_cV2v vmX7_putFigure lkX7_47 dX7_rebuild_164 (by first | assumption | decide) (Nat.le_of_ble_eq_true rfl) (c7_putFigure (x := g / 2 ^ 1 % 2 ^ 1 + 1) ho hT3 (show t < (v2.set n _).length by rw [List.length_set]; omega) (by omega)) ?_
  rintro τ4 ⟨hT4, hF4⟩
  refine zi_ret dX7_rebuild_167 rfl ?_
  refine ⟨rfl, ?_, (hF2.tr hF3 (fun _ q => q) (fun o q => by unfold zt_A; omega)).tr hF4 (fun _ q => q) (fun o q => by unfold zt_A; omega)⟩
  have e : (v2.set n (g / 2 ^ 2 % 2 ^ 1 + 1)).set t (g / 2 ^ 1 % 2 ^ 1 + 1) = z := by
    refine zl_ext (by rw [List.length_set, List.length_set]; omega) (fun i hi => ?_)
    rw [List.length_set, List.length_set] at hi
    rw [zl_set (by rw [List.length_set]; omega), zl_set (by omega), hz i (by omega), hI2 i, hI1 i, hI1 (i - 1)]
    by_cases e1 : i = t
    · rw [if_pos e1, if_pos e1]
    · rw [if_neg e1, if_neg e1]
      by_cases e2 : i = n
      · rw [if_pos e2, if_pos e2]
        have : g / 4 < 2 := by omega
        omega
      · rw [if_neg e2, if_neg e2]
        by_cases e3 : t < i ∧ i ≤ f
        · rw [if_pos e3, if_neg (by omega), if_neg (by omega), if_pos e3]
        · rw [if_neg e3]
          by_cases e4 : f ≤ i ∧ i < t
          · rw [if_pos e4, if_pos e4]
          · rw [if_neg e4, if_neg e4, if_neg e3]
  rw [e] at hT4
  exact hT4
end Z15
end

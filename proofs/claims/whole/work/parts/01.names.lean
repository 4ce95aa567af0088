-- ===== PART A: goes FIRST, ahead of the names: the tables' words, and 'selects' of the private methods out of them =====
/-- a private method of a class that the tables say can be made, by its rows of tables_1 -/
def lw_okq (q : MethodName × Nat) : Prop := (q.1.cls ≠ "java/lang/invoke/MethodHandle" ∧ q.1.cls ≠ "java/lang/invoke/VarHandle") ∧ Cond.instantiable q.1.cls q.2 ∈ tables_1 ∧ Cond.privateMethod q.1 ∈ tables_1 ∧ Cond.instanceMethod q.1 ∈ tables_1
theorem lw_p0 : lw_okq (⟨"GraftRules", "readText", "()I"⟩, 12) := ⟨⟨by decide +kernel, by decide +kernel⟩, List.mem_of_getElem? (i := 15) (by decide +kernel), List.mem_of_getElem? (i := 243) (by decide +kernel), List.mem_of_getElem? (i := 244) (by decide +kernel)⟩
theorem lw_p1 : lw_okq (⟨"GraftRules$History", "slotAt", "(I)LGraftRules$State;"⟩, 3) := ⟨⟨by decide +kernel, by decide +kernel⟩, List.mem_of_getElem? (i := 61) (by decide +kernel), List.mem_of_getElem? (i := 262) (by decide +kernel), List.mem_of_getElem? (i := 263) (by decide +kernel)⟩
theorem lw_p2 : lw_okq (⟨"GraftRules$Judge", "judgeOne", "(ILGraftRules$Rules;)V"⟩, 5) := ⟨⟨by decide +kernel, by decide +kernel⟩, List.mem_of_getElem? (i := 100) (by decide +kernel), List.mem_of_getElem? (i := 315) (by decide +kernel), List.mem_of_getElem? (i := 316) (by decide +kernel)⟩
theorem lw_p3 : lw_okq (⟨"GraftRules$Tree", "rebuild", "(II)V"⟩, 4) := ⟨⟨by decide +kernel, by decide +kernel⟩, List.mem_of_getElem? (i := 106) (by decide +kernel), List.mem_of_getElem? (i := 364) (by decide +kernel), List.mem_of_getElem? (i := 365) (by decide +kernel)⟩
theorem lw_p4 : lw_okq (⟨"GraftRules", "madePlain", "(I)I"⟩, 12) := ⟨⟨by decide +kernel, by decide +kernel⟩, List.mem_of_getElem? (i := 15) (by decide +kernel), List.mem_of_getElem? (i := 433) (by decide +kernel), List.mem_of_getElem? (i := 434) (by decide +kernel)⟩
theorem lw_p5 : lw_okq (⟨"GraftRules$Tree", "handDown", "(II)V"⟩, 4) := ⟨⟨by decide +kernel, by decide +kernel⟩, List.mem_of_getElem? (i := 106) (by decide +kernel), List.mem_of_getElem? (i := 443) (by decide +kernel), List.mem_of_getElem? (i := 444) (by decide +kernel)⟩
theorem lw_p6 : lw_okq (⟨"GraftRules$Series", "countRooted", "(IILGraftRules$Rules;)J"⟩, 4) := ⟨⟨by decide +kernel, by decide +kernel⟩, List.mem_of_getElem? (i := 146) (by decide +kernel), List.mem_of_getElem? (i := 483) (by decide +kernel), List.mem_of_getElem? (i := 484) (by decide +kernel)⟩
theorem lw_p7 : lw_okq (⟨"GraftRules$Series", "countBranches", "(IIILGraftRules$Rules;)J"⟩, 4) := ⟨⟨by decide +kernel, by decide +kernel⟩, List.mem_of_getElem? (i := 146) (by decide +kernel), List.mem_of_getElem? (i := 487) (by decide +kernel), List.mem_of_getElem? (i := 488) (by decide +kernel)⟩
theorem lw_p8 : lw_okq (⟨"GraftRules$Series", "raisePower", "()V"⟩, 4) := ⟨⟨by decide +kernel, by decide +kernel⟩, List.mem_of_getElem? (i := 146) (by decide +kernel), List.mem_of_getElem? (i := 506) (by decide +kernel), List.mem_of_getElem? (i := 507) (by decide +kernel)⟩
theorem lw_p9 : lw_okq (⟨"GraftRules", "drawTree", "()V"⟩, 12) := ⟨⟨by decide +kernel, by decide +kernel⟩, List.mem_of_getElem? (i := 15) (by decide +kernel), List.mem_of_getElem? (i := 589) (by decide +kernel), List.mem_of_getElem? (i := 590) (by decide +kernel)⟩
theorem lw_p10 : lw_okq (⟨"GraftRules", "draw", "(I)I"⟩, 12) := ⟨⟨by decide +kernel, by decide +kernel⟩, List.mem_of_getElem? (i := 15) (by decide +kernel), List.mem_of_getElem? (i := 593) (by decide +kernel), List.mem_of_getElem? (i := 594) (by decide +kernel)⟩
theorem lw_p11 : lw_okq (⟨"GraftRules", "imageAt", "(I)LGraftRules$Image;"⟩, 12) := ⟨⟨by decide +kernel, by decide +kernel⟩, List.mem_of_getElem? (i := 15) (by decide +kernel), List.mem_of_getElem? (i := 644) (by decide +kernel), List.mem_of_getElem? (i := 645) (by decide +kernel)⟩
theorem lw_p12 : lw_okq (⟨"GraftRulesModel", "countPlains", "()V"⟩, 22) := ⟨⟨by decide +kernel, by decide +kernel⟩, List.mem_of_getElem? (i := 657) (by decide +kernel), List.mem_of_getElem? (i := 738) (by decide +kernel), List.mem_of_getElem? (i := 739) (by decide +kernel)⟩
theorem lw_p13 : lw_okq (⟨"GraftRulesModel", "mayStand", "(III)J"⟩, 22) := ⟨⟨by decide +kernel, by decide +kernel⟩, List.mem_of_getElem? (i := 657) (by decide +kernel), List.mem_of_getElem? (i := 742) (by decide +kernel), List.mem_of_getElem? (i := 743) (by decide +kernel)⟩
theorem lw_p14 : lw_okq (⟨"GraftRulesModel", "plainOf", "(I)J"⟩, 22) := ⟨⟨by decide +kernel, by decide +kernel⟩, List.mem_of_getElem? (i := 657) (by decide +kernel), List.mem_of_getElem? (i := 746) (by decide +kernel), List.mem_of_getElem? (i := 747) (by decide +kernel)⟩
theorem lw_p15 : lw_okq (⟨"GraftRulesModel", "undoSeries", "()V"⟩, 22) := ⟨⟨by decide +kernel, by decide +kernel⟩, List.mem_of_getElem? (i := 657) (by decide +kernel), List.mem_of_getElem? (i := 754) (by decide +kernel), List.mem_of_getElem? (i := 755) (by decide +kernel)⟩
def lw_privs_1 : List (MethodName × Nat) := [(⟨"GraftRules", "readText", "()I"⟩, 12), (⟨"GraftRules$History", "slotAt", "(I)LGraftRules$State;"⟩, 3), (⟨"GraftRules$Judge", "judgeOne", "(ILGraftRules$Rules;)V"⟩, 5), (⟨"GraftRules$Tree", "rebuild", "(II)V"⟩, 4), (⟨"GraftRules", "madePlain", "(I)I"⟩, 12), (⟨"GraftRules$Tree", "handDown", "(II)V"⟩, 4), (⟨"GraftRules$Series", "countRooted", "(IILGraftRules$Rules;)J"⟩, 4), (⟨"GraftRules$Series", "countBranches", "(IIILGraftRules$Rules;)J"⟩, 4), (⟨"GraftRules$Series", "raisePower", "()V"⟩, 4), (⟨"GraftRules", "drawTree", "()V"⟩, 12), (⟨"GraftRules", "draw", "(I)I"⟩, 12), (⟨"GraftRules", "imageAt", "(I)LGraftRules$Image;"⟩, 12), (⟨"GraftRulesModel", "countPlains", "()V"⟩, 22), (⟨"GraftRulesModel", "mayStand", "(III)J"⟩, 22), (⟨"GraftRulesModel", "plainOf", "(I)J"⟩, 22), (⟨"GraftRulesModel", "undoSeries", "()V"⟩, 22)]
theorem lw_r1 : ∀ q ∈ lw_privs_1, lw_okq q := List.forall_mem_cons.mpr ⟨lw_p0, List.forall_mem_cons.mpr ⟨lw_p1, List.forall_mem_cons.mpr ⟨lw_p2, List.forall_mem_cons.mpr ⟨lw_p3, List.forall_mem_cons.mpr ⟨lw_p4, List.forall_mem_cons.mpr ⟨lw_p5, List.forall_mem_cons.mpr ⟨lw_p6, List.forall_mem_cons.mpr ⟨lw_p7, List.forall_mem_cons.mpr ⟨lw_p8, List.forall_mem_cons.mpr ⟨lw_p9, List.forall_mem_cons.mpr ⟨lw_p10, List.forall_mem_cons.mpr ⟨lw_p11, List.forall_mem_cons.mpr ⟨lw_p12, List.forall_mem_cons.mpr ⟨lw_p13, List.forall_mem_cons.mpr ⟨lw_p14, List.forall_mem_cons.mpr ⟨lw_p15, fun _ h => absurd h List.not_mem_nil⟩⟩⟩⟩⟩⟩⟩⟩⟩⟩⟩⟩⟩⟩⟩⟩
theorem lw_p16 : lw_okq (⟨"GraftRulesModel", "powerUp", "()V"⟩, 22) := ⟨⟨by decide +kernel, by decide +kernel⟩, List.mem_of_getElem? (i := 657) (by decide +kernel), List.mem_of_getElem? (i := 758) (by decide +kernel), List.mem_of_getElem? (i := 759) (by decide +kernel)⟩
theorem lw_p17 : lw_okq (⟨"GraftRulesModel", "read", "()I"⟩, 22) := ⟨⟨by decide +kernel, by decide +kernel⟩, List.mem_of_getElem? (i := 657) (by decide +kernel), List.mem_of_getElem? (i := 772) (by decide +kernel), List.mem_of_getElem? (i := 773) (by decide +kernel)⟩
theorem lw_p18 : lw_okq (⟨"GraftRulesModel", "remember", "()V"⟩, 22) := ⟨⟨by decide +kernel, by decide +kernel⟩, List.mem_of_getElem? (i := 657) (by decide +kernel), List.mem_of_getElem? (i := 776) (by decide +kernel), List.mem_of_getElem? (i := 777) (by decide +kernel)⟩
theorem lw_p19 : lw_okq (⟨"GraftRulesModel", "copyRow", "(II)V"⟩, 22) := ⟨⟨by decide +kernel, by decide +kernel⟩, List.mem_of_getElem? (i := 657) (by decide +kernel), List.mem_of_getElem? (i := 780) (by decide +kernel), List.mem_of_getElem? (i := 781) (by decide +kernel)⟩
theorem lw_p20 : lw_okq (⟨"GraftRulesModel", "shelve", "()I"⟩, 22) := ⟨⟨by decide +kernel, by decide +kernel⟩, List.mem_of_getElem? (i := 657) (by decide +kernel), List.mem_of_getElem? (i := 784) (by decide +kernel), List.mem_of_getElem? (i := 785) (by decide +kernel)⟩
theorem lw_p21 : lw_okq (⟨"GraftRulesModel", "lay", "(I)V"⟩, 22) := ⟨⟨by decide +kernel, by decide +kernel⟩, List.mem_of_getElem? (i := 657) (by decide +kernel), List.mem_of_getElem? (i := 788) (by decide +kernel), List.mem_of_getElem? (i := 789) (by decide +kernel)⟩
theorem lw_p22 : lw_okq (⟨"GraftRulesModel", "code", "()I"⟩, 22) := ⟨⟨by decide +kernel, by decide +kernel⟩, List.mem_of_getElem? (i := 657) (by decide +kernel), List.mem_of_getElem? (i := 792) (by decide +kernel), List.mem_of_getElem? (i := 793) (by decide +kernel)⟩
theorem lw_p23 : lw_okq (⟨"GraftRulesModel", "criticals", "()I"⟩, 22) := ⟨⟨by decide +kernel, by decide +kernel⟩, List.mem_of_getElem? (i := 657) (by decide +kernel), List.mem_of_getElem? (i := 804) (by decide +kernel), List.mem_of_getElem? (i := 805) (by decide +kernel)⟩
theorem lw_p24 : lw_okq (⟨"GraftRulesModel", "isCritical", "(I)Z"⟩, 22) := ⟨⟨by decide +kernel, by decide +kernel⟩, List.mem_of_getElem? (i := 657) (by decide +kernel), List.mem_of_getElem? (i := 808) (by decide +kernel), List.mem_of_getElem? (i := 809) (by decide +kernel)⟩
theorem lw_p25 : lw_okq (⟨"GraftRulesModel", "open", "(II)V"⟩, 22) := ⟨⟨by decide +kernel, by decide +kernel⟩, List.mem_of_getElem? (i := 657) (by decide +kernel), List.mem_of_getElem? (i := 812) (by decide +kernel), List.mem_of_getElem? (i := 813) (by decide +kernel)⟩
theorem lw_p26 : lw_okq (⟨"GraftRulesModel", "isTreeWord", "()Z"⟩, 22) := ⟨⟨by decide +kernel, by decide +kernel⟩, List.mem_of_getElem? (i := 657) (by decide +kernel), List.mem_of_getElem? (i := 816) (by decide +kernel), List.mem_of_getElem? (i := 817) (by decide +kernel)⟩
theorem lw_p27 : lw_okq (⟨"GraftRulesModel", "places", "()I"⟩, 22) := ⟨⟨by decide +kernel, by decide +kernel⟩, List.mem_of_getElem? (i := 657) (by decide +kernel), List.mem_of_getElem? (i := 820) (by decide +kernel), List.mem_of_getElem? (i := 821) (by decide +kernel)⟩
theorem lw_p28 : lw_okq (⟨"GraftRulesModel", "isPlace", "(II)Z"⟩, 22) := ⟨⟨by decide +kernel, by decide +kernel⟩, List.mem_of_getElem? (i := 657) (by decide +kernel), List.mem_of_getElem? (i := 824) (by decide +kernel), List.mem_of_getElem? (i := 825) (by decide +kernel)⟩
theorem lw_p29 : lw_okq (⟨"GraftRulesModel", "patternAt", "(II)I"⟩, 22) := ⟨⟨by decide +kernel, by decide +kernel⟩, List.mem_of_getElem? (i := 657) (by decide +kernel), List.mem_of_getElem? (i := 828) (by decide +kernel), List.mem_of_getElem? (i := 829) (by decide +kernel)⟩
theorem lw_p30 : lw_okq (⟨"GraftRulesModel", "branchOf", "(II)I"⟩, 22) := ⟨⟨by decide +kernel, by decide +kernel⟩, List.mem_of_getElem? (i := 657) (by decide +kernel), List.mem_of_getElem? (i := 832) (by decide +kernel), List.mem_of_getElem? (i := 833) (by decide +kernel)⟩
theorem lw_p31 : lw_okq (⟨"GraftRulesModel", "behind", "(I)I"⟩, 22) := ⟨⟨by decide +kernel, by decide +kernel⟩, List.mem_of_getElem? (i := 657) (by decide +kernel), List.mem_of_getElem? (i := 836) (by decide +kernel), List.mem_of_getElem? (i := 837) (by decide +kernel)⟩
def lw_privs_2 : List (MethodName × Nat) := [(⟨"GraftRulesModel", "powerUp", "()V"⟩, 22), (⟨"GraftRulesModel", "read", "()I"⟩, 22), (⟨"GraftRulesModel", "remember", "()V"⟩, 22), (⟨"GraftRulesModel", "copyRow", "(II)V"⟩, 22), (⟨"GraftRulesModel", "shelve", "()I"⟩, 22), (⟨"GraftRulesModel", "lay", "(I)V"⟩, 22), (⟨"GraftRulesModel", "code", "()I"⟩, 22), (⟨"GraftRulesModel", "criticals", "()I"⟩, 22), (⟨"GraftRulesModel", "isCritical", "(I)Z"⟩, 22), (⟨"GraftRulesModel", "open", "(II)V"⟩, 22), (⟨"GraftRulesModel", "isTreeWord", "()Z"⟩, 22), (⟨"GraftRulesModel", "places", "()I"⟩, 22), (⟨"GraftRulesModel", "isPlace", "(II)Z"⟩, 22), (⟨"GraftRulesModel", "patternAt", "(II)I"⟩, 22), (⟨"GraftRulesModel", "branchOf", "(II)I"⟩, 22), (⟨"GraftRulesModel", "behind", "(I)I"⟩, 22)]
theorem lw_r2 : ∀ q ∈ lw_privs_2, lw_okq q := List.forall_mem_cons.mpr ⟨lw_p16, List.forall_mem_cons.mpr ⟨lw_p17, List.forall_mem_cons.mpr ⟨lw_p18, List.forall_mem_cons.mpr ⟨lw_p19, List.forall_mem_cons.mpr ⟨lw_p20, List.forall_mem_cons.mpr ⟨lw_p21, List.forall_mem_cons.mpr ⟨lw_p22, List.forall_mem_cons.mpr ⟨lw_p23, List.forall_mem_cons.mpr ⟨lw_p24, List.forall_mem_cons.mpr ⟨lw_p25, List.forall_mem_cons.mpr ⟨lw_p26, List.forall_mem_cons.mpr ⟨lw_p27, List.forall_mem_cons.mpr ⟨lw_p28, List.forall_mem_cons.mpr ⟨lw_p29, List.forall_mem_cons.mpr ⟨lw_p30, List.forall_mem_cons.mpr ⟨lw_p31, fun _ h => absurd h List.not_mem_nil⟩⟩⟩⟩⟩⟩⟩⟩⟩⟩⟩⟩⟩⟩⟩⟩
theorem lw_p32 : lw_okq (⟨"GraftRulesModel", "bads", "()I"⟩, 22) := ⟨⟨by decide +kernel, by decide +kernel⟩, List.mem_of_getElem? (i := 657) (by decide +kernel), List.mem_of_getElem? (i := 840) (by decide +kernel), List.mem_of_getElem? (i := 841) (by decide +kernel)⟩
theorem lw_p33 : lw_okq (⟨"GraftRulesModel", "isBad", "(I)Z"⟩, 22) := ⟨⟨by decide +kernel, by decide +kernel⟩, List.mem_of_getElem? (i := 657) (by decide +kernel), List.mem_of_getElem? (i := 844) (by decide +kernel), List.mem_of_getElem? (i := 845) (by decide +kernel)⟩
theorem lw_p34 : lw_okq (⟨"GraftRulesModel", "placeAt", "(I)I"⟩, 22) := ⟨⟨by decide +kernel, by decide +kernel⟩, List.mem_of_getElem? (i := 657) (by decide +kernel), List.mem_of_getElem? (i := 848) (by decide +kernel), List.mem_of_getElem? (i := 849) (by decide +kernel)⟩
theorem lw_p35 : lw_okq (⟨"GraftRulesModel", "stepAt", "(I)V"⟩, 22) := ⟨⟨by decide +kernel, by decide +kernel⟩, List.mem_of_getElem? (i := 657) (by decide +kernel), List.mem_of_getElem? (i := 852) (by decide +kernel), List.mem_of_getElem? (i := 853) (by decide +kernel)⟩
theorem lw_p36 : lw_okq (⟨"GraftRulesModel", "copyOther", "(II)V"⟩, 22) := ⟨⟨by decide +kernel, by decide +kernel⟩, List.mem_of_getElem? (i := 657) (by decide +kernel), List.mem_of_getElem? (i := 856) (by decide +kernel), List.mem_of_getElem? (i := 857) (by decide +kernel)⟩
theorem lw_p37 : lw_okq (⟨"GraftRulesModel", "addOther", "(I)V"⟩, 22) := ⟨⟨by decide +kernel, by decide +kernel⟩, List.mem_of_getElem? (i := 657) (by decide +kernel), List.mem_of_getElem? (i := 860) (by decide +kernel), List.mem_of_getElem? (i := 861) (by decide +kernel)⟩
theorem lw_p38 : lw_okq (⟨"GraftRulesModel", "takeOther", "()V"⟩, 22) := ⟨⟨by decide +kernel, by decide +kernel⟩, List.mem_of_getElem? (i := 657) (by decide +kernel), List.mem_of_getElem? (i := 864) (by decide +kernel), List.mem_of_getElem? (i := 865) (by decide +kernel)⟩
theorem lw_p39 : lw_okq (⟨"GraftRulesModel", "makePlain", "()I"⟩, 22) := ⟨⟨by decide +kernel, by decide +kernel⟩, List.mem_of_getElem? (i := 657) (by decide +kernel), List.mem_of_getElem? (i := 868) (by decide +kernel), List.mem_of_getElem? (i := 869) (by decide +kernel)⟩
theorem lw_p40 : lw_okq (⟨"GraftRulesModel", "firstBad", "()I"⟩, 22) := ⟨⟨by decide +kernel, by decide +kernel⟩, List.mem_of_getElem? (i := 657) (by decide +kernel), List.mem_of_getElem? (i := 872) (by decide +kernel), List.mem_of_getElem? (i := 873) (by decide +kernel)⟩
theorem lw_p41 : lw_okq (⟨"GraftRulesModel", "isOwnDual", "()Z"⟩, 22) := ⟨⟨by decide +kernel, by decide +kernel⟩, List.mem_of_getElem? (i := 657) (by decide +kernel), List.mem_of_getElem? (i := 876) (by decide +kernel), List.mem_of_getElem? (i := 877) (by decide +kernel)⟩
theorem lw_p42 : lw_okq (⟨"GraftRulesModel", "dualOf", "(I)I"⟩, 22) := ⟨⟨by decide +kernel, by decide +kernel⟩, List.mem_of_getElem? (i := 657) (by decide +kernel), List.mem_of_getElem? (i := 880) (by decide +kernel), List.mem_of_getElem? (i := 881) (by decide +kernel)⟩
theorem lw_p43 : lw_okq (⟨"GraftRulesModel", "comesFrom", "(I)I"⟩, 22) := ⟨⟨by decide +kernel, by decide +kernel⟩, List.mem_of_getElem? (i := 657) (by decide +kernel), List.mem_of_getElem? (i := 884) (by decide +kernel), List.mem_of_getElem? (i := 885) (by decide +kernel)⟩
theorem lw_p44 : lw_okq (⟨"GraftRulesModel", "wrongEntry", "()I"⟩, 22) := ⟨⟨by decide +kernel, by decide +kernel⟩, List.mem_of_getElem? (i := 657) (by decide +kernel), List.mem_of_getElem? (i := 888) (by decide +kernel), List.mem_of_getElem? (i := 889) (by decide +kernel)⟩
theorem lw_p45 : lw_okq (⟨"GraftRulesModel", "isTree", "(I)Z"⟩, 22) := ⟨⟨by decide +kernel, by decide +kernel⟩, List.mem_of_getElem? (i := 657) (by decide +kernel), List.mem_of_getElem? (i := 892) (by decide +kernel), List.mem_of_getElem? (i := 893) (by decide +kernel)⟩
theorem lw_p46 : lw_okq (⟨"GraftRulesModel", "openTree", "(I)V"⟩, 22) := ⟨⟨by decide +kernel, by decide +kernel⟩, List.mem_of_getElem? (i := 657) (by decide +kernel), List.mem_of_getElem? (i := 901) (by decide +kernel), List.mem_of_getElem? (i := 902) (by decide +kernel)⟩
theorem lw_p47 : lw_okq (⟨"GraftRulesModel", "nodes", "()I"⟩, 22) := ⟨⟨by decide +kernel, by decide +kernel⟩, List.mem_of_getElem? (i := 657) (by decide +kernel), List.mem_of_getElem? (i := 905) (by decide +kernel), List.mem_of_getElem? (i := 906) (by decide +kernel)⟩
def lw_privs_3 : List (MethodName × Nat) := [(⟨"GraftRulesModel", "bads", "()I"⟩, 22), (⟨"GraftRulesModel", "isBad", "(I)Z"⟩, 22), (⟨"GraftRulesModel", "placeAt", "(I)I"⟩, 22), (⟨"GraftRulesModel", "stepAt", "(I)V"⟩, 22), (⟨"GraftRulesModel", "copyOther", "(II)V"⟩, 22), (⟨"GraftRulesModel", "addOther", "(I)V"⟩, 22), (⟨"GraftRulesModel", "takeOther", "()V"⟩, 22), (⟨"GraftRulesModel", "makePlain", "()I"⟩, 22), (⟨"GraftRulesModel", "firstBad", "()I"⟩, 22), (⟨"GraftRulesModel", "isOwnDual", "()Z"⟩, 22), (⟨"GraftRulesModel", "dualOf", "(I)I"⟩, 22), (⟨"GraftRulesModel", "comesFrom", "(I)I"⟩, 22), (⟨"GraftRulesModel", "wrongEntry", "()I"⟩, 22), (⟨"GraftRulesModel", "isTree", "(I)Z"⟩, 22), (⟨"GraftRulesModel", "openTree", "(I)V"⟩, 22), (⟨"GraftRulesModel", "nodes", "()I"⟩, 22)]
theorem lw_r3 : ∀ q ∈ lw_privs_3, lw_okq q := List.forall_mem_cons.mpr ⟨lw_p32, List.forall_mem_cons.mpr ⟨lw_p33, List.forall_mem_cons.mpr ⟨lw_p34, List.forall_mem_cons.mpr ⟨lw_p35, List.forall_mem_cons.mpr ⟨lw_p36, List.forall_mem_cons.mpr ⟨lw_p37, List.forall_mem_cons.mpr ⟨lw_p38, List.forall_mem_cons.mpr ⟨lw_p39, List.forall_mem_cons.mpr ⟨lw_p40, List.forall_mem_cons.mpr ⟨lw_p41, List.forall_mem_cons.mpr ⟨lw_p42, List.forall_mem_cons.mpr ⟨lw_p43, List.forall_mem_cons.mpr ⟨lw_p44, List.forall_mem_cons.mpr ⟨lw_p45, List.forall_mem_cons.mpr ⟨lw_p46, List.forall_mem_cons.mpr ⟨lw_p47, fun _ h => absurd h List.not_mem_nil⟩⟩⟩⟩⟩⟩⟩⟩⟩⟩⟩⟩⟩⟩⟩⟩
theorem lw_p48 : lw_okq (⟨"GraftRulesModel", "ofPlain", "(I)I"⟩, 22) := ⟨⟨by decide +kernel, by decide +kernel⟩, List.mem_of_getElem? (i := 657) (by decide +kernel), List.mem_of_getElem? (i := 909) (by decide +kernel), List.mem_of_getElem? (i := 910) (by decide +kernel)⟩
theorem lw_p49 : lw_okq (⟨"GraftRulesModel", "turnedCode", "()I"⟩, 22) := ⟨⟨by decide +kernel, by decide +kernel⟩, List.mem_of_getElem? (i := 657) (by decide +kernel), List.mem_of_getElem? (i := 913) (by decide +kernel), List.mem_of_getElem? (i := 914) (by decide +kernel)⟩
theorem lw_p50 : lw_okq (⟨"GraftRulesModel", "turn", "()V"⟩, 22) := ⟨⟨by decide +kernel, by decide +kernel⟩, List.mem_of_getElem? (i := 657) (by decide +kernel), List.mem_of_getElem? (i := 917) (by decide +kernel), List.mem_of_getElem? (i := 918) (by decide +kernel)⟩
theorem lw_p51 : lw_okq (⟨"GraftRulesModel", "height", "()I"⟩, 22) := ⟨⟨by decide +kernel, by decide +kernel⟩, List.mem_of_getElem? (i := 657) (by decide +kernel), List.mem_of_getElem? (i := 921) (by decide +kernel), List.mem_of_getElem? (i := 922) (by decide +kernel)⟩
theorem lw_p52 : lw_okq (⟨"GraftRulesModel", "isPattern", "(I)Z"⟩, 22) := ⟨⟨by decide +kernel, by decide +kernel⟩, List.mem_of_getElem? (i := 657) (by decide +kernel), List.mem_of_getElem? (i := 929) (by decide +kernel), List.mem_of_getElem? (i := 930) (by decide +kernel)⟩
theorem lw_p53 : lw_okq (⟨"GraftRulesModel", "leafAt", "(I)I"⟩, 22) := ⟨⟨by decide +kernel, by decide +kernel⟩, List.mem_of_getElem? (i := 657) (by decide +kernel), List.mem_of_getElem? (i := 941) (by decide +kernel), List.mem_of_getElem? (i := 942) (by decide +kernel)⟩
theorem lw_p54 : lw_okq (⟨"GraftRulesModel", "mayBecome", "(II)Z"⟩, 22) := ⟨⟨by decide +kernel, by decide +kernel⟩, List.mem_of_getElem? (i := 657) (by decide +kernel), List.mem_of_getElem? (i := 966) (by decide +kernel), List.mem_of_getElem? (i := 967) (by decide +kernel)⟩
theorem lw_p55 : lw_okq (⟨"GraftRulesModel", "chance", "()V"⟩, 22) := ⟨⟨by decide +kernel, by decide +kernel⟩, List.mem_of_getElem? (i := 657) (by decide +kernel), List.mem_of_getElem? (i := 982) (by decide +kernel), List.mem_of_getElem? (i := 983) (by decide +kernel)⟩
theorem lw_p56 : lw_okq (⟨"GraftRulesModel", "draw", "(I)I"⟩, 22) := ⟨⟨by decide +kernel, by decide +kernel⟩, List.mem_of_getElem? (i := 657) (by decide +kernel), List.mem_of_getElem? (i := 986) (by decide +kernel), List.mem_of_getElem? (i := 987) (by decide +kernel)⟩
theorem lw_p57 : lw_okq (⟨"GraftRulesModel", "put", "(II)V"⟩, 22) := ⟨⟨by decide +kernel, by decide +kernel⟩, List.mem_of_getElem? (i := 657) (by decide +kernel), List.mem_of_getElem? (i := 994) (by decide +kernel), List.mem_of_getElem? (i := 995) (by decide +kernel)⟩
def lw_privs_4 : List (MethodName × Nat) := [(⟨"GraftRulesModel", "ofPlain", "(I)I"⟩, 22), (⟨"GraftRulesModel", "turnedCode", "()I"⟩, 22), (⟨"GraftRulesModel", "turn", "()V"⟩, 22), (⟨"GraftRulesModel", "height", "()I"⟩, 22), (⟨"GraftRulesModel", "isPattern", "(I)Z"⟩, 22), (⟨"GraftRulesModel", "leafAt", "(I)I"⟩, 22), (⟨"GraftRulesModel", "mayBecome", "(II)Z"⟩, 22), (⟨"GraftRulesModel", "chance", "()V"⟩, 22), (⟨"GraftRulesModel", "draw", "(I)I"⟩, 22), (⟨"GraftRulesModel", "put", "(II)V"⟩, 22)]
theorem lw_r4 : ∀ q ∈ lw_privs_4, lw_okq q := List.forall_mem_cons.mpr ⟨lw_p48, List.forall_mem_cons.mpr ⟨lw_p49, List.forall_mem_cons.mpr ⟨lw_p50, List.forall_mem_cons.mpr ⟨lw_p51, List.forall_mem_cons.mpr ⟨lw_p52, List.forall_mem_cons.mpr ⟨lw_p53, List.forall_mem_cons.mpr ⟨lw_p54, List.forall_mem_cons.mpr ⟨lw_p55, List.forall_mem_cons.mpr ⟨lw_p56, List.forall_mem_cons.mpr ⟨lw_p57, fun _ h => absurd h List.not_mem_nil⟩⟩⟩⟩⟩⟩⟩⟩⟩⟩
def lw_privs : List (MethodName × Nat) := lw_privs_1 ++ (lw_privs_2 ++ (lw_privs_3 ++ (lw_privs_4)))
def lw_tbl : List Cond := k2_sels lw_privs ++ tables_1
theorem lw_privs_ok : ∀ q ∈ lw_privs, lw_okq q := by
  show ∀ q ∈ lw_privs_1 ++ (lw_privs_2 ++ (lw_privs_3 ++ (lw_privs_4))), lw_okq q
  exact List.forall_mem_append.mpr ⟨lw_r1, List.forall_mem_append.mpr ⟨lw_r2, List.forall_mem_append.mpr ⟨lw_r3, lw_r4⟩⟩⟩
def RX0 : String := "GraftRules$Book"
def TX0 : u_T := fun k => match k with
  | 0 => ("GraftRules$Book", "trees", "[I", true)
  | 1 => ("GraftRules$Book", "codes", "[I", true)
  | _ => ("GraftRules$Book", "size", "I", false)
def tyX0 : Nat → FieldType := fun k => match k with
  | 0 => .array .int
  | 1 => .array .int
  | _ => .int
abbrev wsX00 : List Cond := u_ws RX0 TX0 3
theorem nmX0 : ∀ a, a < 3 → ∀ b, b < 3 → a ≠ b → (TX0 a).2.1 ≠ (TX0 b).2.1 := by decide +kernel
theorem tyX0_ok : ∀ k, k < 3 → parseFieldDescriptor (TX0 k).2.2.1 = some (tyX0 k) := by decide +kernel
abbrev cX0_init : ByteArray := prog_2_method_1_code
def yX0_init : MethodName := ⟨RX0, "<init>", "()V"⟩
abbrev cX0_isFull : ByteArray := prog_2_method_2_code
def yX0_isFull : MethodName := ⟨RX0, "isFull", "()Z"⟩
abbrev cX0_add : ByteArray := prog_2_method_3_code
def yX0_add : MethodName := ⟨RX0, "add", "(II)V"⟩
abbrev cX0_firstWrong : ByteArray := prog_2_method_4_code
def yX0_firstWrong : MethodName := ⟨RX0, "firstWrong", "(LGraftRules$State;)I"⟩
def RX1 : String := "GraftRules$History"
def TX1 : u_T := fun k => match k with
  | 0 => ("GraftRules$History", "ahead", "[LGraftRules$State;", true)
  | 1 => ("GraftRules$History", "next", "I", false)
  | _ => ("GraftRules$History", "size", "I", false)
def tyX1 : Nat → FieldType := fun k => match k with
  | 0 => .array (.object "GraftRules$State")
  | 1 => .int
  | _ => .int
abbrev wsX10 : List Cond := u_ws RX1 TX1 3
theorem nmX1 : ∀ a, a < 3 → ∀ b, b < 3 → a ≠ b → (TX1 a).2.1 ≠ (TX1 b).2.1 := by decide +kernel
theorem tyX1_ok : ∀ k, k < 3 → parseFieldDescriptor (TX1 k).2.2.1 = some (tyX1 k) := by decide +kernel
abbrev cX1_init : ByteArray := prog_3_method_1_code
def yX1_init : MethodName := ⟨RX1, "<init>", "()V"⟩
abbrev cX1_forget : ByteArray := prog_3_method_2_code
def yX1_forget : MethodName := ⟨RX1, "forget", "()V"⟩
abbrev cX1_record : ByteArray := prog_3_method_3_code
def yX1_record : MethodName := ⟨RX1, "record", "(LGraftRules$State;)V"⟩
abbrev cX1_rewind : ByteArray := prog_3_method_4_code
def yX1_rewind : MethodName := ⟨RX1, "rewind", "(ILGraftRules$State;)V"⟩
abbrev cX1_slotAt : ByteArray := prog_3_method_5_code
def yX1_slotAt : MethodName := ⟨RX1, "slotAt", "(I)LGraftRules$State;"⟩
def RX2 : String := "GraftRules$Image"
def TX2 : u_T := fun k => match k with
  | 0 => ("GraftRules$Image", "state", "LGraftRules$State;", true)
  | 1 => ("GraftRules$Image", "seedThen", "I", false)
  | _ => ("GraftRules$Image", "kept", "Z", false)
def tyX2 : Nat → FieldType := fun k => match k with
  | 0 => .object "GraftRules$State"
  | 1 => .int
  | _ => .boolean
abbrev wsX20 : List Cond := u_ws RX2 TX2 3
theorem nmX2 : ∀ a, a < 3 → ∀ b, b < 3 → a ≠ b → (TX2 a).2.1 ≠ (TX2 b).2.1 := by decide +kernel
theorem tyX2_ok : ∀ k, k < 3 → parseFieldDescriptor (TX2 k).2.2.1 = some (tyX2 k) := by decide +kernel
abbrev cX2_init : ByteArray := prog_4_method_1_code
def yX2_init : MethodName := ⟨RX2, "<init>", "()V"⟩
def RX3 : String := "GraftRules$Judge"
def TX3 : u_T := fun k => match k with
  | 0 => ("GraftRules$Judge", "one", "LGraftRules$Tree;", true)
  | 1 => ("GraftRules$Judge", "two", "LGraftRules$Tree;", true)
  | 2 => ("GraftRules$Judge", "critical", "I", false)
  | 3 => ("GraftRules$Judge", "bad", "I", false)
  | _ => ("GraftRules$Judge", "firstBad", "I", false)
def tyX3 : Nat → FieldType := fun k => match k with
  | 0 => .object "GraftRules$Tree"
  | 1 => .object "GraftRules$Tree"
  | 2 => .int
  | 3 => .int
  | _ => .int
abbrev wsX30 : List Cond := u_ws RX3 TX3 5
theorem nmX3 : ∀ a, a < 5 → ∀ b, b < 5 → a ≠ b → (TX3 a).2.1 ≠ (TX3 b).2.1 := by decide +kernel
theorem tyX3_ok : ∀ k, k < 5 → parseFieldDescriptor (TX3 k).2.2.1 = some (tyX3 k) := by decide +kernel
abbrev cX3_init : ByteArray := prog_5_method_1_code
def yX3_init : MethodName := ⟨RX3, "<init>", "()V"⟩
abbrev cX3_judgeAll : ByteArray := prog_5_method_2_code
def yX3_judgeAll : MethodName := ⟨RX3, "judgeAll", "(LGraftRules$Rules;)V"⟩
abbrev cX3_judgeOne : ByteArray := prog_5_method_3_code
def yX3_judgeOne : MethodName := ⟨RX3, "judgeOne", "(ILGraftRules$Rules;)V"⟩
def RX4 : String := "GraftRules$Rules"
def TX4 : u_T := fun k => match k with
  | 0 => ("GraftRules$Rules", "fates", "[I", true)
  | _ => ("GraftRules$Rules", "goals", "[I", true)
def tyX4 : Nat → FieldType := fun k => match k with
  | 0 => .array .int
  | _ => .array .int
abbrev wsX40 : List Cond := u_ws RX4 TX4 2
theorem nmX4 : ∀ a, a < 2 → ∀ b, b < 2 → a ≠ b → (TX4 a).2.1 ≠ (TX4 b).2.1 := by decide +kernel
theorem tyX4_ok : ∀ k, k < 2 → parseFieldDescriptor (TX4 k).2.2.1 = some (tyX4 k) := by decide +kernel
abbrev cX4_init : ByteArray := prog_6_method_1_code
def yX4_init : MethodName := ⟨RX4, "<init>", "()V"⟩
abbrev cX4_isPattern : ByteArray := prog_6_method_2_code
def yX4_isPattern : MethodName := ⟨RX4, "isPattern", "(I)Z"⟩
abbrev cX4_sideOf : ByteArray := prog_6_method_3_code
def yX4_sideOf : MethodName := ⟨RX4, "sideOf", "(I)I"⟩
abbrev cX4_fateOf : ByteArray := prog_6_method_4_code
def yX4_fateOf : MethodName := ⟨RX4, "fateOf", "(I)I"⟩
abbrev cX4_goalOf : ByteArray := prog_6_method_5_code
def yX4_goalOf : MethodName := ⟨RX4, "goalOf", "(I)I"⟩
abbrev cX4_makerOf : ByteArray := prog_6_method_6_code
def yX4_makerOf : MethodName := ⟨RX4, "makerOf", "(I)I"⟩
abbrev cX4_put : ByteArray := prog_6_method_7_code
def yX4_put : MethodName := ⟨RX4, "put", "(III)V"⟩
abbrev cX4_allows : ByteArray := prog_6_method_8_code
def yX4_allows : MethodName := ⟨RX4, "allows", "(III)Z"⟩
abbrev cX4_bound : ByteArray := prog_6_method_9_code
def yX4_bound : MethodName := ⟨RX4, "bound", "()I"⟩
abbrev cX4_release : ByteArray := prog_6_method_10_code
def yX4_release : MethodName := ⟨RX4, "release", "()V"⟩
abbrev cX4_dualFate : ByteArray := prog_6_method_11_code
def yX4_dualFate : MethodName := ⟨RX4, "dualFate", "(I)I"⟩
abbrev cX4_isOwnDual : ByteArray := prog_6_method_12_code
def yX4_isOwnDual : MethodName := ⟨RX4, "isOwnDual", "()Z"⟩
abbrev cX4_turnDual : ByteArray := prog_6_method_13_code
def yX4_turnDual : MethodName := ⟨RX4, "turnDual", "()V"⟩
abbrev cX4_copyFrom : ByteArray := prog_6_method_14_code
def yX4_copyFrom : MethodName := ⟨RX4, "copyFrom", "(LGraftRules$Rules;)V"⟩
def RX5 : String := "GraftRules$Series"
def TX5 : u_T := fun k => match k with
  | 0 => ("GraftRules$Series", "plainTrees", "[J", true)
  | 1 => ("GraftRules$Series", "rooted", "[[J", true)
  | 2 => ("GraftRules$Series", "undoing", "[J", true)
  | _ => ("GraftRules$Series", "power", "[J", true)
def tyX5 : Nat → FieldType := fun k => match k with
  | 0 => .array .long
  | 1 => .array (.array .long)
  | 2 => .array .long
  | _ => .array .long
abbrev wsX50 : List Cond := u_ws RX5 TX5 4
theorem nmX5 : ∀ a, a < 4 → ∀ b, b < 4 → a ≠ b → (TX5 a).2.1 ≠ (TX5 b).2.1 := by decide +kernel
theorem tyX5_ok : ∀ k, k < 4 → parseFieldDescriptor (TX5 k).2.2.1 = some (tyX5 k) := by decide +kernel
abbrev cX5_init : ByteArray := prog_7_method_1_code
def yX5_init : MethodName := ⟨RX5, "<init>", "()V"⟩
abbrev cX5_covers : ByteArray := prog_7_method_2_code
def yX5_covers : MethodName := ⟨RX5, "covers", "(I)Z"⟩
abbrev cX5_countTrees : ByteArray := prog_7_method_3_code
def yX5_countTrees : MethodName := ⟨RX5, "countTrees", "(LGraftRules$Rules;)V"⟩
abbrev cX5_countRooted : ByteArray := prog_7_method_4_code
def yX5_countRooted : MethodName := ⟨RX5, "countRooted", "(IILGraftRules$Rules;)J"⟩
abbrev cX5_countBranches : ByteArray := prog_7_method_5_code
def yX5_countBranches : MethodName := ⟨RX5, "countBranches", "(IIILGraftRules$Rules;)J"⟩
abbrev cX5_undoTrees : ByteArray := prog_7_method_6_code
def yX5_undoTrees : MethodName := ⟨RX5, "undoTrees", "()V"⟩
abbrev cX5_raisePower : ByteArray := prog_7_method_7_code
def yX5_raisePower : MethodName := ⟨RX5, "raisePower", "()V"⟩
def RX6 : String := "GraftRules$State"
def TX6 : u_T := fun k => match k with
  | 0 => ("GraftRules$State", "rules", "LGraftRules$Rules;", true)
  | 1 => ("GraftRules$State", "codes", "[I", true)
  | 2 => ("GraftRules$State", "signs", "[I", true)
  | _ => ("GraftRules$State", "size", "I", false)
def tyX6 : Nat → FieldType := fun k => match k with
  | 0 => .object "GraftRules$Rules"
  | 1 => .array .int
  | 2 => .array .int
  | _ => .int
abbrev wsX60 : List Cond := u_ws RX6 TX6 4
theorem nmX6 : ∀ a, a < 4 → ∀ b, b < 4 → a ≠ b → (TX6 a).2.1 ≠ (TX6 b).2.1 := by decide +kernel
theorem tyX6_ok : ∀ k, k < 4 → parseFieldDescriptor (TX6 k).2.2.1 = some (tyX6 k) := by decide +kernel
abbrev cX6_init : ByteArray := prog_8_method_1_code
def yX6_init : MethodName := ⟨RX6, "<init>", "()V"⟩
abbrev cX6_has : ByteArray := prog_8_method_2_code
def yX6_has : MethodName := ⟨RX6, "has", "(I)Z"⟩
abbrev cX6_isFull : ByteArray := prog_8_method_3_code
def yX6_isFull : MethodName := ⟨RX6, "isFull", "()Z"⟩
abbrev cX6_codeOf : ByteArray := prog_8_method_4_code
def yX6_codeOf : MethodName := ⟨RX6, "codeOf", "(I)I"⟩
abbrev cX6_signOf : ByteArray := prog_8_method_5_code
def yX6_signOf : MethodName := ⟨RX6, "signOf", "(I)I"⟩
abbrev cX6_lend : ByteArray := prog_8_method_6_code
def yX6_lend : MethodName := ⟨RX6, "lend", "(ILGraftRules$Tree;)V"⟩
abbrev cX6_put : ByteArray := prog_8_method_7_code
def yX6_put : MethodName := ⟨RX6, "put", "(ILGraftRules$Tree;)V"⟩
abbrev cX6_add : ByteArray := prog_8_method_8_code
def yX6_add : MethodName := ⟨RX6, "add", "(LGraftRules$Tree;)I"⟩
abbrev cX6_remove : ByteArray := prog_8_method_9_code
def yX6_remove : MethodName := ⟨RX6, "remove", "(I)V"⟩
abbrev cX6_copyFrom : ByteArray := prog_8_method_10_code
def yX6_copyFrom : MethodName := ⟨RX6, "copyFrom", "(LGraftRules$State;)V"⟩
def RX7 : String := "GraftRules$Tree"
def TX7 : u_T := fun k => match k with
  | 0 => ("GraftRules$Tree", "figures", "[I", true)
  | 1 => ("GraftRules$Tree", "handed", "[I", true)
  | 2 => ("GraftRules$Tree", "length", "I", false)
  | _ => ("GraftRules$Tree", "sign", "I", false)
def tyX7 : Nat → FieldType := fun k => match k with
  | 0 => .array .int
  | 1 => .array .int
  | 2 => .int
  | _ => .int
abbrev wsX70 : List Cond := u_ws RX7 TX7 4
theorem nmX7 : ∀ a, a < 4 → ∀ b, b < 4 → a ≠ b → (TX7 a).2.1 ≠ (TX7 b).2.1 := by decide +kernel
theorem tyX7_ok : ∀ k, k < 4 → parseFieldDescriptor (TX7 k).2.2.1 = some (tyX7 k) := by decide +kernel
abbrev cX7_init : ByteArray := prog_9_method_1_code
def yX7_init : MethodName := ⟨RX7, "<init>", "()V"⟩
abbrev cX7_open : ByteArray := prog_9_method_2_code
def yX7_open : MethodName := ⟨RX7, "open", "()V"⟩
abbrev cX7_append : ByteArray := prog_9_method_3_code
def yX7_append : MethodName := ⟨RX7, "append", "(I)V"⟩
abbrev cX7_becomeLeaf : ByteArray := prog_9_method_4_code
def yX7_becomeLeaf : MethodName := ⟨RX7, "becomeLeaf", "(I)V"⟩
abbrev cX7_becomeNode : ByteArray := prog_9_method_5_code
def yX7_becomeNode : MethodName := ⟨RX7, "becomeNode", "(I)V"⟩
abbrev cX7_copyFrom : ByteArray := prog_9_method_6_code
def yX7_copyFrom : MethodName := ⟨RX7, "copyFrom", "(LGraftRules$Tree;)V"⟩
abbrev cX7_readCode : ByteArray := prog_9_method_7_code
def yX7_readCode : MethodName := ⟨RX7, "readCode", "(II)V"⟩
abbrev cX7_codeNow : ByteArray := prog_9_method_8_code
def yX7_codeNow : MethodName := ⟨RX7, "codeNow", "()I"⟩
abbrev cX7_figureAt : ByteArray := prog_9_method_9_code
def yX7_figureAt : MethodName := ⟨RX7, "figureAt", "(I)I"⟩
abbrev cX7_putFigure : ByteArray := prog_9_method_10_code
def yX7_putFigure : MethodName := ⟨RX7, "putFigure", "(II)V"⟩
abbrev cX7_isNode : ByteArray := prog_9_method_11_code
def yX7_isNode : MethodName := ⟨RX7, "isNode", "(I)Z"⟩
abbrev cX7_nodes : ByteArray := prog_9_method_12_code
def yX7_nodes : MethodName := ⟨RX7, "nodes", "()I"⟩
abbrev cX7_leaves : ByteArray := prog_9_method_13_code
def yX7_leaves : MethodName := ⟨RX7, "leaves", "()I"⟩
abbrev cX7_equalTo : ByteArray := prog_9_method_14_code
def yX7_equalTo : MethodName := ⟨RX7, "equalTo", "(LGraftRules$Tree;)Z"⟩
abbrev cX7_endOf : ByteArray := prog_9_method_15_code
def yX7_endOf : MethodName := ⟨RX7, "endOf", "(I)I"⟩
abbrev cX7_leafAt : ByteArray := prog_9_method_16_code
def yX7_leafAt : MethodName := ⟨RX7, "leafAt", "(I)I"⟩
abbrev cX7_hasRoomFor : ByteArray := prog_9_method_17_code
def yX7_hasRoomFor : MethodName := ⟨RX7, "hasRoomFor", "(LGraftRules$Tree;)Z"⟩
abbrev cX7_graftAt : ByteArray := prog_9_method_18_code
def yX7_graftAt : MethodName := ⟨RX7, "graftAt", "(ILGraftRules$Tree;)V"⟩
abbrev cX7_patternAt : ByteArray := prog_9_method_19_code
def yX7_patternAt : MethodName := ⟨RX7, "patternAt", "(I)I"⟩
abbrev cX7_spotOf : ByteArray := prog_9_method_20_code
def yX7_spotOf : MethodName := ⟨RX7, "spotOf", "(ILGraftRules$Rules;)I"⟩
abbrev cX7_places : ByteArray := prog_9_method_21_code
def yX7_places : MethodName := ⟨RX7, "places", "(LGraftRules$Rules;)I"⟩
abbrev cX7_stepAt : ByteArray := prog_9_method_22_code
def yX7_stepAt : MethodName := ⟨RX7, "stepAt", "(ILGraftRules$Rules;)V"⟩
abbrev cX7_rebuild : ByteArray := prog_9_method_23_code
def yX7_rebuild : MethodName := ⟨RX7, "rebuild", "(II)V"⟩
abbrev cX7_makePlain : ByteArray := prog_9_method_24_code
def yX7_makePlain : MethodName := ⟨RX7, "makePlain", "(LGraftRules$Rules;)I"⟩
abbrev cX7_handDown : ByteArray := prog_9_method_25_code
def yX7_handDown : MethodName := ⟨RX7, "handDown", "(II)V"⟩
abbrev cX7_height : ByteArray := prog_9_method_26_code
def yX7_height : MethodName := ⟨RX7, "height", "()I"⟩
abbrev cX7_mirrorOf : ByteArray := prog_9_method_27_code
def yX7_mirrorOf : MethodName := ⟨RX7, "mirrorOf", "(LGraftRules$Tree;)V"⟩
def RX8 : String := "GraftRules"
def TX8 : u_T := fun k => match k with
  | 0 => ("GraftRules", "now", "LGraftRules$State;", true)
  | 1 => ("GraftRules", "history", "LGraftRules$History;", true)
  | 2 => ("GraftRules", "images", "[LGraftRules$Image;", true)
  | 3 => ("GraftRules", "book", "LGraftRules$Book;", true)
  | 4 => ("GraftRules", "judge", "LGraftRules$Judge;", true)
  | 5 => ("GraftRules", "series", "LGraftRules$Series;", true)
  | 6 => ("GraftRules", "work", "LGraftRules$Tree;", true)
  | 7 => ("GraftRules", "spare", "LGraftRules$Tree;", true)
  | 8 => ("GraftRules", "text", "[I", true)
  | 9 => ("GraftRules", "textLength", "I", false)
  | 10 => ("GraftRules", "faultPlace", "I", false)
  | _ => ("GraftRules", "seedNow", "I", false)
def tyX8 : Nat → FieldType := fun k => match k with
  | 0 => .object "GraftRules$State"
  | 1 => .object "GraftRules$History"
  | 2 => .array (.object "GraftRules$Image")
  | 3 => .object "GraftRules$Book"
  | 4 => .object "GraftRules$Judge"
  | 5 => .object "GraftRules$Series"
  | 6 => .object "GraftRules$Tree"
  | 7 => .object "GraftRules$Tree"
  | 8 => .array .int
  | 9 => .int
  | 10 => .int
  | _ => .int
abbrev wsX80 : List Cond := u_ws RX8 TX8 12
theorem nmX8 : ∀ a, a < 12 → ∀ b, b < 12 → a ≠ b → (TX8 a).2.1 ≠ (TX8 b).2.1 := by decide +kernel
theorem tyX8_ok : ∀ k, k < 12 → parseFieldDescriptor (TX8 k).2.2.1 = some (tyX8 k) := by decide +kernel
abbrev cX8_init : ByteArray := prog_1_method_1_code
def yX8_init : MethodName := ⟨RX8, "<init>", "()V"⟩
abbrev cX8_feed : ByteArray := prog_1_method_2_code
def yX8_feed : MethodName := ⟨RX8, "feed", "(I)I"⟩
abbrev cX8_tell : ByteArray := prog_1_method_3_code
def yX8_tell : MethodName := ⟨RX8, "tell", "()I"⟩
abbrev cX8_readText : ByteArray := prog_1_method_4_code
def yX8_readText : MethodName := ⟨RX8, "readText", "()I"⟩
abbrev cX8_figureOf : ByteArray := prog_1_method_5_code
def yX8_figureOf : MethodName := ⟨RX8, "figureOf", "(I)I"⟩
abbrev cX8_fault : ByteArray := prog_1_method_6_code
def yX8_fault : MethodName := ⟨RX8, "fault", "()I"⟩
abbrev cX8_told : ByteArray := prog_1_method_7_code
def yX8_told : MethodName := ⟨RX8, "told", "(I)I"⟩
abbrev cX8_tree : ByteArray := prog_1_method_8_code
def yX8_tree : MethodName := ⟨RX8, "tree", "(II)I"⟩
abbrev cX8_madePlain : ByteArray := prog_1_method_9_code
def yX8_madePlain : MethodName := ⟨RX8, "madePlain", "(I)I"⟩
abbrev cX8_pattern : ByteArray := prog_1_method_10_code
def yX8_pattern : MethodName := ⟨RX8, "pattern", "(II)I"⟩
abbrev cX8_same : ByteArray := prog_1_method_11_code
def yX8_same : MethodName := ⟨RX8, "same", "(II)I"⟩
abbrev cX8_count : ByteArray := prog_1_method_12_code
def yX8_count : MethodName := ⟨RX8, "count", "(I)J"⟩
abbrev cX8_undoneBy : ByteArray := prog_1_method_13_code
def yX8_undoneBy : MethodName := ⟨RX8, "undoneBy", "(I)J"⟩
abbrev cX8_graft : ByteArray := prog_1_method_14_code
def yX8_graft : MethodName := ⟨RX8, "graft", "(III)I"⟩
abbrev cX8_step : ByteArray := prog_1_method_15_code
def yX8_step : MethodName := ⟨RX8, "step", "(II)I"⟩
abbrev cX8_plain : ByteArray := prog_1_method_16_code
def yX8_plain : MethodName := ⟨RX8, "plain", "(I)I"⟩
abbrev cX8_mirror : ByteArray := prog_1_method_17_code
def yX8_mirror : MethodName := ⟨RX8, "mirror", "(I)I"⟩
abbrev cX8_take : ByteArray := prog_1_method_18_code
def yX8_take : MethodName := ⟨RX8, "take", "(I)I"⟩
abbrev cX8_fate : ByteArray := prog_1_method_19_code
def yX8_fate : MethodName := ⟨RX8, "fate", "(III)I"⟩
abbrev cX8_dual : ByteArray := prog_1_method_20_code
def yX8_dual : MethodName := ⟨RX8, "dual", "()I"⟩
abbrev cX8_clear : ByteArray := prog_1_method_21_code
def yX8_clear : MethodName := ⟨RX8, "clear", "()I"⟩
abbrev cX8_drift : ByteArray := prog_1_method_22_code
def yX8_drift : MethodName := ⟨RX8, "drift", "(I)I"⟩
abbrev cX8_drawTree : ByteArray := prog_1_method_23_code
def yX8_drawTree : MethodName := ⟨RX8, "drawTree", "()V"⟩
abbrev cX8_draw : ByteArray := prog_1_method_24_code
def yX8_draw : MethodName := ⟨RX8, "draw", "(I)I"⟩
abbrev cX8_undo : ByteArray := prog_1_method_25_code
def yX8_undo : MethodName := ⟨RX8, "undo", "(I)I"⟩
abbrev cX8_write : ByteArray := prog_1_method_26_code
def yX8_write : MethodName := ⟨RX8, "write", "(II)I"⟩
abbrev cX8_tear : ByteArray := prog_1_method_27_code
def yX8_tear : MethodName := ⟨RX8, "tear", "()I"⟩
abbrev cX8_seed : ByteArray := prog_1_method_28_code
def yX8_seed : MethodName := ⟨RX8, "seed", "(I)I"⟩
abbrev cX8_imageAt : ByteArray := prog_1_method_29_code
def yX8_imageAt : MethodName := ⟨RX8, "imageAt", "(I)LGraftRules$Image;"⟩
abbrev cX8_keep : ByteArray := prog_1_method_30_code
def yX8_keep : MethodName := ⟨RX8, "keep", "(I)I"⟩
abbrev cX8_goBack : ByteArray := prog_1_method_31_code
def yX8_goBack : MethodName := ⟨RX8, "goBack", "(I)I"⟩
def RX9 : String := "GraftRulesModel"
def TX9 : u_T := fun k => match k with
  | 0 => ("GraftRulesModel", "w", "[I", true)
  | 1 => ("GraftRulesModel", "known", "I", false)
  | 2 => ("GraftRulesModel", "kept", "I", false)
  | 3 => ("GraftRulesModel", "seed", "I", false)
  | 4 => ("GraftRulesModel", "keptSeed", "[I", true)
  | 5 => ("GraftRulesModel", "text", "[I", true)
  | 6 => ("GraftRulesModel", "size", "I", false)
  | 7 => ("GraftRulesModel", "fault", "I", false)
  | 8 => ("GraftRulesModel", "bookOf", "[I", true)
  | 9 => ("GraftRulesModel", "bookIs", "[I", true)
  | 10 => ("GraftRulesModel", "booked", "I", false)
  | 11 => ("GraftRulesModel", "word", "[I", true)
  | 12 => ("GraftRulesModel", "length", "I", false)
  | 13 => ("GraftRulesModel", "sign", "I", false)
  | 14 => ("GraftRulesModel", "other", "[I", true)
  | 15 => ("GraftRulesModel", "others", "I", false)
  | 16 => ("GraftRulesModel", "stack", "[I", true)
  | 17 => ("GraftRulesModel", "plains", "[J", true)
  | 18 => ("GraftRulesModel", "undoing", "[J", true)
  | 19 => ("GraftRulesModel", "power", "[J", true)
  | 20 => ("GraftRulesModel", "product", "[J", true)
  | _ => ("GraftRulesModel", "hand", "[I", true)
def tyX9 : Nat → FieldType := fun k => match k with
  | 0 => .array .int
  | 1 => .int
  | 2 => .int
  | 3 => .int
  | 4 => .array .int
  | 5 => .array .int
  | 6 => .int
  | 7 => .int
  | 8 => .array .int
  | 9 => .array .int
  | 10 => .int
  | 11 => .array .int
  | 12 => .int
  | 13 => .int
  | 14 => .array .int
  | 15 => .int
  | 16 => .array .int
  | 17 => .array .long
  | 18 => .array .long
  | 19 => .array .long
  | 20 => .array .long
  | _ => .array .int
abbrev wsX90 : List Cond := u_ws RX9 TX9 22
theorem nmX9 : ∀ a, a < 22 → ∀ b, b < 22 → a ≠ b → (TX9 a).2.1 ≠ (TX9 b).2.1 := by decide +kernel
theorem tyX9_ok : ∀ k, k < 22 → parseFieldDescriptor (TX9 k).2.2.1 = some (tyX9 k) := by decide +kernel
abbrev cX9_init : ByteArray := prog_11_method_1_code
def yX9_init : MethodName := ⟨RX9, "<init>", "()V"⟩
abbrev cX9_in : ByteArray := prog_11_method_2_code
def yX9_in : MethodName := ⟨RX9, "in", "(III)Z"⟩
abbrev cX9_copyRow : ByteArray := prog_11_method_3_code
def yX9_copyRow : MethodName := ⟨RX9, "copyRow", "(II)V"⟩
abbrev cX9_isTree : ByteArray := prog_11_method_4_code
def yX9_isTree : MethodName := ⟨RX9, "isTree", "(I)Z"⟩
abbrev cX9_open : ByteArray := prog_11_method_5_code
def yX9_open : MethodName := ⟨RX9, "open", "(II)V"⟩
abbrev cX9_openTree : ByteArray := prog_11_method_6_code
def yX9_openTree : MethodName := ⟨RX9, "openTree", "(I)V"⟩
abbrev cX9_code : ByteArray := prog_11_method_7_code
def yX9_code : MethodName := ⟨RX9, "code", "()I"⟩
abbrev cX9_nodes : ByteArray := prog_11_method_8_code
def yX9_nodes : MethodName := ⟨RX9, "nodes", "()I"⟩
abbrev cX9_behind : ByteArray := prog_11_method_9_code
def yX9_behind : MethodName := ⟨RX9, "behind", "(I)I"⟩
abbrev cX9_branchOf : ByteArray := prog_11_method_10_code
def yX9_branchOf : MethodName := ⟨RX9, "branchOf", "(II)I"⟩
abbrev cX9_patternAt : ByteArray := prog_11_method_11_code
def yX9_patternAt : MethodName := ⟨RX9, "patternAt", "(II)I"⟩
abbrev cX9_isPlace : ByteArray := prog_11_method_12_code
def yX9_isPlace : MethodName := ⟨RX9, "isPlace", "(II)Z"⟩
abbrev cX9_places : ByteArray := prog_11_method_13_code
def yX9_places : MethodName := ⟨RX9, "places", "()I"⟩
abbrev cX9_placeAt : ByteArray := prog_11_method_14_code
def yX9_placeAt : MethodName := ⟨RX9, "placeAt", "(I)I"⟩
abbrev cX9_copyOther : ByteArray := prog_11_method_15_code
def yX9_copyOther : MethodName := ⟨RX9, "copyOther", "(II)V"⟩
abbrev cX9_addOther : ByteArray := prog_11_method_16_code
def yX9_addOther : MethodName := ⟨RX9, "addOther", "(I)V"⟩
abbrev cX9_takeOther : ByteArray := prog_11_method_17_code
def yX9_takeOther : MethodName := ⟨RX9, "takeOther", "()V"⟩
abbrev cX9_stepAt : ByteArray := prog_11_method_18_code
def yX9_stepAt : MethodName := ⟨RX9, "stepAt", "(I)V"⟩
abbrev cX9_makePlain : ByteArray := prog_11_method_19_code
def yX9_makePlain : MethodName := ⟨RX9, "makePlain", "()I"⟩
abbrev cX9_turn : ByteArray := prog_11_method_20_code
def yX9_turn : MethodName := ⟨RX9, "turn", "()V"⟩
abbrev cX9_height : ByteArray := prog_11_method_21_code
def yX9_height : MethodName := ⟨RX9, "height", "()I"⟩
abbrev cX9_leafAt : ByteArray := prog_11_method_22_code
def yX9_leafAt : MethodName := ⟨RX9, "leafAt", "(I)I"⟩
abbrev cX9_isTreeWord : ByteArray := prog_11_method_23_code
def yX9_isTreeWord : MethodName := ⟨RX9, "isTreeWord", "()Z"⟩
abbrev cX9_isCritical : ByteArray := prog_11_method_24_code
def yX9_isCritical : MethodName := ⟨RX9, "isCritical", "(I)Z"⟩
abbrev cX9_isBad : ByteArray := prog_11_method_25_code
def yX9_isBad : MethodName := ⟨RX9, "isBad", "(I)Z"⟩
abbrev cX9_criticals : ByteArray := prog_11_method_26_code
def yX9_criticals : MethodName := ⟨RX9, "criticals", "()I"⟩
abbrev cX9_bads : ByteArray := prog_11_method_27_code
def yX9_bads : MethodName := ⟨RX9, "bads", "()I"⟩
abbrev cX9_firstBad : ByteArray := prog_11_method_28_code
def yX9_firstBad : MethodName := ⟨RX9, "firstBad", "()I"⟩
abbrev cX9_mayStand : ByteArray := prog_11_method_29_code
def yX9_mayStand : MethodName := ⟨RX9, "mayStand", "(III)J"⟩
abbrev cX9_countPlains : ByteArray := prog_11_method_30_code
def yX9_countPlains : MethodName := ⟨RX9, "countPlains", "()V"⟩
abbrev cX9_plainOf : ByteArray := prog_11_method_31_code
def yX9_plainOf : MethodName := ⟨RX9, "plainOf", "(I)J"⟩
abbrev cX9_powerUp : ByteArray := prog_11_method_32_code
def yX9_powerUp : MethodName := ⟨RX9, "powerUp", "()V"⟩
abbrev cX9_undoSeries : ByteArray := prog_11_method_33_code
def yX9_undoSeries : MethodName := ⟨RX9, "undoSeries", "()V"⟩
abbrev cX9_count : ByteArray := prog_11_method_34_code
def yX9_count : MethodName := ⟨RX9, "count", "(I)J"⟩
abbrev cX9_undoneBy : ByteArray := prog_11_method_35_code
def yX9_undoneBy : MethodName := ⟨RX9, "undoneBy", "(I)J"⟩
abbrev cX9_isPattern : ByteArray := prog_11_method_36_code
def yX9_isPattern : MethodName := ⟨RX9, "isPattern", "(I)Z"⟩
abbrev cX9_comesFrom : ByteArray := prog_11_method_37_code
def yX9_comesFrom : MethodName := ⟨RX9, "comesFrom", "(I)I"⟩
abbrev cX9_dualOf : ByteArray := prog_11_method_38_code
def yX9_dualOf : MethodName := ⟨RX9, "dualOf", "(I)I"⟩
abbrev cX9_isOwnDual : ByteArray := prog_11_method_39_code
def yX9_isOwnDual : MethodName := ⟨RX9, "isOwnDual", "()Z"⟩
abbrev cX9_feed : ByteArray := prog_11_method_40_code
def yX9_feed : MethodName := ⟨RX9, "feed", "(I)I"⟩
abbrev cX9_read : ByteArray := prog_11_method_41_code
def yX9_read : MethodName := ⟨RX9, "read", "()I"⟩
abbrev cX9_tell : ByteArray := prog_11_method_42_code
def yX9_tell : MethodName := ⟨RX9, "tell", "()I"⟩
abbrev cX9_fault : ByteArray := prog_11_method_43_code
def yX9_fault : MethodName := ⟨RX9, "fault", "()I"⟩
abbrev cX9_wrongEntry : ByteArray := prog_11_method_44_code
def yX9_wrongEntry : MethodName := ⟨RX9, "wrongEntry", "()I"⟩
abbrev cX9_told : ByteArray := prog_11_method_45_code
def yX9_told : MethodName := ⟨RX9, "told", "(I)I"⟩
abbrev cX9_turnedCode : ByteArray := prog_11_method_46_code
def yX9_turnedCode : MethodName := ⟨RX9, "turnedCode", "()I"⟩
abbrev cX9_ofPlain : ByteArray := prog_11_method_47_code
def yX9_ofPlain : MethodName := ⟨RX9, "ofPlain", "(I)I"⟩
abbrev cX9_tree : ByteArray := prog_11_method_48_code
def yX9_tree : MethodName := ⟨RX9, "tree", "(II)I"⟩
abbrev cX9_pattern : ByteArray := prog_11_method_49_code
def yX9_pattern : MethodName := ⟨RX9, "pattern", "(II)I"⟩
abbrev cX9_same : ByteArray := prog_11_method_50_code
def yX9_same : MethodName := ⟨RX9, "same", "(II)I"⟩
abbrev cX9_remember : ByteArray := prog_11_method_51_code
def yX9_remember : MethodName := ⟨RX9, "remember", "()V"⟩
abbrev cX9_shelve : ByteArray := prog_11_method_52_code
def yX9_shelve : MethodName := ⟨RX9, "shelve", "()I"⟩
abbrev cX9_lay : ByteArray := prog_11_method_53_code
def yX9_lay : MethodName := ⟨RX9, "lay", "(I)V"⟩
abbrev cX9_graft : ByteArray := prog_11_method_54_code
def yX9_graft : MethodName := ⟨RX9, "graft", "(III)I"⟩
abbrev cX9_step : ByteArray := prog_11_method_55_code
def yX9_step : MethodName := ⟨RX9, "step", "(II)I"⟩
abbrev cX9_plain : ByteArray := prog_11_method_56_code
def yX9_plain : MethodName := ⟨RX9, "plain", "(I)I"⟩
abbrev cX9_mirror : ByteArray := prog_11_method_57_code
def yX9_mirror : MethodName := ⟨RX9, "mirror", "(I)I"⟩
abbrev cX9_take : ByteArray := prog_11_method_58_code
def yX9_take : MethodName := ⟨RX9, "take", "(I)I"⟩
abbrev cX9_mayBecome : ByteArray := prog_11_method_59_code
def yX9_mayBecome : MethodName := ⟨RX9, "mayBecome", "(II)Z"⟩
abbrev cX9_fate : ByteArray := prog_11_method_60_code
def yX9_fate : MethodName := ⟨RX9, "fate", "(III)I"⟩
abbrev cX9_dual : ByteArray := prog_11_method_61_code
def yX9_dual : MethodName := ⟨RX9, "dual", "()I"⟩
abbrev cX9_clear : ByteArray := prog_11_method_62_code
def yX9_clear : MethodName := ⟨RX9, "clear", "()I"⟩
abbrev cX9_draw : ByteArray := prog_11_method_63_code
def yX9_draw : MethodName := ⟨RX9, "draw", "(I)I"⟩
abbrev cX9_put : ByteArray := prog_11_method_64_code
def yX9_put : MethodName := ⟨RX9, "put", "(II)V"⟩
abbrev cX9_chance : ByteArray := prog_11_method_65_code
def yX9_chance : MethodName := ⟨RX9, "chance", "()V"⟩
abbrev cX9_drift : ByteArray := prog_11_method_66_code
def yX9_drift : MethodName := ⟨RX9, "drift", "(I)I"⟩
abbrev cX9_undo : ByteArray := prog_11_method_67_code
def yX9_undo : MethodName := ⟨RX9, "undo", "(I)I"⟩
abbrev cX9_write : ByteArray := prog_11_method_68_code
def yX9_write : MethodName := ⟨RX9, "write", "(II)I"⟩
abbrev cX9_tear : ByteArray := prog_11_method_69_code
def yX9_tear : MethodName := ⟨RX9, "tear", "()I"⟩
abbrev cX9_seed : ByteArray := prog_11_method_70_code
def yX9_seed : MethodName := ⟨RX9, "seed", "(I)I"⟩
abbrev cX9_keep : ByteArray := prog_11_method_71_code
def yX9_keep : MethodName := ⟨RX9, "keep", "(I)I"⟩
abbrev cX9_goBack : ByteArray := prog_11_method_72_code
def yX9_goBack : MethodName := ⟨RX9, "goBack", "(I)I"⟩
def RJ9 : String := "java/lang/Math"
abbrev cJ9_floorMod_7cf53 : ByteArray := prog_12_method_50_code
def yJ9_floorMod_7cf53 : MethodName := ⟨RJ9, "floorMod", "(II)I"⟩
abbrev cJ9_max_7cf53 : ByteArray := prog_12_method_65_code
def yJ9_max_7cf53 : MethodName := ⟨RJ9, "max", "(II)I"⟩
abbrev cJ9_min_7cf53 : ByteArray := prog_12_method_69_code
def yJ9_min_7cf53 : MethodName := ⟨RJ9, "min", "(II)I"⟩
def RJ10 : String := "java/lang/System"
def RJ7 : String := "java/util/Arrays"
abbrev cJ7_fill_d0a16 : ByteArray := prog_14_method_101_code
def yJ7_fill_d0a16 : MethodName := ⟨RJ7, "fill", "([JJ)V"⟩
abbrev cJ7_fill_53178 : ByteArray := prog_14_method_103_code
def yJ7_fill_53178 : MethodName := ⟨RJ7, "fill", "([II)V"⟩
def RL : String := "GraftRulesLaw"
abbrev cL_law : ByteArray := code
def yL_law : MethodName := ⟨RL, "law", "([I)Z"⟩
abbrev vwCl : List vw_C := [(RX0, TX0, 3), (RX1, TX1, 3), (RX2, TX2, 3), (RX3, TX3, 5), (RX4, TX4, 2), (RX5, TX5, 4), (RX6, TX6, 4), (RX7, TX7, 4), (RX8, TX8, 12), (RX9, TX9, 22)]

-- the words that are used, by their places in tables_1
theorem hs_1 : Cond.selects "LazyMotion$Motion" ⟨"LazyMotion$Motion", "findReached", "()V"⟩ ⟨"LazyMotion$Motion", "findReached", "()V"⟩ ∈ lw_g := wk_is 1 (by decide +kernel) (by decide +kernel)
theorem hs_2 : Cond.selects "LazyMotion$Motion" ⟨"LazyMotion$Motion", "reach", "(I)Z"⟩ ⟨"LazyMotion$Motion", "reach", "(I)Z"⟩ ∈ lw_g := wk_is 2 (by decide +kernel) (by decide +kernel)
theorem hs_3 : Cond.selects "LazyMotion$Motion" ⟨"LazyMotion$Motion", "readBlock", "(I)V"⟩ ⟨"LazyMotion$Motion", "readBlock", "(I)V"⟩ ∈ lw_g := wk_is 3 (by decide +kernel) (by decide +kernel)
theorem hs_4 : Cond.selects "LazyMotion$Motion" ⟨"LazyMotion$Motion", "fillSets", "(I)V"⟩ ⟨"LazyMotion$Motion", "fillSets", "(I)V"⟩ ∈ lw_g := wk_is 4 (by decide +kernel) (by decide +kernel)
theorem hs_5 : Cond.selects "LazyMotion$Motion" ⟨"LazyMotion$Motion", "flowThere", "()V"⟩ ⟨"LazyMotion$Motion", "flowThere", "()V"⟩ ∈ lw_g := wk_is 5 (by decide +kernel) (by decide +kernel)
theorem hs_6 : Cond.selects "LazyMotion$Motion" ⟨"LazyMotion$Motion", "flowWanted", "()V"⟩ ⟨"LazyMotion$Motion", "flowWanted", "()V"⟩ ∈ lw_g := wk_is 6 (by decide +kernel) (by decide +kernel)
theorem hs_7 : Cond.selects "LazyMotion$Motion" ⟨"LazyMotion$Motion", "wantedByAll", "(II)J"⟩ ⟨"LazyMotion$Motion", "wantedByAll", "(II)J"⟩ ∈ lw_g := wk_is 7 (by decide +kernel) (by decide +kernel)
theorem hs_8 : Cond.selects "LazyMotion$Motion" ⟨"LazyMotion$Motion", "flowLate", "()V"⟩ ⟨"LazyMotion$Motion", "flowLate", "()V"⟩ ∈ lw_g := wk_is 8 (by decide +kernel) (by decide +kernel)
theorem hs_9 : Cond.selects "LazyMotion$Motion" ⟨"LazyMotion$Motion", "laterOn", "(II)J"⟩ ⟨"LazyMotion$Motion", "laterOn", "(II)J"⟩ ∈ lw_g := wk_is 9 (by decide +kernel) (by decide +kernel)
theorem hs_10 : Cond.selects "LazyMotion$Motion" ⟨"LazyMotion$Motion", "narrowLate", "(II)Z"⟩ ⟨"LazyMotion$Motion", "narrowLate", "(II)Z"⟩ ∈ lw_g := wk_is 10 (by decide +kernel) (by decide +kernel)
theorem hs_11 : Cond.selects "LazyMotion$Machine" ⟨"LazyMotion$Machine", "goAlong", "(J)V"⟩ ⟨"LazyMotion$Machine", "goAlong", "(J)V"⟩ ∈ lw_g := wk_is 11 (by decide +kernel) (by decide +kernel)
theorem hs_12 : Cond.selects "LazyMotion$Machine" ⟨"LazyMotion$Machine", "compute", "(I)I"⟩ ⟨"LazyMotion$Machine", "compute", "(I)I"⟩ ∈ lw_g := wk_is 12 (by decide +kernel) (by decide +kernel)
theorem hs_13 : Cond.selects "LazyMotion$Machine" ⟨"LazyMotion$Machine", "goThroughBlock", "(IJ)V"⟩ ⟨"LazyMotion$Machine", "goThroughBlock", "(IJ)V"⟩ ∈ lw_g := wk_is 13 (by decide +kernel) (by decide +kernel)
theorem hs_14 : Cond.selects "LazyMotion$Machine" ⟨"LazyMotion$Machine", "goThroughSimple", "(III)V"⟩ ⟨"LazyMotion$Machine", "goThroughSimple", "(III)V"⟩ ∈ lw_g := wk_is 14 (by decide +kernel) (by decide +kernel)
theorem hs_15 : Cond.selects "LazyMotion$Machine" ⟨"LazyMotion$Machine", "giveOut", "(I)V"⟩ ⟨"LazyMotion$Machine", "giveOut", "(I)V"⟩ ∈ lw_g := wk_is 15 (by decide +kernel) (by decide +kernel)
theorem hs_16 : Cond.selects "LazyMotionModel" ⟨"LazyMotionModel", "fail", "(I)I"⟩ ⟨"LazyMotionModel", "fail", "(I)I"⟩ ∈ lw_g := wk_is 16 (by decide +kernel) (by decide +kernel)
theorem hs_17 : Cond.selects "LazyMotionModel" ⟨"LazyMotionModel", "find", "(III)I"⟩ ⟨"LazyMotionModel", "find", "(III)I"⟩ ∈ lw_g := wk_is 17 (by decide +kernel) (by decide +kernel)
theorem hs_18 : Cond.selects "LazyMotionModel" ⟨"LazyMotionModel", "whole", "()Z"⟩ ⟨"LazyMotionModel", "whole", "()Z"⟩ ∈ lw_g := wk_is 18 (by decide +kernel) (by decide +kernel)
theorem hs_19 : Cond.selects "LazyMotionModel" ⟨"LazyMotionModel", "next", "(II)I"⟩ ⟨"LazyMotionModel", "next", "(II)I"⟩ ∈ lw_g := wk_is 19 (by decide +kernel) (by decide +kernel)
theorem hs_20 : Cond.selects "LazyMotionModel" ⟨"LazyMotionModel", "reach", "()V"⟩ ⟨"LazyMotionModel", "reach", "()V"⟩ ∈ lw_g := wk_is 20 (by decide +kernel) (by decide +kernel)
theorem hs_21 : Cond.selects "LazyMotionModel" ⟨"LazyMotionModel", "plans", "(I)V"⟩ ⟨"LazyMotionModel", "plans", "(I)V"⟩ ∈ lw_g := wk_is 21 (by decide +kernel) (by decide +kernel)
theorem hs_22 : Cond.selects "LazyMotionModel" ⟨"LazyMotionModel", "look", "(II)V"⟩ ⟨"LazyMotionModel", "look", "(II)V"⟩ ∈ lw_g := wk_is 22 (by decide +kernel) (by decide +kernel)
theorem hs_23 : Cond.selects "LazyMotionModel" ⟨"LazyMotionModel", "gives", "(II)Z"⟩ ⟨"LazyMotionModel", "gives", "(II)Z"⟩ ∈ lw_g := wk_is 23 (by decide +kernel) (by decide +kernel)
theorem hs_24 : Cond.selects "LazyMotionModel" ⟨"LazyMotionModel", "settle", "(I)V"⟩ ⟨"LazyMotionModel", "settle", "(I)V"⟩ ∈ lw_g := wk_is 24 (by decide +kernel) (by decide +kernel)
theorem hs_25 : Cond.selects "LazyMotionModel" ⟨"LazyMotionModel", "thereBefore", "(I)Z"⟩ ⟨"LazyMotionModel", "thereBefore", "(I)Z"⟩ ∈ lw_g := wk_is 25 (by decide +kernel) (by decide +kernel)
theorem hs_26 : Cond.selects "LazyMotionModel" ⟨"LazyMotionModel", "edge", "(II)Z"⟩ ⟨"LazyMotionModel", "edge", "(II)Z"⟩ ∈ lw_g := wk_is 26 (by decide +kernel) (by decide +kernel)
theorem hs_27 : Cond.selects "LazyMotionModel" ⟨"LazyMotionModel", "wantedBehind", "(I)Z"⟩ ⟨"LazyMotionModel", "wantedBehind", "(I)Z"⟩ ∈ lw_g := wk_is 27 (by decide +kernel) (by decide +kernel)
theorem hs_28 : Cond.selects "LazyMotionModel" ⟨"LazyMotionModel", "lateBefore", "(I)Z"⟩ ⟨"LazyMotionModel", "lateBefore", "(I)Z"⟩ ∈ lw_g := wk_is 28 (by decide +kernel) (by decide +kernel)
theorem hs_29 : Cond.selects "LazyMotionModel" ⟨"LazyMotionModel", "laterOn", "(II)Z"⟩ ⟨"LazyMotionModel", "laterOn", "(II)Z"⟩ ∈ lw_g := wk_is 29 (by decide +kernel) (by decide +kernel)
theorem hs_30 : Cond.selects "LazyMotionModel" ⟨"LazyMotionModel", "earliest", "(II)Z"⟩ ⟨"LazyMotionModel", "earliest", "(II)Z"⟩ ∈ lw_g := wk_is 30 (by decide +kernel) (by decide +kernel)
theorem hs_31 : Cond.selects "LazyMotionModel" ⟨"LazyMotionModel", "mark", "(IIIZ)V"⟩ ⟨"LazyMotionModel", "mark", "(IIIZ)V"⟩ ∈ lw_g := wk_is 31 (by decide +kernel) (by decide +kernel)
theorem hs_32 : Cond.selects "LazyMotionModel" ⟨"LazyMotionModel", "isEdge", "(II)Z"⟩ ⟨"LazyMotionModel", "isEdge", "(II)Z"⟩ ∈ lw_g := wk_is 32 (by decide +kernel) (by decide +kernel)
theorem hs_33 : Cond.selects "LazyMotionModel" ⟨"LazyMotionModel", "cross", "(I)V"⟩ ⟨"LazyMotionModel", "cross", "(I)V"⟩ ∈ lw_g := wk_is 33 (by decide +kernel) (by decide +kernel)
theorem hs_34 : Cond.selects "LazyMotionModel" ⟨"LazyMotionModel", "worked", "(I)I"⟩ ⟨"LazyMotionModel", "worked", "(I)I"⟩ ∈ lw_g := wk_is 34 (by decide +kernel) (by decide +kernel)
theorem hs_35 : Cond.selects "LazyMotionModel" ⟨"LazyMotionModel", "pass", "(IZ)V"⟩ ⟨"LazyMotionModel", "pass", "(IZ)V"⟩ ∈ lw_g := wk_is 35 (by decide +kernel) (by decide +kernel)
theorem hs_36 : Cond.selects "LazyMotionModel" ⟨"LazyMotionModel", "newly", "(II)I"⟩ ⟨"LazyMotionModel", "newly", "(II)I"⟩ ∈ lw_g := wk_is 36 (by decide +kernel) (by decide +kernel)
theorem hw_1 : (Jvm.Cond.initialized "LazyMotion") ∈ lw_g := wk_in 1 (by decide +kernel) (by decide +kernel)
theorem hw_2 : (Jvm.Cond.initialized "LazyMotion$Program") ∈ lw_g := wk_in 2 (by decide +kernel) (by decide +kernel)
theorem hw_3 : (Jvm.Cond.initialized "LazyMotion$Motion") ∈ lw_g := wk_in 3 (by decide +kernel) (by decide +kernel)
theorem hw_4 : (Jvm.Cond.initialized "LazyMotion$Machine") ∈ lw_g := wk_in 4 (by decide +kernel) (by decide +kernel)
theorem hw_5 : (Jvm.Cond.initialized "LazyMotionModel") ∈ lw_g := wk_in 5 (by decide +kernel) (by decide +kernel)
theorem hw_12 : (Jvm.Cond.initialized "java/lang/Long") ∈ lw_g := wk_in 12 (by decide +kernel) (by decide +kernel)
theorem hw_15 : (Jvm.Cond.initialized "java/util/Arrays") ∈ lw_g := wk_in 15 (by decide +kernel) (by decide +kernel)
theorem hw_30 : (Jvm.Cond.fieldLink "LazyMotion$Program" (9 : Nat) "LazyMotion$Program" "blocks" "I") ∈ lw_g := wk_in 30 (by decide +kernel) (by decide +kernel)
theorem hw_31 : (Jvm.Cond.fieldLink "LazyMotion" (42 : Nat) "LazyMotion$Program" "blocks" "I") ∈ lw_g := wk_in 31 (by decide +kernel) (by decide +kernel)
theorem hw_32 : (Jvm.Cond.fieldLink "LazyMotion$Motion" (50 : Nat) "LazyMotion$Program" "blocks" "I") ∈ lw_g := wk_in 32 (by decide +kernel) (by decide +kernel)
theorem hw_33 : (Jvm.Cond.fieldLink "LazyMotion$Program" (15 : Nat) "LazyMotion$Program" "expressions" "I") ∈ lw_g := wk_in 33 (by decide +kernel) (by decide +kernel)
theorem hw_34 : (Jvm.Cond.fieldLink "LazyMotion$Machine" (77 : Nat) "LazyMotion$Program" "expressions" "I") ∈ lw_g := wk_in 34 (by decide +kernel) (by decide +kernel)
theorem hw_35 : (Jvm.Cond.fieldLink "LazyMotion$Motion" (113 : Nat) "LazyMotion$Program" "expressions" "I") ∈ lw_g := wk_in 35 (by decide +kernel) (by decide +kernel)
theorem hw_36 : (Jvm.Cond.fieldLink "LazyMotion" (169 : Nat) "LazyMotion$Program" "expressions" "I") ∈ lw_g := wk_in 36 (by decide +kernel) (by decide +kernel)
theorem hw_37 : (Jvm.Cond.fieldLink "LazyMotion$Program" (18 : Nat) "LazyMotion$Program" "sizes" "[I") ∈ lw_g := wk_in 37 (by decide +kernel) (by decide +kernel)
theorem hw_38 : (Jvm.Cond.fieldLink "LazyMotion$Machine" (84 : Nat) "LazyMotion$Program" "sizes" "[I") ∈ lw_g := wk_in 38 (by decide +kernel) (by decide +kernel)
theorem hw_39 : (Jvm.Cond.fieldLink "LazyMotion$Motion" (98 : Nat) "LazyMotion$Program" "sizes" "[I") ∈ lw_g := wk_in 39 (by decide +kernel) (by decide +kernel)
theorem hw_40 : (Jvm.Cond.fieldLink "LazyMotion$Program" (22 : Nat) "LazyMotion$Program" "kinds" "[I") ∈ lw_g := wk_in 40 (by decide +kernel) (by decide +kernel)
theorem hw_41 : (Jvm.Cond.fieldLink "LazyMotion$Machine" (90 : Nat) "LazyMotion$Program" "kinds" "[I") ∈ lw_g := wk_in 41 (by decide +kernel) (by decide +kernel)
theorem hw_42 : (Jvm.Cond.fieldLink "LazyMotion$Motion" (101 : Nat) "LazyMotion$Program" "kinds" "[I") ∈ lw_g := wk_in 42 (by decide +kernel) (by decide +kernel)
theorem hw_43 : (Jvm.Cond.fieldLink "LazyMotion$Program" (25 : Nat) "LazyMotion$Program" "targets" "[I") ∈ lw_g := wk_in 43 (by decide +kernel) (by decide +kernel)
theorem hw_44 : (Jvm.Cond.fieldLink "LazyMotion$Machine" (93 : Nat) "LazyMotion$Program" "targets" "[I") ∈ lw_g := wk_in 44 (by decide +kernel) (by decide +kernel)
theorem hw_45 : (Jvm.Cond.fieldLink "LazyMotion$Motion" (110 : Nat) "LazyMotion$Program" "targets" "[I") ∈ lw_g := wk_in 45 (by decide +kernel) (by decide +kernel)
theorem hw_46 : (Jvm.Cond.fieldLink "LazyMotion$Program" (28 : Nat) "LazyMotion$Program" "operands" "[I") ∈ lw_g := wk_in 46 (by decide +kernel) (by decide +kernel)
theorem hw_47 : (Jvm.Cond.fieldLink "LazyMotion$Machine" (87 : Nat) "LazyMotion$Program" "operands" "[I") ∈ lw_g := wk_in 47 (by decide +kernel) (by decide +kernel)
theorem hw_48 : (Jvm.Cond.fieldLink "LazyMotion$Motion" (104 : Nat) "LazyMotion$Program" "operands" "[I") ∈ lw_g := wk_in 48 (by decide +kernel) (by decide +kernel)
theorem hw_49 : (Jvm.Cond.fieldLink "LazyMotion$Program" (31 : Nat) "LazyMotion$Program" "tested" "[I") ∈ lw_g := wk_in 49 (by decide +kernel) (by decide +kernel)
theorem hw_50 : (Jvm.Cond.fieldLink "LazyMotion$Machine" (66 : Nat) "LazyMotion$Program" "tested" "[I") ∈ lw_g := wk_in 50 (by decide +kernel) (by decide +kernel)
theorem hw_51 : (Jvm.Cond.fieldLink "LazyMotion$Program" (34 : Nat) "LazyMotion$Program" "firsts" "[I") ∈ lw_g := wk_in 51 (by decide +kernel) (by decide +kernel)
theorem hw_52 : (Jvm.Cond.fieldLink "LazyMotion$Machine" (71 : Nat) "LazyMotion$Program" "firsts" "[I") ∈ lw_g := wk_in 52 (by decide +kernel) (by decide +kernel)
theorem hw_53 : (Jvm.Cond.fieldLink "LazyMotion$Motion" (84 : Nat) "LazyMotion$Program" "firsts" "[I") ∈ lw_g := wk_in 53 (by decide +kernel) (by decide +kernel)
theorem hw_54 : (Jvm.Cond.fieldLink "LazyMotion$Program" (37 : Nat) "LazyMotion$Program" "seconds" "[I") ∈ lw_g := wk_in 54 (by decide +kernel) (by decide +kernel)
theorem hw_55 : (Jvm.Cond.fieldLink "LazyMotion$Machine" (74 : Nat) "LazyMotion$Program" "seconds" "[I") ∈ lw_g := wk_in 55 (by decide +kernel) (by decide +kernel)
theorem hw_56 : (Jvm.Cond.fieldLink "LazyMotion$Motion" (88 : Nat) "LazyMotion$Program" "seconds" "[I") ∈ lw_g := wk_in 56 (by decide +kernel) (by decide +kernel)
theorem hw_57 : (Jvm.Cond.fieldLink "LazyMotion$Program" (40 : Nat) "LazyMotion$Program" "lefts" "[I") ∈ lw_g := wk_in 57 (by decide +kernel) (by decide +kernel)
theorem hw_58 : (Jvm.Cond.fieldLink "LazyMotion$Program" (43 : Nat) "LazyMotion$Program" "operators" "[I") ∈ lw_g := wk_in 58 (by decide +kernel) (by decide +kernel)
theorem hw_59 : (Jvm.Cond.fieldLink "LazyMotion$Program" (46 : Nat) "LazyMotion$Program" "rights" "[I") ∈ lw_g := wk_in 59 (by decide +kernel) (by decide +kernel)
theorem hw_60 : (Jvm.Cond.fieldLink "LazyMotion$Program" (49 : Nat) "LazyMotion$Program" "users" "[J") ∈ lw_g := wk_in 60 (by decide +kernel) (by decide +kernel)
theorem hw_61 : (Jvm.Cond.fieldLink "LazyMotion$Motion" (107 : Nat) "LazyMotion$Program" "users" "[J") ∈ lw_g := wk_in 61 (by decide +kernel) (by decide +kernel)
theorem hw_62 : (Jvm.Cond.lays "LazyMotion$Program" "LazyMotion$Program" "blocks" "I") ∈ lw_g := wk_in 62 (by decide +kernel) (by decide +kernel)
theorem hw_64 : (Jvm.Cond.lays "LazyMotion$Program" "LazyMotion$Program" "expressions" "I") ∈ lw_g := wk_in 64 (by decide +kernel) (by decide +kernel)
theorem hw_66 : (Jvm.Cond.laysFinal "LazyMotion$Program" "LazyMotion$Program" "sizes" "[I") ∈ lw_g := wk_in 66 (by decide +kernel) (by decide +kernel)
theorem hw_68 : (Jvm.Cond.laysFinal "LazyMotion$Program" "LazyMotion$Program" "kinds" "[I") ∈ lw_g := wk_in 68 (by decide +kernel) (by decide +kernel)
theorem hw_70 : (Jvm.Cond.laysFinal "LazyMotion$Program" "LazyMotion$Program" "targets" "[I") ∈ lw_g := wk_in 70 (by decide +kernel) (by decide +kernel)
theorem hw_72 : (Jvm.Cond.laysFinal "LazyMotion$Program" "LazyMotion$Program" "operands" "[I") ∈ lw_g := wk_in 72 (by decide +kernel) (by decide +kernel)
theorem hw_74 : (Jvm.Cond.laysFinal "LazyMotion$Program" "LazyMotion$Program" "tested" "[I") ∈ lw_g := wk_in 74 (by decide +kernel) (by decide +kernel)
theorem hw_76 : (Jvm.Cond.laysFinal "LazyMotion$Program" "LazyMotion$Program" "firsts" "[I") ∈ lw_g := wk_in 76 (by decide +kernel) (by decide +kernel)
theorem hw_78 : (Jvm.Cond.laysFinal "LazyMotion$Program" "LazyMotion$Program" "seconds" "[I") ∈ lw_g := wk_in 78 (by decide +kernel) (by decide +kernel)
theorem hw_80 : (Jvm.Cond.laysFinal "LazyMotion$Program" "LazyMotion$Program" "lefts" "[I") ∈ lw_g := wk_in 80 (by decide +kernel) (by decide +kernel)
theorem hw_82 : (Jvm.Cond.laysFinal "LazyMotion$Program" "LazyMotion$Program" "operators" "[I") ∈ lw_g := wk_in 82 (by decide +kernel) (by decide +kernel)
theorem hw_84 : (Jvm.Cond.laysFinal "LazyMotion$Program" "LazyMotion$Program" "rights" "[I") ∈ lw_g := wk_in 84 (by decide +kernel) (by decide +kernel)
theorem hw_86 : (Jvm.Cond.laysFinal "LazyMotion$Program" "LazyMotion$Program" "users" "[J") ∈ lw_g := wk_in 86 (by decide +kernel) (by decide +kernel)
theorem hw_97 : (Jvm.Cond.fieldLink "LazyMotion$Motion" (43 : Nat) "LazyMotion$Motion" "program" "LLazyMotion$Program;") ∈ lw_g := wk_in 97 (by decide +kernel) (by decide +kernel)
theorem hw_98 : (Jvm.Cond.fieldLink "LazyMotion$Motion" (9 : Nat) "LazyMotion$Motion" "reached" "[Z") ∈ lw_g := wk_in 98 (by decide +kernel) (by decide +kernel)
theorem hw_99 : (Jvm.Cond.fieldLink "LazyMotion$Motion" (15 : Nat) "LazyMotion$Motion" "changes" "[J") ∈ lw_g := wk_in 99 (by decide +kernel) (by decide +kernel)
theorem hw_100 : (Jvm.Cond.fieldLink "LazyMotion$Motion" (19 : Nat) "LazyMotion$Motion" "asks" "[J") ∈ lw_g := wk_in 100 (by decide +kernel) (by decide +kernel)
theorem hw_101 : (Jvm.Cond.fieldLink "LazyMotion$Motion" (22 : Nat) "LazyMotion$Motion" "leaves" "[J") ∈ lw_g := wk_in 101 (by decide +kernel) (by decide +kernel)
theorem hw_102 : (Jvm.Cond.fieldLink "LazyMotion$Motion" (25 : Nat) "LazyMotion$Motion" "thereBefore" "[J") ∈ lw_g := wk_in 102 (by decide +kernel) (by decide +kernel)
theorem hw_103 : (Jvm.Cond.fieldLink "LazyMotion$Motion" (28 : Nat) "LazyMotion$Motion" "thereBehind" "[J") ∈ lw_g := wk_in 103 (by decide +kernel) (by decide +kernel)
theorem hw_104 : (Jvm.Cond.fieldLink "LazyMotion$Motion" (31 : Nat) "LazyMotion$Motion" "wantedBefore" "[J") ∈ lw_g := wk_in 104 (by decide +kernel) (by decide +kernel)
theorem hw_105 : (Jvm.Cond.fieldLink "LazyMotion$Motion" (34 : Nat) "LazyMotion$Motion" "wantedBehind" "[J") ∈ lw_g := wk_in 105 (by decide +kernel) (by decide +kernel)
theorem hw_106 : (Jvm.Cond.fieldLink "LazyMotion$Motion" (37 : Nat) "LazyMotion$Motion" "lateBefore" "[J") ∈ lw_g := wk_in 106 (by decide +kernel) (by decide +kernel)
theorem hw_107 : (Jvm.Cond.fieldLink "LazyMotion$Motion" (40 : Nat) "LazyMotion$Motion" "takenOut" "[J") ∈ lw_g := wk_in 107 (by decide +kernel) (by decide +kernel)
theorem hw_108 : (Jvm.Cond.fieldLink "LazyMotion$Machine" (58 : Nat) "LazyMotion$Motion" "takenOut" "[J") ∈ lw_g := wk_in 108 (by decide +kernel) (by decide +kernel)
theorem hw_109 : (Jvm.Cond.laysFinal "LazyMotion$Motion" "LazyMotion$Motion" "program" "LLazyMotion$Program;") ∈ lw_g := wk_in 109 (by decide +kernel) (by decide +kernel)
theorem hw_111 : (Jvm.Cond.laysFinal "LazyMotion$Motion" "LazyMotion$Motion" "reached" "[Z") ∈ lw_g := wk_in 111 (by decide +kernel) (by decide +kernel)
theorem hw_113 : (Jvm.Cond.laysFinal "LazyMotion$Motion" "LazyMotion$Motion" "changes" "[J") ∈ lw_g := wk_in 113 (by decide +kernel) (by decide +kernel)
theorem hw_115 : (Jvm.Cond.laysFinal "LazyMotion$Motion" "LazyMotion$Motion" "asks" "[J") ∈ lw_g := wk_in 115 (by decide +kernel) (by decide +kernel)
theorem hw_117 : (Jvm.Cond.laysFinal "LazyMotion$Motion" "LazyMotion$Motion" "leaves" "[J") ∈ lw_g := wk_in 117 (by decide +kernel) (by decide +kernel)
theorem hw_119 : (Jvm.Cond.laysFinal "LazyMotion$Motion" "LazyMotion$Motion" "thereBefore" "[J") ∈ lw_g := wk_in 119 (by decide +kernel) (by decide +kernel)
theorem hw_121 : (Jvm.Cond.laysFinal "LazyMotion$Motion" "LazyMotion$Motion" "thereBehind" "[J") ∈ lw_g := wk_in 121 (by decide +kernel) (by decide +kernel)
theorem hw_123 : (Jvm.Cond.laysFinal "LazyMotion$Motion" "LazyMotion$Motion" "wantedBefore" "[J") ∈ lw_g := wk_in 123 (by decide +kernel) (by decide +kernel)
theorem hw_125 : (Jvm.Cond.laysFinal "LazyMotion$Motion" "LazyMotion$Motion" "wantedBehind" "[J") ∈ lw_g := wk_in 125 (by decide +kernel) (by decide +kernel)
theorem hw_127 : (Jvm.Cond.laysFinal "LazyMotion$Motion" "LazyMotion$Motion" "lateBefore" "[J") ∈ lw_g := wk_in 127 (by decide +kernel) (by decide +kernel)
theorem hw_129 : (Jvm.Cond.laysFinal "LazyMotion$Motion" "LazyMotion$Motion" "takenOut" "[J") ∈ lw_g := wk_in 129 (by decide +kernel) (by decide +kernel)
theorem hw_139 : (Jvm.Cond.fieldLink "LazyMotion$Machine" (9 : Nat) "LazyMotion$Machine" "computations" "I") ∈ lw_g := wk_in 139 (by decide +kernel) (by decide +kernel)
theorem hw_140 : (Jvm.Cond.fieldLink "LazyMotion" (146 : Nat) "LazyMotion$Machine" "computations" "I") ∈ lw_g := wk_in 140 (by decide +kernel) (by decide +kernel)
theorem hw_141 : (Jvm.Cond.fieldLink "LazyMotion$Machine" (15 : Nat) "LazyMotion$Machine" "given" "I") ∈ lw_g := wk_in 141 (by decide +kernel) (by decide +kernel)
theorem hw_142 : (Jvm.Cond.fieldLink "LazyMotion" (149 : Nat) "LazyMotion$Machine" "given" "I") ∈ lw_g := wk_in 142 (by decide +kernel) (by decide +kernel)
theorem hw_143 : (Jvm.Cond.fieldLink "LazyMotion$Machine" (18 : Nat) "LazyMotion$Machine" "passed" "I") ∈ lw_g := wk_in 143 (by decide +kernel) (by decide +kernel)
theorem hw_144 : (Jvm.Cond.fieldLink "LazyMotion" (172 : Nat) "LazyMotion$Machine" "passed" "I") ∈ lw_g := wk_in 144 (by decide +kernel) (by decide +kernel)
theorem hw_145 : (Jvm.Cond.fieldLink "LazyMotion$Machine" (21 : Nat) "LazyMotion$Machine" "variables" "[I") ∈ lw_g := wk_in 145 (by decide +kernel) (by decide +kernel)
theorem hw_146 : (Jvm.Cond.fieldLink "LazyMotion" (163 : Nat) "LazyMotion$Machine" "variables" "[I") ∈ lw_g := wk_in 146 (by decide +kernel) (by decide +kernel)
theorem hw_147 : (Jvm.Cond.fieldLink "LazyMotion$Machine" (25 : Nat) "LazyMotion$Machine" "made" "[I") ∈ lw_g := wk_in 147 (by decide +kernel) (by decide +kernel)
theorem hw_148 : (Jvm.Cond.fieldLink "LazyMotion" (166 : Nat) "LazyMotion$Machine" "made" "[I") ∈ lw_g := wk_in 148 (by decide +kernel) (by decide +kernel)
theorem hw_149 : (Jvm.Cond.fieldLink "LazyMotion$Machine" (28 : Nat) "LazyMotion$Machine" "numbers" "[I") ∈ lw_g := wk_in 149 (by decide +kernel) (by decide +kernel)
theorem hw_150 : (Jvm.Cond.fieldLink "LazyMotion" (154 : Nat) "LazyMotion$Machine" "numbers" "[I") ∈ lw_g := wk_in 150 (by decide +kernel) (by decide +kernel)
theorem hw_151 : (Jvm.Cond.fieldLink "LazyMotion$Machine" (34 : Nat) "LazyMotion$Machine" "program" "LLazyMotion$Program;") ∈ lw_g := wk_in 151 (by decide +kernel) (by decide +kernel)
theorem hw_152 : (Jvm.Cond.fieldLink "LazyMotion$Machine" (38 : Nat) "LazyMotion$Machine" "motion" "LLazyMotion$Motion;") ∈ lw_g := wk_in 152 (by decide +kernel) (by decide +kernel)
theorem hw_153 : (Jvm.Cond.fieldLink "LazyMotion$Machine" (31 : Nat) "LazyMotion$Machine" "temporaries" "[I") ∈ lw_g := wk_in 153 (by decide +kernel) (by decide +kernel)
theorem hw_154 : (Jvm.Cond.lays "LazyMotion$Machine" "LazyMotion$Machine" "computations" "I") ∈ lw_g := wk_in 154 (by decide +kernel) (by decide +kernel)
theorem hw_156 : (Jvm.Cond.lays "LazyMotion$Machine" "LazyMotion$Machine" "given" "I") ∈ lw_g := wk_in 156 (by decide +kernel) (by decide +kernel)
theorem hw_158 : (Jvm.Cond.lays "LazyMotion$Machine" "LazyMotion$Machine" "passed" "I") ∈ lw_g := wk_in 158 (by decide +kernel) (by decide +kernel)
theorem hw_160 : (Jvm.Cond.laysFinal "LazyMotion$Machine" "LazyMotion$Machine" "variables" "[I") ∈ lw_g := wk_in 160 (by decide +kernel) (by decide +kernel)
theorem hw_162 : (Jvm.Cond.laysFinal "LazyMotion$Machine" "LazyMotion$Machine" "made" "[I") ∈ lw_g := wk_in 162 (by decide +kernel) (by decide +kernel)
theorem hw_164 : (Jvm.Cond.laysFinal "LazyMotion$Machine" "LazyMotion$Machine" "numbers" "[I") ∈ lw_g := wk_in 164 (by decide +kernel) (by decide +kernel)
theorem hw_166 : (Jvm.Cond.laysFinal "LazyMotion$Machine" "LazyMotion$Machine" "program" "LLazyMotion$Program;") ∈ lw_g := wk_in 166 (by decide +kernel) (by decide +kernel)
theorem hw_168 : (Jvm.Cond.laysFinal "LazyMotion$Machine" "LazyMotion$Machine" "motion" "LLazyMotion$Motion;") ∈ lw_g := wk_in 168 (by decide +kernel) (by decide +kernel)
theorem hw_170 : (Jvm.Cond.laysFinal "LazyMotion$Machine" "LazyMotion$Machine" "temporaries" "[I") ∈ lw_g := wk_in 170 (by decide +kernel) (by decide +kernel)
theorem hw_173 : (Jvm.Cond.fieldLink "LazyMotion" (17 : Nat) "LazyMotion" "program" "LLazyMotion$Program;") ∈ lw_g := wk_in 173 (by decide +kernel) (by decide +kernel)
theorem hw_174 : (Jvm.Cond.fieldLink "LazyMotion" (21 : Nat) "LazyMotion" "motion" "LLazyMotion$Motion;") ∈ lw_g := wk_in 174 (by decide +kernel) (by decide +kernel)
theorem hw_175 : (Jvm.Cond.fieldLink "LazyMotion" (30 : Nat) "LazyMotion" "machine" "LLazyMotion$Machine;") ∈ lw_g := wk_in 175 (by decide +kernel) (by decide +kernel)
theorem hw_176 : (Jvm.Cond.fieldLink "LazyMotion" (34 : Nat) "LazyMotion" "planned" "Z") ∈ lw_g := wk_in 176 (by decide +kernel) (by decide +kernel)
theorem hw_177 : (Jvm.Cond.fieldLink "LazyMotion" (38 : Nat) "LazyMotion" "plans" "I") ∈ lw_g := wk_in 177 (by decide +kernel) (by decide +kernel)
theorem hw_178 : (Jvm.Cond.laysFinal "LazyMotion" "LazyMotion" "program" "LLazyMotion$Program;") ∈ lw_g := wk_in 178 (by decide +kernel) (by decide +kernel)
theorem hw_180 : (Jvm.Cond.laysFinal "LazyMotion" "LazyMotion" "motion" "LLazyMotion$Motion;") ∈ lw_g := wk_in 180 (by decide +kernel) (by decide +kernel)
theorem hw_182 : (Jvm.Cond.laysFinal "LazyMotion" "LazyMotion" "machine" "LLazyMotion$Machine;") ∈ lw_g := wk_in 182 (by decide +kernel) (by decide +kernel)
theorem hw_184 : (Jvm.Cond.lays "LazyMotion" "LazyMotion" "planned" "Z") ∈ lw_g := wk_in 184 (by decide +kernel) (by decide +kernel)
theorem hw_186 : (Jvm.Cond.lays "LazyMotion" "LazyMotion" "plans" "I") ∈ lw_g := wk_in 186 (by decide +kernel) (by decide +kernel)
theorem hw_275 : (Jvm.Cond.methodLink "LazyMotion" (52 : Nat) ({ cls := "LazyMotion$Program", name := "addBlock", desc := "()I" } : Jvm.MethodName)) ∈ lw_g := wk_in 275 (by decide +kernel) (by decide +kernel)
theorem hw_276 : (Jvm.Cond.instanceMethod ({ cls := "LazyMotion$Program", name := "addBlock", desc := "()I" } : Jvm.MethodName)) ∈ lw_g := wk_in 276 (by decide +kernel) (by decide +kernel)
theorem hw_277 : (Jvm.Cond.selects "LazyMotion$Program" ({ cls := "LazyMotion$Program", name := "addBlock", desc := "()I" } : Jvm.MethodName) ({ cls := "LazyMotion$Program", name := "addBlock", desc := "()I" } : Jvm.MethodName)) ∈ lw_g := wk_in 277 (by decide +kernel) (by decide +kernel)
theorem hw_278 : (Jvm.Cond.code ({ cls := "LazyMotion$Program", name := "addBlock", desc := "()I" } : Jvm.MethodName) prog_4_method_3_code (2 : Nat) (Option.some Jvm.ClassFile.FieldType.int)) ∈ lw_g := wk_in 278 (by decide +kernel) (by decide +kernel)
theorem hw_279 : (Jvm.Cond.methodLink "LazyMotion$Program" (53 : Nat) ({ cls := "LazyMotion$Program", name := "changeEnd", desc := "(IIII)I" } : Jvm.MethodName)) ∈ lw_g := wk_in 279 (by decide +kernel) (by decide +kernel)
theorem hw_280 : (Jvm.Cond.instanceMethod ({ cls := "LazyMotion$Program", name := "changeEnd", desc := "(IIII)I" } : Jvm.MethodName)) ∈ lw_g := wk_in 280 (by decide +kernel) (by decide +kernel)
theorem hw_281 : (Jvm.Cond.selects "LazyMotion$Program" ({ cls := "LazyMotion$Program", name := "changeEnd", desc := "(IIII)I" } : Jvm.MethodName) ({ cls := "LazyMotion$Program", name := "changeEnd", desc := "(IIII)I" } : Jvm.MethodName)) ∈ lw_g := wk_in 281 (by decide +kernel) (by decide +kernel)
theorem hw_282 : (Jvm.Cond.code ({ cls := "LazyMotion$Program", name := "changeEnd", desc := "(IIII)I" } : Jvm.MethodName) prog_4_method_4_code (5 : Nat) (Option.some Jvm.ClassFile.FieldType.int)) ∈ lw_g := wk_in 282 (by decide +kernel) (by decide +kernel)
theorem hw_291 : (Jvm.Cond.methodLink "LazyMotion" (56 : Nat) ({ cls := "LazyMotion", name := "isStatement", desc := "(IIIII)Z" } : Jvm.MethodName)) ∈ lw_g := wk_in 291 (by decide +kernel) (by decide +kernel)
theorem hw_292 : (Jvm.Cond.static ({ cls := "LazyMotion", name := "isStatement", desc := "(IIIII)Z" } : Jvm.MethodName)) ∈ lw_g := wk_in 292 (by decide +kernel) (by decide +kernel)
theorem hw_293 : (Jvm.Cond.code ({ cls := "LazyMotion", name := "isStatement", desc := "(IIIII)Z" } : Jvm.MethodName) prog_1_method_15_code (5 : Nat) (Option.some Jvm.ClassFile.FieldType.boolean)) ∈ lw_g := wk_in 293 (by decide +kernel) (by decide +kernel)
theorem hw_294 : (Jvm.Cond.methodLink "LazyMotion" (158 : Nat) ({ cls := "LazyMotion", name := "isVariable", desc := "(I)Z" } : Jvm.MethodName)) ∈ lw_g := wk_in 294 (by decide +kernel) (by decide +kernel)
theorem hw_295 : (Jvm.Cond.static ({ cls := "LazyMotion", name := "isVariable", desc := "(I)Z" } : Jvm.MethodName)) ∈ lw_g := wk_in 295 (by decide +kernel) (by decide +kernel)
theorem hw_296 : (Jvm.Cond.code ({ cls := "LazyMotion", name := "isVariable", desc := "(I)Z" } : Jvm.MethodName) prog_1_method_17_code (1 : Nat) (Option.some Jvm.ClassFile.FieldType.boolean)) ∈ lw_g := wk_in 296 (by decide +kernel) (by decide +kernel)
theorem hw_313 : (Jvm.Cond.methodLink "LazyMotion" (65 : Nat) ({ cls := "LazyMotion$Program", name := "takesStatement", desc := "()Z" } : Jvm.MethodName)) ∈ lw_g := wk_in 313 (by decide +kernel) (by decide +kernel)
theorem hw_314 : (Jvm.Cond.instanceMethod ({ cls := "LazyMotion$Program", name := "takesStatement", desc := "()Z" } : Jvm.MethodName)) ∈ lw_g := wk_in 314 (by decide +kernel) (by decide +kernel)
theorem hw_315 : (Jvm.Cond.selects "LazyMotion$Program" ({ cls := "LazyMotion$Program", name := "takesStatement", desc := "()Z" } : Jvm.MethodName) ({ cls := "LazyMotion$Program", name := "takesStatement", desc := "()Z" } : Jvm.MethodName)) ∈ lw_g := wk_in 315 (by decide +kernel) (by decide +kernel)
theorem hw_316 : (Jvm.Cond.code ({ cls := "LazyMotion$Program", name := "takesStatement", desc := "()Z" } : Jvm.MethodName) prog_4_method_5_code (1 : Nat) (Option.some Jvm.ClassFile.FieldType.boolean)) ∈ lw_g := wk_in 316 (by decide +kernel) (by decide +kernel)
theorem hw_318 : (Jvm.Cond.methodLink "LazyMotion" (71 : Nat) ({ cls := "LazyMotion$Program", name := "findOrAddExpression", desc := "(III)I" } : Jvm.MethodName)) ∈ lw_g := wk_in 318 (by decide +kernel) (by decide +kernel)
theorem hw_319 : (Jvm.Cond.instanceMethod ({ cls := "LazyMotion$Program", name := "findOrAddExpression", desc := "(III)I" } : Jvm.MethodName)) ∈ lw_g := wk_in 319 (by decide +kernel) (by decide +kernel)
theorem hw_320 : (Jvm.Cond.selects "LazyMotion$Program" ({ cls := "LazyMotion$Program", name := "findOrAddExpression", desc := "(III)I" } : Jvm.MethodName) ({ cls := "LazyMotion$Program", name := "findOrAddExpression", desc := "(III)I" } : Jvm.MethodName)) ∈ lw_g := wk_in 320 (by decide +kernel) (by decide +kernel)
theorem hw_321 : (Jvm.Cond.code ({ cls := "LazyMotion$Program", name := "findOrAddExpression", desc := "(III)I" } : Jvm.MethodName) prog_4_method_8_code (5 : Nat) (Option.some Jvm.ClassFile.FieldType.int)) ∈ lw_g := wk_in 321 (by decide +kernel) (by decide +kernel)
theorem hw_322 : (Jvm.Cond.methodLink "LazyMotion$Program" (57 : Nat) ({ cls := "LazyMotion$Program", name := "findExpression", desc := "(III)I" } : Jvm.MethodName)) ∈ lw_g := wk_in 322 (by decide +kernel) (by decide +kernel)
theorem hw_323 : (Jvm.Cond.instanceMethod ({ cls := "LazyMotion$Program", name := "findExpression", desc := "(III)I" } : Jvm.MethodName)) ∈ lw_g := wk_in 323 (by decide +kernel) (by decide +kernel)
theorem hw_324 : (Jvm.Cond.selects "LazyMotion$Program" ({ cls := "LazyMotion$Program", name := "findExpression", desc := "(III)I" } : Jvm.MethodName) ({ cls := "LazyMotion$Program", name := "findExpression", desc := "(III)I" } : Jvm.MethodName)) ∈ lw_g := wk_in 324 (by decide +kernel) (by decide +kernel)
theorem hw_325 : (Jvm.Cond.code ({ cls := "LazyMotion$Program", name := "findExpression", desc := "(III)I" } : Jvm.MethodName) prog_4_method_7_code (5 : Nat) (Option.some Jvm.ClassFile.FieldType.int)) ∈ lw_g := wk_in 325 (by decide +kernel) (by decide +kernel)
theorem hw_338 : (Jvm.Cond.methodLink "LazyMotion" (80 : Nat) ({ cls := "LazyMotion$Program", name := "hasBlock", desc := "(I)Z" } : Jvm.MethodName)) ∈ lw_g := wk_in 338 (by decide +kernel) (by decide +kernel)
theorem hw_339 : (Jvm.Cond.instanceMethod ({ cls := "LazyMotion$Program", name := "hasBlock", desc := "(I)Z" } : Jvm.MethodName)) ∈ lw_g := wk_in 339 (by decide +kernel) (by decide +kernel)
theorem hw_340 : (Jvm.Cond.selects "LazyMotion$Program" ({ cls := "LazyMotion$Program", name := "hasBlock", desc := "(I)Z" } : Jvm.MethodName) ({ cls := "LazyMotion$Program", name := "hasBlock", desc := "(I)Z" } : Jvm.MethodName)) ∈ lw_g := wk_in 340 (by decide +kernel) (by decide +kernel)
theorem hw_341 : (Jvm.Cond.code ({ cls := "LazyMotion$Program", name := "hasBlock", desc := "(I)Z" } : Jvm.MethodName) prog_4_method_2_code (2 : Nat) (Option.some Jvm.ClassFile.FieldType.boolean)) ∈ lw_g := wk_in 341 (by decide +kernel) (by decide +kernel)
theorem hw_342 : (Jvm.Cond.methodLink "LazyMotion" (84 : Nat) ({ cls := "LazyMotion", name := "isEnd", desc := "(IIII)Z" } : Jvm.MethodName)) ∈ lw_g := wk_in 342 (by decide +kernel) (by decide +kernel)
theorem hw_343 : (Jvm.Cond.static ({ cls := "LazyMotion", name := "isEnd", desc := "(IIII)Z" } : Jvm.MethodName)) ∈ lw_g := wk_in 343 (by decide +kernel) (by decide +kernel)
theorem hw_344 : (Jvm.Cond.code ({ cls := "LazyMotion", name := "isEnd", desc := "(IIII)Z" } : Jvm.MethodName) prog_1_method_16_code (4 : Nat) (Option.some Jvm.ClassFile.FieldType.boolean)) ∈ lw_g := wk_in 344 (by decide +kernel) (by decide +kernel)
theorem hw_345 : (Jvm.Cond.methodLink "LazyMotion" (177 : Nat) ({ cls := "LazyMotion", name := "mayBeBlock", desc := "(I)Z" } : Jvm.MethodName)) ∈ lw_g := wk_in 345 (by decide +kernel) (by decide +kernel)
theorem hw_346 : (Jvm.Cond.static ({ cls := "LazyMotion", name := "mayBeBlock", desc := "(I)Z" } : Jvm.MethodName)) ∈ lw_g := wk_in 346 (by decide +kernel) (by decide +kernel)
theorem hw_347 : (Jvm.Cond.code ({ cls := "LazyMotion", name := "mayBeBlock", desc := "(I)Z" } : Jvm.MethodName) prog_1_method_18_code (1 : Nat) (Option.some Jvm.ClassFile.FieldType.boolean)) ∈ lw_g := wk_in 347 (by decide +kernel) (by decide +kernel)
theorem hw_349 : (Jvm.Cond.methodLink "LazyMotion" (90 : Nat) ({ cls := "LazyMotion$Program", name := "changeEnd", desc := "(IIII)I" } : Jvm.MethodName)) ∈ lw_g := wk_in 349 (by decide +kernel) (by decide +kernel)
theorem hw_359 : (Jvm.Cond.methodLink "LazyMotion" (96 : Nat) ({ cls := "LazyMotion$Program", name := "isWhole", desc := "()Z" } : Jvm.MethodName)) ∈ lw_g := wk_in 359 (by decide +kernel) (by decide +kernel)
theorem hw_360 : (Jvm.Cond.instanceMethod ({ cls := "LazyMotion$Program", name := "isWhole", desc := "()Z" } : Jvm.MethodName)) ∈ lw_g := wk_in 360 (by decide +kernel) (by decide +kernel)
theorem hw_361 : (Jvm.Cond.selects "LazyMotion$Program" ({ cls := "LazyMotion$Program", name := "isWhole", desc := "()Z" } : Jvm.MethodName) ({ cls := "LazyMotion$Program", name := "isWhole", desc := "()Z" } : Jvm.MethodName)) ∈ lw_g := wk_in 361 (by decide +kernel) (by decide +kernel)
theorem hw_362 : (Jvm.Cond.code ({ cls := "LazyMotion$Program", name := "isWhole", desc := "()Z" } : Jvm.MethodName) prog_4_method_9_code (2 : Nat) (Option.some Jvm.ClassFile.FieldType.boolean)) ∈ lw_g := wk_in 362 (by decide +kernel) (by decide +kernel)
theorem hw_379 : (Jvm.Cond.methodLink "LazyMotion" (104 : Nat) ({ cls := "LazyMotion$Motion", name := "findSets", desc := "()V" } : Jvm.MethodName)) ∈ lw_g := wk_in 379 (by decide +kernel) (by decide +kernel)
theorem hw_380 : (Jvm.Cond.instanceMethod ({ cls := "LazyMotion$Motion", name := "findSets", desc := "()V" } : Jvm.MethodName)) ∈ lw_g := wk_in 380 (by decide +kernel) (by decide +kernel)
theorem hw_381 : (Jvm.Cond.selects "LazyMotion$Motion" ({ cls := "LazyMotion$Motion", name := "findSets", desc := "()V" } : Jvm.MethodName) ({ cls := "LazyMotion$Motion", name := "findSets", desc := "()V" } : Jvm.MethodName)) ∈ lw_g := wk_in 381 (by decide +kernel) (by decide +kernel)
theorem hw_382 : (Jvm.Cond.code ({ cls := "LazyMotion$Motion", name := "findSets", desc := "()V" } : Jvm.MethodName) prog_3_method_2_code (2 : Nat) (Option.none : Option Jvm.ClassFile.FieldType)) ∈ lw_g := wk_in 382 (by decide +kernel) (by decide +kernel)
theorem hw_383 : (Jvm.Cond.methodLink "LazyMotion$Motion" (47 : Nat) ({ cls := "LazyMotion$Motion", name := "findReached", desc := "()V" } : Jvm.MethodName)) ∈ lw_g := wk_in 383 (by decide +kernel) (by decide +kernel)
theorem hw_385 : (Jvm.Cond.instanceMethod ({ cls := "LazyMotion$Motion", name := "findReached", desc := "()V" } : Jvm.MethodName)) ∈ lw_g := wk_in 385 (by decide +kernel) (by decide +kernel)
theorem hw_386 : (Jvm.Cond.code ({ cls := "LazyMotion$Motion", name := "findReached", desc := "()V" } : Jvm.MethodName) prog_3_method_8_code (4 : Nat) (Option.none : Option Jvm.ClassFile.FieldType)) ∈ lw_g := wk_in 386 (by decide +kernel) (by decide +kernel)
theorem hw_387 : (Jvm.Cond.methodLink "LazyMotion$Motion" (95 : Nat) ({ cls := "LazyMotion$Motion", name := "reach", desc := "(I)Z" } : Jvm.MethodName)) ∈ lw_g := wk_in 387 (by decide +kernel) (by decide +kernel)
theorem hw_389 : (Jvm.Cond.instanceMethod ({ cls := "LazyMotion$Motion", name := "reach", desc := "(I)Z" } : Jvm.MethodName)) ∈ lw_g := wk_in 389 (by decide +kernel) (by decide +kernel)
theorem hw_390 : (Jvm.Cond.code ({ cls := "LazyMotion$Motion", name := "reach", desc := "(I)Z" } : Jvm.MethodName) prog_3_method_9_code (2 : Nat) (Option.some Jvm.ClassFile.FieldType.boolean)) ∈ lw_g := wk_in 390 (by decide +kernel) (by decide +kernel)
theorem hw_391 : (Jvm.Cond.methodLink "LazyMotion$Motion" (56 : Nat) ({ cls := "LazyMotion$Motion", name := "readBlock", desc := "(I)V" } : Jvm.MethodName)) ∈ lw_g := wk_in 391 (by decide +kernel) (by decide +kernel)
theorem hw_393 : (Jvm.Cond.instanceMethod ({ cls := "LazyMotion$Motion", name := "readBlock", desc := "(I)V" } : Jvm.MethodName)) ∈ lw_g := wk_in 393 (by decide +kernel) (by decide +kernel)
theorem hw_394 : (Jvm.Cond.code ({ cls := "LazyMotion$Motion", name := "readBlock", desc := "(I)V" } : Jvm.MethodName) prog_3_method_10_code (6 : Nat) (Option.none : Option Jvm.ClassFile.FieldType)) ∈ lw_g := wk_in 394 (by decide +kernel) (by decide +kernel)
theorem hw_395 : (Jvm.Cond.constantLong "LazyMotion$Motion" (72 : Nat) (-1 : Int64)) ∈ lw_g := wk_in 395 (by decide +kernel) (by decide +kernel)
theorem hw_396 : (Jvm.Cond.methodLink "LazyMotion$Motion" (60 : Nat) ({ cls := "LazyMotion$Motion", name := "fillSets", desc := "(I)V" } : Jvm.MethodName)) ∈ lw_g := wk_in 396 (by decide +kernel) (by decide +kernel)
theorem hw_398 : (Jvm.Cond.instanceMethod ({ cls := "LazyMotion$Motion", name := "fillSets", desc := "(I)V" } : Jvm.MethodName)) ∈ lw_g := wk_in 398 (by decide +kernel) (by decide +kernel)
theorem hw_399 : (Jvm.Cond.code ({ cls := "LazyMotion$Motion", name := "fillSets", desc := "(I)V" } : Jvm.MethodName) prog_3_method_11_code (4 : Nat) (Option.none : Option Jvm.ClassFile.FieldType)) ∈ lw_g := wk_in 399 (by decide +kernel) (by decide +kernel)
theorem hw_400 : (Jvm.Cond.methodLink "LazyMotion$Motion" (63 : Nat) ({ cls := "LazyMotion$Motion", name := "flowThere", desc := "()V" } : Jvm.MethodName)) ∈ lw_g := wk_in 400 (by decide +kernel) (by decide +kernel)
theorem hw_402 : (Jvm.Cond.instanceMethod ({ cls := "LazyMotion$Motion", name := "flowThere", desc := "()V" } : Jvm.MethodName)) ∈ lw_g := wk_in 402 (by decide +kernel) (by decide +kernel)
theorem hw_403 : (Jvm.Cond.code ({ cls := "LazyMotion$Motion", name := "flowThere", desc := "()V" } : Jvm.MethodName) prog_3_method_12_code (4 : Nat) (Option.none : Option Jvm.ClassFile.FieldType)) ∈ lw_g := wk_in 403 (by decide +kernel) (by decide +kernel)
theorem hw_404 : (Jvm.Cond.methodLink "LazyMotion$Motion" (116 : Nat) ({ cls := "LazyMotion$Motion", name := "narrow", desc := "([JIJ)Z" } : Jvm.MethodName)) ∈ lw_g := wk_in 404 (by decide +kernel) (by decide +kernel)
theorem hw_405 : (Jvm.Cond.static ({ cls := "LazyMotion$Motion", name := "narrow", desc := "([JIJ)Z" } : Jvm.MethodName)) ∈ lw_g := wk_in 405 (by decide +kernel) (by decide +kernel)
theorem hw_406 : (Jvm.Cond.code ({ cls := "LazyMotion$Motion", name := "narrow", desc := "([JIJ)Z" } : Jvm.MethodName) prog_3_method_17_code (6 : Nat) (Option.some Jvm.ClassFile.FieldType.boolean)) ∈ lw_g := wk_in 406 (by decide +kernel) (by decide +kernel)
theorem hw_407 : (Jvm.Cond.methodLink "LazyMotion$Motion" (66 : Nat) ({ cls := "LazyMotion$Motion", name := "flowWanted", desc := "()V" } : Jvm.MethodName)) ∈ lw_g := wk_in 407 (by decide +kernel) (by decide +kernel)
theorem hw_409 : (Jvm.Cond.instanceMethod ({ cls := "LazyMotion$Motion", name := "flowWanted", desc := "()V" } : Jvm.MethodName)) ∈ lw_g := wk_in 409 (by decide +kernel) (by decide +kernel)
theorem hw_410 : (Jvm.Cond.code ({ cls := "LazyMotion$Motion", name := "flowWanted", desc := "()V" } : Jvm.MethodName) prog_3_method_13_code (4 : Nat) (Option.none : Option Jvm.ClassFile.FieldType)) ∈ lw_g := wk_in 410 (by decide +kernel) (by decide +kernel)
theorem hw_411 : (Jvm.Cond.methodLink "LazyMotion$Motion" (120 : Nat) ({ cls := "LazyMotion$Motion", name := "wantedByAll", desc := "(II)J" } : Jvm.MethodName)) ∈ lw_g := wk_in 411 (by decide +kernel) (by decide +kernel)
theorem hw_413 : (Jvm.Cond.instanceMethod ({ cls := "LazyMotion$Motion", name := "wantedByAll", desc := "(II)J" } : Jvm.MethodName)) ∈ lw_g := wk_in 413 (by decide +kernel) (by decide +kernel)
theorem hw_414 : (Jvm.Cond.code ({ cls := "LazyMotion$Motion", name := "wantedByAll", desc := "(II)J" } : Jvm.MethodName) prog_3_method_14_code (3 : Nat) (Option.some Jvm.ClassFile.FieldType.long)) ∈ lw_g := wk_in 414 (by decide +kernel) (by decide +kernel)
theorem hw_415 : (Jvm.Cond.methodLink "LazyMotion$Motion" (69 : Nat) ({ cls := "LazyMotion$Motion", name := "flowLate", desc := "()V" } : Jvm.MethodName)) ∈ lw_g := wk_in 415 (by decide +kernel) (by decide +kernel)
theorem hw_417 : (Jvm.Cond.instanceMethod ({ cls := "LazyMotion$Motion", name := "flowLate", desc := "()V" } : Jvm.MethodName)) ∈ lw_g := wk_in 417 (by decide +kernel) (by decide +kernel)
theorem hw_418 : (Jvm.Cond.code ({ cls := "LazyMotion$Motion", name := "flowLate", desc := "()V" } : Jvm.MethodName) prog_3_method_15_code (4 : Nat) (Option.none : Option Jvm.ClassFile.FieldType)) ∈ lw_g := wk_in 418 (by decide +kernel) (by decide +kernel)
theorem hw_419 : (Jvm.Cond.methodLink "LazyMotion$Motion" (91 : Nat) ({ cls := "LazyMotion$Motion", name := "laterOn", desc := "(II)J" } : Jvm.MethodName)) ∈ lw_g := wk_in 419 (by decide +kernel) (by decide +kernel)
theorem hw_421 : (Jvm.Cond.instanceMethod ({ cls := "LazyMotion$Motion", name := "laterOn", desc := "(II)J" } : Jvm.MethodName)) ∈ lw_g := wk_in 421 (by decide +kernel) (by decide +kernel)
theorem hw_422 : (Jvm.Cond.code ({ cls := "LazyMotion$Motion", name := "laterOn", desc := "(II)J" } : Jvm.MethodName) prog_3_method_7_code (5 : Nat) (Option.some Jvm.ClassFile.FieldType.long)) ∈ lw_g := wk_in 422 (by decide +kernel) (by decide +kernel)
theorem hw_423 : (Jvm.Cond.methodLink "LazyMotion$Motion" (123 : Nat) ({ cls := "LazyMotion$Motion", name := "narrowLate", desc := "(II)Z" } : Jvm.MethodName)) ∈ lw_g := wk_in 423 (by decide +kernel) (by decide +kernel)
theorem hw_425 : (Jvm.Cond.instanceMethod ({ cls := "LazyMotion$Motion", name := "narrowLate", desc := "(II)Z" } : Jvm.MethodName)) ∈ lw_g := wk_in 425 (by decide +kernel) (by decide +kernel)
theorem hw_426 : (Jvm.Cond.code ({ cls := "LazyMotion$Motion", name := "narrowLate", desc := "(II)Z" } : Jvm.MethodName) prog_3_method_16_code (3 : Nat) (Option.some Jvm.ClassFile.FieldType.boolean)) ∈ lw_g := wk_in 426 (by decide +kernel) (by decide +kernel)
theorem hw_427 : (Jvm.Cond.methodLink "LazyMotion" (107 : Nat) ({ cls := "LazyMotion$Motion", name := "countMoved", desc := "()I" } : Jvm.MethodName)) ∈ lw_g := wk_in 427 (by decide +kernel) (by decide +kernel)
theorem hw_428 : (Jvm.Cond.instanceMethod ({ cls := "LazyMotion$Motion", name := "countMoved", desc := "()I" } : Jvm.MethodName)) ∈ lw_g := wk_in 428 (by decide +kernel) (by decide +kernel)
theorem hw_429 : (Jvm.Cond.selects "LazyMotion$Motion" ({ cls := "LazyMotion$Motion", name := "countMoved", desc := "()I" } : Jvm.MethodName) ({ cls := "LazyMotion$Motion", name := "countMoved", desc := "()I" } : Jvm.MethodName)) ∈ lw_g := wk_in 429 (by decide +kernel) (by decide +kernel)
theorem hw_430 : (Jvm.Cond.code ({ cls := "LazyMotion$Motion", name := "countMoved", desc := "()I" } : Jvm.MethodName) prog_3_method_3_code (4 : Nat) (Option.some Jvm.ClassFile.FieldType.int)) ∈ lw_g := wk_in 430 (by decide +kernel) (by decide +kernel)
theorem hw_431 : (Jvm.Cond.methodLink "LazyMotion$Motion" (74 : Nat) ({ cls := "java/lang/Long", name := "bitCount", desc := "(J)I" } : Jvm.MethodName)) ∈ lw_g := wk_in 431 (by decide +kernel) (by decide +kernel)
theorem hw_432 : (Jvm.Cond.static ({ cls := "java/lang/Long", name := "bitCount", desc := "(J)I" } : Jvm.MethodName)) ∈ lw_g := wk_in 432 (by decide +kernel) (by decide +kernel)
theorem hw_433 : (Jvm.Cond.code ({ cls := "java/lang/Long", name := "bitCount", desc := "(J)I" } : Jvm.MethodName) prog_11_method_50_code (2 : Nat) (Option.some Jvm.ClassFile.FieldType.int)) ∈ lw_g := wk_in 433 (by decide +kernel) (by decide +kernel)
theorem hw_434 : (Jvm.Cond.constantLong "java/lang/Long" (314 : Nat) (6148914691236517205 : Int64)) ∈ lw_g := wk_in 434 (by decide +kernel) (by decide +kernel)
theorem hw_435 : (Jvm.Cond.constantLong "java/lang/Long" (316 : Nat) (3689348814741910323 : Int64)) ∈ lw_g := wk_in 435 (by decide +kernel) (by decide +kernel)
theorem hw_436 : (Jvm.Cond.constantLong "java/lang/Long" (318 : Nat) (1085102592571150095 : Int64)) ∈ lw_g := wk_in 436 (by decide +kernel) (by decide +kernel)
theorem hw_462 : (Jvm.Cond.methodLink "LazyMotion" (117 : Nat) ({ cls := "LazyMotion$Motion", name := "setOf", desc := "(II)J" } : Jvm.MethodName)) ∈ lw_g := wk_in 462 (by decide +kernel) (by decide +kernel)
theorem hw_463 : (Jvm.Cond.instanceMethod ({ cls := "LazyMotion$Motion", name := "setOf", desc := "(II)J" } : Jvm.MethodName)) ∈ lw_g := wk_in 463 (by decide +kernel) (by decide +kernel)
theorem hw_464 : (Jvm.Cond.selects "LazyMotion$Motion" ({ cls := "LazyMotion$Motion", name := "setOf", desc := "(II)J" } : Jvm.MethodName) ({ cls := "LazyMotion$Motion", name := "setOf", desc := "(II)J" } : Jvm.MethodName)) ∈ lw_g := wk_in 464 (by decide +kernel) (by decide +kernel)
theorem hw_465 : (Jvm.Cond.code ({ cls := "LazyMotion$Motion", name := "setOf", desc := "(II)J" } : Jvm.MethodName) prog_3_method_4_code (3 : Nat) (Option.some Jvm.ClassFile.FieldType.long)) ∈ lw_g := wk_in 465 (by decide +kernel) (by decide +kernel)
theorem hw_474 : (Jvm.Cond.methodLink "LazyMotion" (121 : Nat) ({ cls := "LazyMotion$Motion", name := "hasEdge", desc := "(II)Z" } : Jvm.MethodName)) ∈ lw_g := wk_in 474 (by decide +kernel) (by decide +kernel)
theorem hw_475 : (Jvm.Cond.instanceMethod ({ cls := "LazyMotion$Motion", name := "hasEdge", desc := "(II)Z" } : Jvm.MethodName)) ∈ lw_g := wk_in 475 (by decide +kernel) (by decide +kernel)
theorem hw_476 : (Jvm.Cond.selects "LazyMotion$Motion" ({ cls := "LazyMotion$Motion", name := "hasEdge", desc := "(II)Z" } : Jvm.MethodName) ({ cls := "LazyMotion$Motion", name := "hasEdge", desc := "(II)Z" } : Jvm.MethodName)) ∈ lw_g := wk_in 476 (by decide +kernel) (by decide +kernel)
theorem hw_477 : (Jvm.Cond.code ({ cls := "LazyMotion$Motion", name := "hasEdge", desc := "(II)Z" } : Jvm.MethodName) prog_3_method_5_code (3 : Nat) (Option.some Jvm.ClassFile.FieldType.boolean)) ∈ lw_g := wk_in 477 (by decide +kernel) (by decide +kernel)
theorem hw_478 : (Jvm.Cond.methodLink "LazyMotion$Motion" (80 : Nat) ({ cls := "LazyMotion$Program", name := "hasBlock", desc := "(I)Z" } : Jvm.MethodName)) ∈ lw_g := wk_in 478 (by decide +kernel) (by decide +kernel)
theorem hw_495 : (Jvm.Cond.methodLink "LazyMotion" (130 : Nat) ({ cls := "LazyMotion$Motion", name := "putOn", desc := "(II)J" } : Jvm.MethodName)) ∈ lw_g := wk_in 495 (by decide +kernel) (by decide +kernel)
theorem hw_496 : (Jvm.Cond.instanceMethod ({ cls := "LazyMotion$Motion", name := "putOn", desc := "(II)J" } : Jvm.MethodName)) ∈ lw_g := wk_in 496 (by decide +kernel) (by decide +kernel)
theorem hw_497 : (Jvm.Cond.selects "LazyMotion$Motion" ({ cls := "LazyMotion$Motion", name := "putOn", desc := "(II)J" } : Jvm.MethodName) ({ cls := "LazyMotion$Motion", name := "putOn", desc := "(II)J" } : Jvm.MethodName)) ∈ lw_g := wk_in 497 (by decide +kernel) (by decide +kernel)
theorem hw_498 : (Jvm.Cond.code ({ cls := "LazyMotion$Motion", name := "putOn", desc := "(II)J" } : Jvm.MethodName) prog_3_method_6_code (3 : Nat) (Option.some Jvm.ClassFile.FieldType.long)) ∈ lw_g := wk_in 498 (by decide +kernel) (by decide +kernel)
theorem hw_506 : (Jvm.Cond.methodLink "LazyMotion" (133 : Nat) ({ cls := "LazyMotion$Program", name := "findExpression", desc := "(III)I" } : Jvm.MethodName)) ∈ lw_g := wk_in 506 (by decide +kernel) (by decide +kernel)
theorem hw_515 : (Jvm.Cond.methodLink "LazyMotion" (138 : Nat) ({ cls := "LazyMotion$Machine", name := "reset", desc := "(III)V" } : Jvm.MethodName)) ∈ lw_g := wk_in 515 (by decide +kernel) (by decide +kernel)
theorem hw_516 : (Jvm.Cond.instanceMethod ({ cls := "LazyMotion$Machine", name := "reset", desc := "(III)V" } : Jvm.MethodName)) ∈ lw_g := wk_in 516 (by decide +kernel) (by decide +kernel)
theorem hw_517 : (Jvm.Cond.selects "LazyMotion$Machine" ({ cls := "LazyMotion$Machine", name := "reset", desc := "(III)V" } : Jvm.MethodName) ({ cls := "LazyMotion$Machine", name := "reset", desc := "(III)V" } : Jvm.MethodName)) ∈ lw_g := wk_in 517 (by decide +kernel) (by decide +kernel)
theorem hw_518 : (Jvm.Cond.code ({ cls := "LazyMotion$Machine", name := "reset", desc := "(III)V" } : Jvm.MethodName) prog_2_method_2_code (4 : Nat) (Option.none : Option Jvm.ClassFile.FieldType)) ∈ lw_g := wk_in 518 (by decide +kernel) (by decide +kernel)
theorem hw_519 : (Jvm.Cond.methodLink "LazyMotion$Machine" (42 : Nat) ({ cls := "java/util/Arrays", name := "fill", desc := "([II)V" } : Jvm.MethodName)) ∈ lw_g := wk_in 519 (by decide +kernel) (by decide +kernel)
theorem hw_520 : (Jvm.Cond.static ({ cls := "java/util/Arrays", name := "fill", desc := "([II)V" } : Jvm.MethodName)) ∈ lw_g := wk_in 520 (by decide +kernel) (by decide +kernel)
theorem hw_521 : (Jvm.Cond.code ({ cls := "java/util/Arrays", name := "fill", desc := "([II)V" } : Jvm.MethodName) prog_16_method_103_code (4 : Nat) (Option.none : Option Jvm.ClassFile.FieldType)) ∈ lw_g := wk_in 521 (by decide +kernel) (by decide +kernel)
theorem hw_522 : (Jvm.Cond.methodLink "LazyMotion" (142 : Nat) ({ cls := "LazyMotion$Machine", name := "goThrough", desc := "(Z)V" } : Jvm.MethodName)) ∈ lw_g := wk_in 522 (by decide +kernel) (by decide +kernel)
theorem hw_523 : (Jvm.Cond.instanceMethod ({ cls := "LazyMotion$Machine", name := "goThrough", desc := "(Z)V" } : Jvm.MethodName)) ∈ lw_g := wk_in 523 (by decide +kernel) (by decide +kernel)
theorem hw_524 : (Jvm.Cond.selects "LazyMotion$Machine" ({ cls := "LazyMotion$Machine", name := "goThrough", desc := "(Z)V" } : Jvm.MethodName) ({ cls := "LazyMotion$Machine", name := "goThrough", desc := "(Z)V" } : Jvm.MethodName)) ∈ lw_g := wk_in 524 (by decide +kernel) (by decide +kernel)
theorem hw_525 : (Jvm.Cond.code ({ cls := "LazyMotion$Machine", name := "goThrough", desc := "(Z)V" } : Jvm.MethodName) prog_2_method_3_code (5 : Nat) (Option.none : Option Jvm.ClassFile.FieldType)) ∈ lw_g := wk_in 525 (by decide +kernel) (by decide +kernel)
theorem hw_526 : (Jvm.Cond.methodLink "LazyMotion$Machine" (48 : Nat) ({ cls := "LazyMotion$Motion", name := "putOn", desc := "(II)J" } : Jvm.MethodName)) ∈ lw_g := wk_in 526 (by decide +kernel) (by decide +kernel)
theorem hw_527 : (Jvm.Cond.methodLink "LazyMotion$Machine" (54 : Nat) ({ cls := "LazyMotion$Machine", name := "goAlong", desc := "(J)V" } : Jvm.MethodName)) ∈ lw_g := wk_in 527 (by decide +kernel) (by decide +kernel)
theorem hw_529 : (Jvm.Cond.instanceMethod ({ cls := "LazyMotion$Machine", name := "goAlong", desc := "(J)V" } : Jvm.MethodName)) ∈ lw_g := wk_in 529 (by decide +kernel) (by decide +kernel)
theorem hw_530 : (Jvm.Cond.code ({ cls := "LazyMotion$Machine", name := "goAlong", desc := "(J)V" } : Jvm.MethodName) prog_2_method_4_code (4 : Nat) (Option.none : Option Jvm.ClassFile.FieldType)) ∈ lw_g := wk_in 530 (by decide +kernel) (by decide +kernel)
theorem hw_531 : (Jvm.Cond.methodLink "LazyMotion$Machine" (80 : Nat) ({ cls := "LazyMotion$Machine", name := "compute", desc := "(I)I" } : Jvm.MethodName)) ∈ lw_g := wk_in 531 (by decide +kernel) (by decide +kernel)
theorem hw_533 : (Jvm.Cond.instanceMethod ({ cls := "LazyMotion$Machine", name := "compute", desc := "(I)I" } : Jvm.MethodName)) ∈ lw_g := wk_in 533 (by decide +kernel) (by decide +kernel)
theorem hw_534 : (Jvm.Cond.code ({ cls := "LazyMotion$Machine", name := "compute", desc := "(I)I" } : Jvm.MethodName) prog_2_method_8_code (2 : Nat) (Option.some Jvm.ClassFile.FieldType.int)) ∈ lw_g := wk_in 534 (by decide +kernel) (by decide +kernel)
theorem hw_535 : (Jvm.Cond.methodLink "LazyMotion$Machine" (106 : Nat) ({ cls := "LazyMotion$Program", name := "valueOf", desc := "(I[I)I" } : Jvm.MethodName)) ∈ lw_g := wk_in 535 (by decide +kernel) (by decide +kernel)
theorem hw_536 : (Jvm.Cond.instanceMethod ({ cls := "LazyMotion$Program", name := "valueOf", desc := "(I[I)I" } : Jvm.MethodName)) ∈ lw_g := wk_in 536 (by decide +kernel) (by decide +kernel)
theorem hw_537 : (Jvm.Cond.selects "LazyMotion$Program" ({ cls := "LazyMotion$Program", name := "valueOf", desc := "(I[I)I" } : Jvm.MethodName) ({ cls := "LazyMotion$Program", name := "valueOf", desc := "(I[I)I" } : Jvm.MethodName)) ∈ lw_g := wk_in 537 (by decide +kernel) (by decide +kernel)
theorem hw_538 : (Jvm.Cond.code ({ cls := "LazyMotion$Program", name := "valueOf", desc := "(I[I)I" } : Jvm.MethodName) prog_4_method_10_code (5 : Nat) (Option.some Jvm.ClassFile.FieldType.int)) ∈ lw_g := wk_in 538 (by decide +kernel) (by decide +kernel)
theorem hw_539 : (Jvm.Cond.methodLink "LazyMotion$Machine" (62 : Nat) ({ cls := "LazyMotion$Machine", name := "goThroughBlock", desc := "(IJ)V" } : Jvm.MethodName)) ∈ lw_g := wk_in 539 (by decide +kernel) (by decide +kernel)
theorem hw_541 : (Jvm.Cond.instanceMethod ({ cls := "LazyMotion$Machine", name := "goThroughBlock", desc := "(IJ)V" } : Jvm.MethodName)) ∈ lw_g := wk_in 541 (by decide +kernel) (by decide +kernel)
theorem hw_542 : (Jvm.Cond.code ({ cls := "LazyMotion$Machine", name := "goThroughBlock", desc := "(IJ)V" } : Jvm.MethodName) prog_2_method_5_code (10 : Nat) (Option.none : Option Jvm.ClassFile.FieldType)) ∈ lw_g := wk_in 542 (by decide +kernel) (by decide +kernel)
theorem hw_543 : (Jvm.Cond.constantLong "LazyMotion$Machine" (96 : Nat) (-1 : Int64)) ∈ lw_g := wk_in 543 (by decide +kernel) (by decide +kernel)
theorem hw_544 : (Jvm.Cond.methodLink "LazyMotion$Machine" (98 : Nat) ({ cls := "LazyMotion$Machine", name := "goThroughSimple", desc := "(III)V" } : Jvm.MethodName)) ∈ lw_g := wk_in 544 (by decide +kernel) (by decide +kernel)
theorem hw_546 : (Jvm.Cond.instanceMethod ({ cls := "LazyMotion$Machine", name := "goThroughSimple", desc := "(III)V" } : Jvm.MethodName)) ∈ lw_g := wk_in 546 (by decide +kernel) (by decide +kernel)
theorem hw_547 : (Jvm.Cond.code ({ cls := "LazyMotion$Machine", name := "goThroughSimple", desc := "(III)V" } : Jvm.MethodName) prog_2_method_6_code (4 : Nat) (Option.none : Option Jvm.ClassFile.FieldType)) ∈ lw_g := wk_in 547 (by decide +kernel) (by decide +kernel)
theorem hw_548 : (Jvm.Cond.methodLink "LazyMotion$Machine" (102 : Nat) ({ cls := "LazyMotion$Machine", name := "giveOut", desc := "(I)V" } : Jvm.MethodName)) ∈ lw_g := wk_in 548 (by decide +kernel) (by decide +kernel)
theorem hw_550 : (Jvm.Cond.instanceMethod ({ cls := "LazyMotion$Machine", name := "giveOut", desc := "(I)V" } : Jvm.MethodName)) ∈ lw_g := wk_in 550 (by decide +kernel) (by decide +kernel)
theorem hw_551 : (Jvm.Cond.code ({ cls := "LazyMotion$Machine", name := "giveOut", desc := "(I)V" } : Jvm.MethodName) prog_2_method_7_code (2 : Nat) (Option.none : Option Jvm.ClassFile.FieldType)) ∈ lw_g := wk_in 551 (by decide +kernel) (by decide +kernel)
theorem hw_582 : (Jvm.Cond.fieldLink "LazyMotionModel" (74 : Nat) "LazyMotionModel" "thrown" "I") ∈ lw_g := wk_in 582 (by decide +kernel) (by decide +kernel)
theorem hw_583 : (Jvm.Cond.fieldLink "LazyMotionModel" (78 : Nat) "LazyMotionModel" "blocks" "I") ∈ lw_g := wk_in 583 (by decide +kernel) (by decide +kernel)
theorem hw_584 : (Jvm.Cond.fieldLink "LazyMotionModel" (7 : Nat) "LazyMotionModel" "sizes" "[I") ∈ lw_g := wk_in 584 (by decide +kernel) (by decide +kernel)
theorem hw_585 : (Jvm.Cond.fieldLink "LazyMotionModel" (13 : Nat) "LazyMotionModel" "statements" "[I") ∈ lw_g := wk_in 585 (by decide +kernel) (by decide +kernel)
theorem hw_586 : (Jvm.Cond.fieldLink "LazyMotionModel" (16 : Nat) "LazyMotionModel" "ends" "[I") ∈ lw_g := wk_in 586 (by decide +kernel) (by decide +kernel)
theorem hw_587 : (Jvm.Cond.fieldLink "LazyMotionModel" (89 : Nat) "LazyMotionModel" "expressions" "I") ∈ lw_g := wk_in 587 (by decide +kernel) (by decide +kernel)
theorem hw_588 : (Jvm.Cond.fieldLink "LazyMotionModel" (19 : Nat) "LazyMotionModel" "left" "[I") ∈ lw_g := wk_in 588 (by decide +kernel) (by decide +kernel)
theorem hw_589 : (Jvm.Cond.fieldLink "LazyMotionModel" (22 : Nat) "LazyMotionModel" "operator" "[I") ∈ lw_g := wk_in 589 (by decide +kernel) (by decide +kernel)
theorem hw_590 : (Jvm.Cond.fieldLink "LazyMotionModel" (25 : Nat) "LazyMotionModel" "right" "[I") ∈ lw_g := wk_in 590 (by decide +kernel) (by decide +kernel)
theorem hw_591 : (Jvm.Cond.fieldLink "LazyMotionModel" (85 : Nat) "LazyMotionModel" "planned" "Z") ∈ lw_g := wk_in 591 (by decide +kernel) (by decide +kernel)
theorem hw_592 : (Jvm.Cond.fieldLink "LazyMotionModel" (152 : Nat) "LazyMotionModel" "plans" "I") ∈ lw_g := wk_in 592 (by decide +kernel) (by decide +kernel)
theorem hw_593 : (Jvm.Cond.fieldLink "LazyMotionModel" (139 : Nat) "LazyMotionModel" "moved" "I") ∈ lw_g := wk_in 593 (by decide +kernel) (by decide +kernel)
theorem hw_594 : (Jvm.Cond.fieldLink "LazyMotionModel" (28 : Nat) "LazyMotionModel" "reached" "[Z") ∈ lw_g := wk_in 594 (by decide +kernel) (by decide +kernel)
theorem hw_595 : (Jvm.Cond.fieldLink "LazyMotionModel" (32 : Nat) "LazyMotionModel" "sets" "[I") ∈ lw_g := wk_in 595 (by decide +kernel) (by decide +kernel)
theorem hw_596 : (Jvm.Cond.fieldLink "LazyMotionModel" (35 : Nat) "LazyMotionModel" "puts" "[I") ∈ lw_g := wk_in 596 (by decide +kernel) (by decide +kernel)
theorem hw_597 : (Jvm.Cond.fieldLink "LazyMotionModel" (38 : Nat) "LazyMotionModel" "changes" "[Z") ∈ lw_g := wk_in 597 (by decide +kernel) (by decide +kernel)
theorem hw_598 : (Jvm.Cond.fieldLink "LazyMotionModel" (41 : Nat) "LazyMotionModel" "asks" "[Z") ∈ lw_g := wk_in 598 (by decide +kernel) (by decide +kernel)
theorem hw_599 : (Jvm.Cond.fieldLink "LazyMotionModel" (44 : Nat) "LazyMotionModel" "leaves" "[Z") ∈ lw_g := wk_in 599 (by decide +kernel) (by decide +kernel)
theorem hw_601 : (Jvm.Cond.fieldLink "LazyMotionModel" (50 : Nat) "LazyMotionModel" "behind" "[Z") ∈ lw_g := wk_in 601 (by decide +kernel) (by decide +kernel)
theorem hw_602 : (Jvm.Cond.fieldLink "LazyMotionModel" (53 : Nat) "LazyMotionModel" "wanted" "[Z") ∈ lw_g := wk_in 602 (by decide +kernel) (by decide +kernel)
theorem hw_604 : (Jvm.Cond.fieldLink "LazyMotionModel" (59 : Nat) "LazyMotionModel" "late" "[Z") ∈ lw_g := wk_in 604 (by decide +kernel) (by decide +kernel)
theorem hw_605 : (Jvm.Cond.fieldLink "LazyMotionModel" (62 : Nat) "LazyMotionModel" "values" "[I") ∈ lw_g := wk_in 605 (by decide +kernel) (by decide +kernel)
theorem hw_606 : (Jvm.Cond.fieldLink "LazyMotionModel" (65 : Nat) "LazyMotionModel" "temporary" "[I") ∈ lw_g := wk_in 606 (by decide +kernel) (by decide +kernel)
theorem hw_607 : (Jvm.Cond.fieldLink "LazyMotionModel" (68 : Nat) "LazyMotionModel" "counts" "[I") ∈ lw_g := wk_in 607 (by decide +kernel) (by decide +kernel)
theorem hw_608 : (Jvm.Cond.fieldLink "LazyMotionModel" (169 : Nat) "LazyMotionModel" "outs" "I") ∈ lw_g := wk_in 608 (by decide +kernel) (by decide +kernel)
theorem hw_609 : (Jvm.Cond.fieldLink "LazyMotionModel" (172 : Nat) "LazyMotionModel" "passed" "I") ∈ lw_g := wk_in 609 (by decide +kernel) (by decide +kernel)
theorem hw_610 : (Jvm.Cond.fieldLink "LazyMotionModel" (160 : Nat) "LazyMotionModel" "made" "I") ∈ lw_g := wk_in 610 (by decide +kernel) (by decide +kernel)
theorem hw_611 : (Jvm.Cond.fieldLink "LazyMotionModel" (71 : Nat) "LazyMotionModel" "out" "[I") ∈ lw_g := wk_in 611 (by decide +kernel) (by decide +kernel)
theorem hw_612 : (Jvm.Cond.lays "LazyMotionModel" "LazyMotionModel" "thrown" "I") ∈ lw_g := wk_in 612 (by decide +kernel) (by decide +kernel)
theorem hw_614 : (Jvm.Cond.lays "LazyMotionModel" "LazyMotionModel" "blocks" "I") ∈ lw_g := wk_in 614 (by decide +kernel) (by decide +kernel)
theorem hw_616 : (Jvm.Cond.laysFinal "LazyMotionModel" "LazyMotionModel" "sizes" "[I") ∈ lw_g := wk_in 616 (by decide +kernel) (by decide +kernel)
theorem hw_618 : (Jvm.Cond.laysFinal "LazyMotionModel" "LazyMotionModel" "statements" "[I") ∈ lw_g := wk_in 618 (by decide +kernel) (by decide +kernel)
theorem hw_620 : (Jvm.Cond.laysFinal "LazyMotionModel" "LazyMotionModel" "ends" "[I") ∈ lw_g := wk_in 620 (by decide +kernel) (by decide +kernel)
theorem hw_622 : (Jvm.Cond.lays "LazyMotionModel" "LazyMotionModel" "expressions" "I") ∈ lw_g := wk_in 622 (by decide +kernel) (by decide +kernel)
theorem hw_624 : (Jvm.Cond.laysFinal "LazyMotionModel" "LazyMotionModel" "left" "[I") ∈ lw_g := wk_in 624 (by decide +kernel) (by decide +kernel)
theorem hw_626 : (Jvm.Cond.laysFinal "LazyMotionModel" "LazyMotionModel" "operator" "[I") ∈ lw_g := wk_in 626 (by decide +kernel) (by decide +kernel)
theorem hw_628 : (Jvm.Cond.laysFinal "LazyMotionModel" "LazyMotionModel" "right" "[I") ∈ lw_g := wk_in 628 (by decide +kernel) (by decide +kernel)
theorem hw_630 : (Jvm.Cond.lays "LazyMotionModel" "LazyMotionModel" "planned" "Z") ∈ lw_g := wk_in 630 (by decide +kernel) (by decide +kernel)
theorem hw_632 : (Jvm.Cond.lays "LazyMotionModel" "LazyMotionModel" "plans" "I") ∈ lw_g := wk_in 632 (by decide +kernel) (by decide +kernel)
theorem hw_634 : (Jvm.Cond.lays "LazyMotionModel" "LazyMotionModel" "moved" "I") ∈ lw_g := wk_in 634 (by decide +kernel) (by decide +kernel)
theorem hw_636 : (Jvm.Cond.laysFinal "LazyMotionModel" "LazyMotionModel" "reached" "[Z") ∈ lw_g := wk_in 636 (by decide +kernel) (by decide +kernel)
theorem hw_638 : (Jvm.Cond.laysFinal "LazyMotionModel" "LazyMotionModel" "sets" "[I") ∈ lw_g := wk_in 638 (by decide +kernel) (by decide +kernel)
theorem hw_640 : (Jvm.Cond.laysFinal "LazyMotionModel" "LazyMotionModel" "puts" "[I") ∈ lw_g := wk_in 640 (by decide +kernel) (by decide +kernel)
theorem hw_642 : (Jvm.Cond.laysFinal "LazyMotionModel" "LazyMotionModel" "changes" "[Z") ∈ lw_g := wk_in 642 (by decide +kernel) (by decide +kernel)
theorem hw_644 : (Jvm.Cond.laysFinal "LazyMotionModel" "LazyMotionModel" "asks" "[Z") ∈ lw_g := wk_in 644 (by decide +kernel) (by decide +kernel)
theorem hw_646 : (Jvm.Cond.laysFinal "LazyMotionModel" "LazyMotionModel" "leaves" "[Z") ∈ lw_g := wk_in 646 (by decide +kernel) (by decide +kernel)
theorem hw_648 : (Jvm.Cond.laysFinal "LazyMotionModel" "LazyMotionModel" "before" "[Z") ∈ lw_g := wk_in 648 (by decide +kernel) (by decide +kernel)
theorem hw_650 : (Jvm.Cond.laysFinal "LazyMotionModel" "LazyMotionModel" "behind" "[Z") ∈ lw_g := wk_in 650 (by decide +kernel) (by decide +kernel)
theorem hw_652 : (Jvm.Cond.laysFinal "LazyMotionModel" "LazyMotionModel" "wanted" "[Z") ∈ lw_g := wk_in 652 (by decide +kernel) (by decide +kernel)
theorem hw_654 : (Jvm.Cond.laysFinal "LazyMotionModel" "LazyMotionModel" "later" "[Z") ∈ lw_g := wk_in 654 (by decide +kernel) (by decide +kernel)
theorem hw_656 : (Jvm.Cond.laysFinal "LazyMotionModel" "LazyMotionModel" "late" "[Z") ∈ lw_g := wk_in 656 (by decide +kernel) (by decide +kernel)
theorem hw_658 : (Jvm.Cond.laysFinal "LazyMotionModel" "LazyMotionModel" "values" "[I") ∈ lw_g := wk_in 658 (by decide +kernel) (by decide +kernel)
theorem hw_660 : (Jvm.Cond.laysFinal "LazyMotionModel" "LazyMotionModel" "temporary" "[I") ∈ lw_g := wk_in 660 (by decide +kernel) (by decide +kernel)
theorem hw_662 : (Jvm.Cond.laysFinal "LazyMotionModel" "LazyMotionModel" "counts" "[I") ∈ lw_g := wk_in 662 (by decide +kernel) (by decide +kernel)
theorem hw_664 : (Jvm.Cond.lays "LazyMotionModel" "LazyMotionModel" "outs" "I") ∈ lw_g := wk_in 664 (by decide +kernel) (by decide +kernel)
theorem hw_666 : (Jvm.Cond.lays "LazyMotionModel" "LazyMotionModel" "passed" "I") ∈ lw_g := wk_in 666 (by decide +kernel) (by decide +kernel)
theorem hw_668 : (Jvm.Cond.lays "LazyMotionModel" "LazyMotionModel" "made" "I") ∈ lw_g := wk_in 668 (by decide +kernel) (by decide +kernel)
theorem hw_670 : (Jvm.Cond.laysFinal "LazyMotionModel" "LazyMotionModel" "out" "[I") ∈ lw_g := wk_in 670 (by decide +kernel) (by decide +kernel)
theorem hw_681 : (Jvm.Cond.methodLink "LazyMotionModel" (81 : Nat) ({ cls := "LazyMotionModel", name := "fail", desc := "(I)I" } : Jvm.MethodName)) ∈ lw_g := wk_in 681 (by decide +kernel) (by decide +kernel)
theorem hw_683 : (Jvm.Cond.instanceMethod ({ cls := "LazyMotionModel", name := "fail", desc := "(I)I" } : Jvm.MethodName)) ∈ lw_g := wk_in 683 (by decide +kernel) (by decide +kernel)
theorem hw_684 : (Jvm.Cond.code ({ cls := "LazyMotionModel", name := "fail", desc := "(I)I" } : Jvm.MethodName) prog_6_method_3_code (2 : Nat) (Option.some Jvm.ClassFile.FieldType.int)) ∈ lw_g := wk_in 684 (by decide +kernel) (by decide +kernel)
theorem hw_689 : (Jvm.Cond.methodLink "LazyMotionModel" (92 : Nat) ({ cls := "LazyMotionModel", name := "within", desc := "(III)Z" } : Jvm.MethodName)) ∈ lw_g := wk_in 689 (by decide +kernel) (by decide +kernel)
theorem hw_690 : (Jvm.Cond.static ({ cls := "LazyMotionModel", name := "within", desc := "(III)Z" } : Jvm.MethodName)) ∈ lw_g := wk_in 690 (by decide +kernel) (by decide +kernel)
theorem hw_691 : (Jvm.Cond.code ({ cls := "LazyMotionModel", name := "within", desc := "(III)Z" } : Jvm.MethodName) prog_6_method_4_code (3 : Nat) (Option.some Jvm.ClassFile.FieldType.boolean)) ∈ lw_g := wk_in 691 (by decide +kernel) (by decide +kernel)
theorem hw_692 : (Jvm.Cond.methodLink "LazyMotionModel" (96 : Nat) ({ cls := "LazyMotionModel", name := "find", desc := "(III)I" } : Jvm.MethodName)) ∈ lw_g := wk_in 692 (by decide +kernel) (by decide +kernel)
theorem hw_694 : (Jvm.Cond.instanceMethod ({ cls := "LazyMotionModel", name := "find", desc := "(III)I" } : Jvm.MethodName)) ∈ lw_g := wk_in 694 (by decide +kernel) (by decide +kernel)
theorem hw_695 : (Jvm.Cond.code ({ cls := "LazyMotionModel", name := "find", desc := "(III)I" } : Jvm.MethodName) prog_6_method_6_code (6 : Nat) (Option.some Jvm.ClassFile.FieldType.int)) ∈ lw_g := wk_in 695 (by decide +kernel) (by decide +kernel)
theorem hw_704 : (Jvm.Cond.methodLink "LazyMotionModel" (142 : Nat) ({ cls := "LazyMotionModel", name := "whole", desc := "()Z" } : Jvm.MethodName)) ∈ lw_g := wk_in 704 (by decide +kernel) (by decide +kernel)
theorem hw_706 : (Jvm.Cond.instanceMethod ({ cls := "LazyMotionModel", name := "whole", desc := "()Z" } : Jvm.MethodName)) ∈ lw_g := wk_in 706 (by decide +kernel) (by decide +kernel)
theorem hw_707 : (Jvm.Cond.code ({ cls := "LazyMotionModel", name := "whole", desc := "()Z" } : Jvm.MethodName) prog_6_method_12_code (3 : Nat) (Option.some Jvm.ClassFile.FieldType.boolean)) ∈ lw_g := wk_in 707 (by decide +kernel) (by decide +kernel)
theorem hw_708 : (Jvm.Cond.methodLink "LazyMotionModel" (100 : Nat) ({ cls := "LazyMotionModel", name := "next", desc := "(II)I" } : Jvm.MethodName)) ∈ lw_g := wk_in 708 (by decide +kernel) (by decide +kernel)
theorem hw_710 : (Jvm.Cond.instanceMethod ({ cls := "LazyMotionModel", name := "next", desc := "(II)I" } : Jvm.MethodName)) ∈ lw_g := wk_in 710 (by decide +kernel) (by decide +kernel)
theorem hw_711 : (Jvm.Cond.code ({ cls := "LazyMotionModel", name := "next", desc := "(II)I" } : Jvm.MethodName) prog_6_method_9_code (4 : Nat) (Option.some Jvm.ClassFile.FieldType.int)) ∈ lw_g := wk_in 711 (by decide +kernel) (by decide +kernel)
theorem hw_712 : (Jvm.Cond.methodLink "LazyMotionModel" (146 : Nat) ({ cls := "LazyMotionModel", name := "reach", desc := "()V" } : Jvm.MethodName)) ∈ lw_g := wk_in 712 (by decide +kernel) (by decide +kernel)
theorem hw_714 : (Jvm.Cond.instanceMethod ({ cls := "LazyMotionModel", name := "reach", desc := "()V" } : Jvm.MethodName)) ∈ lw_g := wk_in 714 (by decide +kernel) (by decide +kernel)
theorem hw_715 : (Jvm.Cond.code ({ cls := "LazyMotionModel", name := "reach", desc := "()V" } : Jvm.MethodName) prog_6_method_11_code (5 : Nat) (Option.none : Option Jvm.ClassFile.FieldType)) ∈ lw_g := wk_in 715 (by decide +kernel) (by decide +kernel)
theorem hw_716 : (Jvm.Cond.methodLink "LazyMotionModel" (149 : Nat) ({ cls := "LazyMotionModel", name := "plans", desc := "(I)V" } : Jvm.MethodName)) ∈ lw_g := wk_in 716 (by decide +kernel) (by decide +kernel)
theorem hw_718 : (Jvm.Cond.instanceMethod ({ cls := "LazyMotionModel", name := "plans", desc := "(I)V" } : Jvm.MethodName)) ∈ lw_g := wk_in 718 (by decide +kernel) (by decide +kernel)
theorem hw_719 : (Jvm.Cond.code ({ cls := "LazyMotionModel", name := "plans", desc := "(I)V" } : Jvm.MethodName) prog_6_method_22_code (6 : Nat) (Option.none : Option Jvm.ClassFile.FieldType)) ∈ lw_g := wk_in 719 (by decide +kernel) (by decide +kernel)
theorem hw_720 : (Jvm.Cond.methodLink "LazyMotionModel" (127 : Nat) ({ cls := "LazyMotionModel", name := "look", desc := "(II)V" } : Jvm.MethodName)) ∈ lw_g := wk_in 720 (by decide +kernel) (by decide +kernel)
theorem hw_722 : (Jvm.Cond.instanceMethod ({ cls := "LazyMotionModel", name := "look", desc := "(II)V" } : Jvm.MethodName)) ∈ lw_g := wk_in 722 (by decide +kernel) (by decide +kernel)
theorem hw_723 : (Jvm.Cond.code ({ cls := "LazyMotionModel", name := "look", desc := "(II)V" } : Jvm.MethodName) prog_6_method_14_code (6 : Nat) (Option.none : Option Jvm.ClassFile.FieldType)) ∈ lw_g := wk_in 723 (by decide +kernel) (by decide +kernel)
theorem hw_724 : (Jvm.Cond.methodLink "LazyMotionModel" (104 : Nat) ({ cls := "LazyMotionModel", name := "gives", desc := "(II)Z" } : Jvm.MethodName)) ∈ lw_g := wk_in 724 (by decide +kernel) (by decide +kernel)
theorem hw_726 : (Jvm.Cond.instanceMethod ({ cls := "LazyMotionModel", name := "gives", desc := "(II)Z" } : Jvm.MethodName)) ∈ lw_g := wk_in 726 (by decide +kernel) (by decide +kernel)
theorem hw_727 : (Jvm.Cond.code ({ cls := "LazyMotionModel", name := "gives", desc := "(II)Z" } : Jvm.MethodName) prog_6_method_13_code (3 : Nat) (Option.some Jvm.ClassFile.FieldType.boolean)) ∈ lw_g := wk_in 727 (by decide +kernel) (by decide +kernel)
theorem hw_728 : (Jvm.Cond.methodLink "LazyMotionModel" (131 : Nat) ({ cls := "LazyMotionModel", name := "settle", desc := "(I)V" } : Jvm.MethodName)) ∈ lw_g := wk_in 728 (by decide +kernel) (by decide +kernel)
theorem hw_730 : (Jvm.Cond.instanceMethod ({ cls := "LazyMotionModel", name := "settle", desc := "(I)V" } : Jvm.MethodName)) ∈ lw_g := wk_in 730 (by decide +kernel) (by decide +kernel)
theorem hw_731 : (Jvm.Cond.code ({ cls := "LazyMotionModel", name := "settle", desc := "(I)V" } : Jvm.MethodName) prog_6_method_20_code (6 : Nat) (Option.none : Option Jvm.ClassFile.FieldType)) ∈ lw_g := wk_in 731 (by decide +kernel) (by decide +kernel)
theorem hw_732 : (Jvm.Cond.methodLink "LazyMotionModel" (121 : Nat) ({ cls := "LazyMotionModel", name := "thereBefore", desc := "(I)Z" } : Jvm.MethodName)) ∈ lw_g := wk_in 732 (by decide +kernel) (by decide +kernel)
theorem hw_734 : (Jvm.Cond.instanceMethod ({ cls := "LazyMotionModel", name := "thereBefore", desc := "(I)Z" } : Jvm.MethodName)) ∈ lw_g := wk_in 734 (by decide +kernel) (by decide +kernel)
theorem hw_735 : (Jvm.Cond.code ({ cls := "LazyMotionModel", name := "thereBefore", desc := "(I)Z" } : Jvm.MethodName) prog_6_method_15_code (4 : Nat) (Option.some Jvm.ClassFile.FieldType.boolean)) ∈ lw_g := wk_in 735 (by decide +kernel) (by decide +kernel)
theorem hw_736 : (Jvm.Cond.methodLink "LazyMotionModel" (108 : Nat) ({ cls := "LazyMotionModel", name := "edge", desc := "(II)Z" } : Jvm.MethodName)) ∈ lw_g := wk_in 736 (by decide +kernel) (by decide +kernel)
theorem hw_738 : (Jvm.Cond.instanceMethod ({ cls := "LazyMotionModel", name := "edge", desc := "(II)Z" } : Jvm.MethodName)) ∈ lw_g := wk_in 738 (by decide +kernel) (by decide +kernel)
theorem hw_739 : (Jvm.Cond.code ({ cls := "LazyMotionModel", name := "edge", desc := "(II)Z" } : Jvm.MethodName) prog_6_method_10_code (3 : Nat) (Option.some Jvm.ClassFile.FieldType.boolean)) ∈ lw_g := wk_in 739 (by decide +kernel) (by decide +kernel)
theorem hw_740 : (Jvm.Cond.methodLink "LazyMotionModel" (111 : Nat) ({ cls := "LazyMotionModel", name := "wantedBehind", desc := "(I)Z" } : Jvm.MethodName)) ∈ lw_g := wk_in 740 (by decide +kernel) (by decide +kernel)
theorem hw_742 : (Jvm.Cond.instanceMethod ({ cls := "LazyMotionModel", name := "wantedBehind", desc := "(I)Z" } : Jvm.MethodName)) ∈ lw_g := wk_in 742 (by decide +kernel) (by decide +kernel)
theorem hw_743 : (Jvm.Cond.code ({ cls := "LazyMotionModel", name := "wantedBehind", desc := "(I)Z" } : Jvm.MethodName) prog_6_method_16_code (6 : Nat) (Option.some Jvm.ClassFile.FieldType.boolean)) ∈ lw_g := wk_in 743 (by decide +kernel) (by decide +kernel)
theorem hw_744 : (Jvm.Cond.methodLink "LazyMotionModel" (124 : Nat) ({ cls := "LazyMotionModel", name := "lateBefore", desc := "(I)Z" } : Jvm.MethodName)) ∈ lw_g := wk_in 744 (by decide +kernel) (by decide +kernel)
theorem hw_746 : (Jvm.Cond.instanceMethod ({ cls := "LazyMotionModel", name := "lateBefore", desc := "(I)Z" } : Jvm.MethodName)) ∈ lw_g := wk_in 746 (by decide +kernel) (by decide +kernel)
theorem hw_747 : (Jvm.Cond.code ({ cls := "LazyMotionModel", name := "lateBefore", desc := "(I)Z" } : Jvm.MethodName) prog_6_method_19_code (4 : Nat) (Option.some Jvm.ClassFile.FieldType.boolean)) ∈ lw_g := wk_in 747 (by decide +kernel) (by decide +kernel)
theorem hw_748 : (Jvm.Cond.methodLink "LazyMotionModel" (118 : Nat) ({ cls := "LazyMotionModel", name := "laterOn", desc := "(II)Z" } : Jvm.MethodName)) ∈ lw_g := wk_in 748 (by decide +kernel) (by decide +kernel)
theorem hw_750 : (Jvm.Cond.instanceMethod ({ cls := "LazyMotionModel", name := "laterOn", desc := "(II)Z" } : Jvm.MethodName)) ∈ lw_g := wk_in 750 (by decide +kernel) (by decide +kernel)
theorem hw_751 : (Jvm.Cond.code ({ cls := "LazyMotionModel", name := "laterOn", desc := "(II)Z" } : Jvm.MethodName) prog_6_method_18_code (3 : Nat) (Option.some Jvm.ClassFile.FieldType.boolean)) ∈ lw_g := wk_in 751 (by decide +kernel) (by decide +kernel)
theorem hw_752 : (Jvm.Cond.methodLink "LazyMotionModel" (115 : Nat) ({ cls := "LazyMotionModel", name := "earliest", desc := "(II)Z" } : Jvm.MethodName)) ∈ lw_g := wk_in 752 (by decide +kernel) (by decide +kernel)
theorem hw_754 : (Jvm.Cond.instanceMethod ({ cls := "LazyMotionModel", name := "earliest", desc := "(II)Z" } : Jvm.MethodName)) ∈ lw_g := wk_in 754 (by decide +kernel) (by decide +kernel)
theorem hw_755 : (Jvm.Cond.code ({ cls := "LazyMotionModel", name := "earliest", desc := "(II)Z" } : Jvm.MethodName) prog_6_method_17_code (3 : Nat) (Option.some Jvm.ClassFile.FieldType.boolean)) ∈ lw_g := wk_in 755 (by decide +kernel) (by decide +kernel)
theorem hw_756 : (Jvm.Cond.methodLink "LazyMotionModel" (135 : Nat) ({ cls := "LazyMotionModel", name := "mark", desc := "(IIIZ)V" } : Jvm.MethodName)) ∈ lw_g := wk_in 756 (by decide +kernel) (by decide +kernel)
theorem hw_758 : (Jvm.Cond.instanceMethod ({ cls := "LazyMotionModel", name := "mark", desc := "(IIIZ)V" } : Jvm.MethodName)) ∈ lw_g := wk_in 758 (by decide +kernel) (by decide +kernel)
theorem hw_759 : (Jvm.Cond.code ({ cls := "LazyMotionModel", name := "mark", desc := "(IIIZ)V" } : Jvm.MethodName) prog_6_method_21_code (5 : Nat) (Option.none : Option Jvm.ClassFile.FieldType)) ∈ lw_g := wk_in 759 (by decide +kernel) (by decide +kernel)
theorem hw_760 : (Jvm.Cond.methodLink "LazyMotionModel" (154 : Nat) ({ cls := "LazyMotionModel", name := "bits", desc := "(I)I" } : Jvm.MethodName)) ∈ lw_g := wk_in 760 (by decide +kernel) (by decide +kernel)
theorem hw_761 : (Jvm.Cond.static ({ cls := "LazyMotionModel", name := "bits", desc := "(I)I" } : Jvm.MethodName)) ∈ lw_g := wk_in 761 (by decide +kernel) (by decide +kernel)
theorem hw_762 : (Jvm.Cond.code ({ cls := "LazyMotionModel", name := "bits", desc := "(I)I" } : Jvm.MethodName) prog_6_method_23_code (3 : Nat) (Option.some Jvm.ClassFile.FieldType.int)) ∈ lw_g := wk_in 762 (by decide +kernel) (by decide +kernel)
theorem hw_771 : (Jvm.Cond.methodLink "LazyMotionModel" (157 : Nat) ({ cls := "LazyMotionModel", name := "isEdge", desc := "(II)Z" } : Jvm.MethodName)) ∈ lw_g := wk_in 771 (by decide +kernel) (by decide +kernel)
theorem hw_773 : (Jvm.Cond.instanceMethod ({ cls := "LazyMotionModel", name := "isEdge", desc := "(II)Z" } : Jvm.MethodName)) ∈ lw_g := wk_in 773 (by decide +kernel) (by decide +kernel)
theorem hw_774 : (Jvm.Cond.code ({ cls := "LazyMotionModel", name := "isEdge", desc := "(II)Z" } : Jvm.MethodName) prog_6_method_26_code (3 : Nat) (Option.some Jvm.ClassFile.FieldType.boolean)) ∈ lw_g := wk_in 774 (by decide +kernel) (by decide +kernel)
theorem hw_783 : (Jvm.Cond.methodLink "LazyMotionModel" (175 : Nat) ({ cls := "LazyMotionModel", name := "cross", desc := "(I)V" } : Jvm.MethodName)) ∈ lw_g := wk_in 783 (by decide +kernel) (by decide +kernel)
theorem hw_785 : (Jvm.Cond.instanceMethod ({ cls := "LazyMotionModel", name := "cross", desc := "(I)V" } : Jvm.MethodName)) ∈ lw_g := wk_in 785 (by decide +kernel) (by decide +kernel)
theorem hw_786 : (Jvm.Cond.code ({ cls := "LazyMotionModel", name := "cross", desc := "(I)V" } : Jvm.MethodName) prog_6_method_30_code (3 : Nat) (Option.none : Option Jvm.ClassFile.FieldType)) ∈ lw_g := wk_in 786 (by decide +kernel) (by decide +kernel)
theorem hw_787 : (Jvm.Cond.methodLink "LazyMotionModel" (163 : Nat) ({ cls := "LazyMotionModel", name := "worked", desc := "(I)I" } : Jvm.MethodName)) ∈ lw_g := wk_in 787 (by decide +kernel) (by decide +kernel)
theorem hw_789 : (Jvm.Cond.instanceMethod ({ cls := "LazyMotionModel", name := "worked", desc := "(I)I" } : Jvm.MethodName)) ∈ lw_g := wk_in 789 (by decide +kernel) (by decide +kernel)
theorem hw_790 : (Jvm.Cond.code ({ cls := "LazyMotionModel", name := "worked", desc := "(I)I" } : Jvm.MethodName) prog_6_method_29_code (5 : Nat) (Option.some Jvm.ClassFile.FieldType.int)) ∈ lw_g := wk_in 790 (by decide +kernel) (by decide +kernel)
theorem hw_791 : (Jvm.Cond.methodLink "LazyMotionModel" (178 : Nat) ({ cls := "LazyMotionModel", name := "pass", desc := "(IZ)V" } : Jvm.MethodName)) ∈ lw_g := wk_in 791 (by decide +kernel) (by decide +kernel)
theorem hw_793 : (Jvm.Cond.instanceMethod ({ cls := "LazyMotionModel", name := "pass", desc := "(IZ)V" } : Jvm.MethodName)) ∈ lw_g := wk_in 793 (by decide +kernel) (by decide +kernel)
theorem hw_794 : (Jvm.Cond.code ({ cls := "LazyMotionModel", name := "pass", desc := "(IZ)V" } : Jvm.MethodName) prog_6_method_32_code (9 : Nat) (Option.none : Option Jvm.ClassFile.FieldType)) ∈ lw_g := wk_in 794 (by decide +kernel) (by decide +kernel)
theorem hw_795 : (Jvm.Cond.methodLink "LazyMotionModel" (166 : Nat) ({ cls := "LazyMotionModel", name := "newly", desc := "(II)I" } : Jvm.MethodName)) ∈ lw_g := wk_in 795 (by decide +kernel) (by decide +kernel)
theorem hw_797 : (Jvm.Cond.instanceMethod ({ cls := "LazyMotionModel", name := "newly", desc := "(II)I" } : Jvm.MethodName)) ∈ lw_g := wk_in 797 (by decide +kernel) (by decide +kernel)
theorem hw_798 : (Jvm.Cond.code ({ cls := "LazyMotionModel", name := "newly", desc := "(II)I" } : Jvm.MethodName) prog_6_method_31_code (4 : Nat) (Option.some Jvm.ClassFile.FieldType.int)) ∈ lw_g := wk_in 798 (by decide +kernel) (by decide +kernel)
theorem ki_C : ∀ w ∈ u_ws kr_C kt_C kn_C, w ∈ lw_g := List.forall_mem_cons.mpr ⟨hw_178, List.forall_mem_cons.mpr ⟨hw_180, List.forall_mem_cons.mpr ⟨hw_182, List.forall_mem_cons.mpr ⟨hw_184, List.forall_mem_cons.mpr ⟨hw_186, fun _ h => absurd h List.not_mem_nil⟩⟩⟩⟩⟩
theorem ki_P : ∀ w ∈ u_ws kr_P kt_P kn_P, w ∈ lw_g := List.forall_mem_cons.mpr ⟨hw_62, List.forall_mem_cons.mpr ⟨hw_64, List.forall_mem_cons.mpr ⟨hw_66, List.forall_mem_cons.mpr ⟨hw_68, List.forall_mem_cons.mpr ⟨hw_70, List.forall_mem_cons.mpr ⟨hw_72, List.forall_mem_cons.mpr ⟨hw_74, List.forall_mem_cons.mpr ⟨hw_76, List.forall_mem_cons.mpr ⟨hw_78, List.forall_mem_cons.mpr ⟨hw_80, List.forall_mem_cons.mpr ⟨hw_82, List.forall_mem_cons.mpr ⟨hw_84, List.forall_mem_cons.mpr ⟨hw_86, fun _ h => absurd h List.not_mem_nil⟩⟩⟩⟩⟩⟩⟩⟩⟩⟩⟩⟩⟩
theorem ki_O : ∀ w ∈ u_ws kr_O kt_O kn_O, w ∈ lw_g := List.forall_mem_cons.mpr ⟨hw_109, List.forall_mem_cons.mpr ⟨hw_111, List.forall_mem_cons.mpr ⟨hw_113, List.forall_mem_cons.mpr ⟨hw_115, List.forall_mem_cons.mpr ⟨hw_117, List.forall_mem_cons.mpr ⟨hw_119, List.forall_mem_cons.mpr ⟨hw_121, List.forall_mem_cons.mpr ⟨hw_123, List.forall_mem_cons.mpr ⟨hw_125, List.forall_mem_cons.mpr ⟨hw_127, List.forall_mem_cons.mpr ⟨hw_129, fun _ h => absurd h List.not_mem_nil⟩⟩⟩⟩⟩⟩⟩⟩⟩⟩⟩
theorem ki_K : ∀ w ∈ u_ws kr_K kt_K kn_K, w ∈ lw_g := List.forall_mem_cons.mpr ⟨hw_154, List.forall_mem_cons.mpr ⟨hw_156, List.forall_mem_cons.mpr ⟨hw_158, List.forall_mem_cons.mpr ⟨hw_160, List.forall_mem_cons.mpr ⟨hw_162, List.forall_mem_cons.mpr ⟨hw_164, List.forall_mem_cons.mpr ⟨hw_166, List.forall_mem_cons.mpr ⟨hw_168, List.forall_mem_cons.mpr ⟨hw_170, fun _ h => absurd h List.not_mem_nil⟩⟩⟩⟩⟩⟩⟩⟩⟩
theorem ki_M : ∀ w ∈ u_ws kr_M kt_M kn_M, w ∈ lw_g := List.forall_mem_cons.mpr ⟨hw_612, List.forall_mem_cons.mpr ⟨hw_614, List.forall_mem_cons.mpr ⟨hw_616, List.forall_mem_cons.mpr ⟨hw_618, List.forall_mem_cons.mpr ⟨hw_620, List.forall_mem_cons.mpr ⟨hw_622, List.forall_mem_cons.mpr ⟨hw_624, List.forall_mem_cons.mpr ⟨hw_626, List.forall_mem_cons.mpr ⟨hw_628, List.forall_mem_cons.mpr ⟨hw_630, List.forall_mem_cons.mpr ⟨hw_632, List.forall_mem_cons.mpr ⟨hw_634, List.forall_mem_cons.mpr ⟨hw_636, List.forall_mem_cons.mpr ⟨hw_638, List.forall_mem_cons.mpr ⟨hw_640, List.forall_mem_cons.mpr ⟨hw_642, List.forall_mem_cons.mpr ⟨hw_644, List.forall_mem_cons.mpr ⟨hw_646, List.forall_mem_cons.mpr ⟨hw_648, List.forall_mem_cons.mpr ⟨hw_650, List.forall_mem_cons.mpr ⟨hw_652, List.forall_mem_cons.mpr ⟨hw_654, List.forall_mem_cons.mpr ⟨hw_656, List.forall_mem_cons.mpr ⟨hw_658, List.forall_mem_cons.mpr ⟨hw_660, List.forall_mem_cons.mpr ⟨hw_662, List.forall_mem_cons.mpr ⟨hw_664, List.forall_mem_cons.mpr ⟨hw_666, List.forall_mem_cons.mpr ⟨hw_668, List.forall_mem_cons.mpr ⟨hw_670, fun _ h => absurd h List.not_mem_nil⟩⟩⟩⟩⟩⟩⟩⟩⟩⟩⟩⟩⟩⟩⟩⟩⟩⟩⟩⟩⟩⟩⟩⟩⟩⟩⟩⟩⟩⟩
-- code and name of each method; decode rows
def ke_P_changeEnd : MethodName := ⟨kr_P, "changeEnd", "(IIII)I"⟩
abbrev kc_P_changeEnd : Cond := .code ke_P_changeEnd prog_4_method_4_code 5 (some .int)
def ke_P_addBlock : MethodName := ⟨kr_P, "addBlock", "()I"⟩
abbrev kc_P_addBlock : Cond := .code ke_P_addBlock prog_4_method_3_code 2 (some .int)
def ke_C_isVariable : MethodName := ⟨kr_C, "isVariable", "(I)Z"⟩
abbrev kc_C_isVariable : Cond := .code ke_C_isVariable prog_1_method_17_code 1 (some .boolean)
def ke_C_isStatement : MethodName := ⟨kr_C, "isStatement", "(IIIII)Z"⟩
abbrev kc_C_isStatement : Cond := .code ke_C_isStatement prog_1_method_15_code 5 (some .boolean)
def ke_P_takesStatement : MethodName := ⟨kr_P, "takesStatement", "()Z"⟩
abbrev kc_P_takesStatement : Cond := .code ke_P_takesStatement prog_4_method_5_code 1 (some .boolean)
def ke_P_findExpression : MethodName := ⟨kr_P, "findExpression", "(III)I"⟩
abbrev kc_P_findExpression : Cond := .code ke_P_findExpression prog_4_method_7_code 5 (some .int)
def ke_P_findOrAddExpression : MethodName := ⟨kr_P, "findOrAddExpression", "(III)I"⟩
abbrev kc_P_findOrAddExpression : Cond := .code ke_P_findOrAddExpression prog_4_method_8_code 5 (some .int)
def ke_P_hasBlock : MethodName := ⟨kr_P, "hasBlock", "(I)Z"⟩
abbrev kc_P_hasBlock : Cond := .code ke_P_hasBlock prog_4_method_2_code 2 (some .boolean)
def ke_C_mayBeBlock : MethodName := ⟨kr_C, "mayBeBlock", "(I)Z"⟩
abbrev kc_C_mayBeBlock : Cond := .code ke_C_mayBeBlock prog_1_method_18_code 1 (some .boolean)
def ke_C_isEnd : MethodName := ⟨kr_C, "isEnd", "(IIII)Z"⟩
abbrev kc_C_isEnd : Cond := .code ke_C_isEnd prog_1_method_16_code 4 (some .boolean)
def ke_P_isWhole : MethodName := ⟨kr_P, "isWhole", "()Z"⟩
abbrev kc_P_isWhole : Cond := .code ke_P_isWhole prog_4_method_9_code 2 (some .boolean)
def ke_O_reach : MethodName := ⟨kr_O, "reach", "(I)Z"⟩
abbrev kc_O_reach : Cond := .code ke_O_reach prog_3_method_9_code 2 (some .boolean)
def ke_O_findReached : MethodName := ⟨kr_O, "findReached", "()V"⟩
abbrev kc_O_findReached : Cond := .code ke_O_findReached prog_3_method_8_code 4 none
def ke_O_narrow : MethodName := ⟨kr_O, "narrow", "([JIJ)Z"⟩
abbrev kc_O_narrow : Cond := .code ke_O_narrow prog_3_method_17_code 6 (some .boolean)
def ke_O_flowThere : MethodName := ⟨kr_O, "flowThere", "()V"⟩
abbrev kc_O_flowThere : Cond := .code ke_O_flowThere prog_3_method_12_code 4 none
def ke_O_wantedByAll : MethodName := ⟨kr_O, "wantedByAll", "(II)J"⟩
abbrev kc_O_wantedByAll : Cond := .code ke_O_wantedByAll prog_3_method_14_code 3 (some .long)
def ke_O_flowWanted : MethodName := ⟨kr_O, "flowWanted", "()V"⟩
abbrev kc_O_flowWanted : Cond := .code ke_O_flowWanted prog_3_method_13_code 4 none
def ke_O_laterOn : MethodName := ⟨kr_O, "laterOn", "(II)J"⟩
abbrev kc_O_laterOn : Cond := .code ke_O_laterOn prog_3_method_7_code 5 (some .long)
def ke_O_narrowLate : MethodName := ⟨kr_O, "narrowLate", "(II)Z"⟩
abbrev kc_O_narrowLate : Cond := .code ke_O_narrowLate prog_3_method_16_code 3 (some .boolean)
def ke_O_flowLate : MethodName := ⟨kr_O, "flowLate", "()V"⟩
abbrev kc_O_flowLate : Cond := .code ke_O_flowLate prog_3_method_15_code 4 none
def ke_O_readBlock : MethodName := ⟨kr_O, "readBlock", "(I)V"⟩
abbrev kc_O_readBlock : Cond := .code ke_O_readBlock prog_3_method_10_code 6 none
def ke_O_fillSets : MethodName := ⟨kr_O, "fillSets", "(I)V"⟩
abbrev kc_O_fillSets : Cond := .code ke_O_fillSets prog_3_method_11_code 4 none
def ke_O_findSets : MethodName := ⟨kr_O, "findSets", "()V"⟩
abbrev kc_O_findSets : Cond := .code ke_O_findSets prog_3_method_2_code 2 none
def ke_G_bitCount : MethodName := ⟨kr_G, "bitCount", "(J)I"⟩
abbrev kc_G_bitCount : Cond := .code ke_G_bitCount prog_11_method_50_code 2 (some .int)
def ke_O_countMoved : MethodName := ⟨kr_O, "countMoved", "()I"⟩
abbrev kc_O_countMoved : Cond := .code ke_O_countMoved prog_3_method_3_code 4 (some .int)
def ke_O_setOf : MethodName := ⟨kr_O, "setOf", "(II)J"⟩
abbrev kc_O_setOf : Cond := .code ke_O_setOf prog_3_method_4_code 3 (some .long)
def ke_O_hasEdge : MethodName := ⟨kr_O, "hasEdge", "(II)Z"⟩
abbrev kc_O_hasEdge : Cond := .code ke_O_hasEdge prog_3_method_5_code 3 (some .boolean)
def ke_O_putOn : MethodName := ⟨kr_O, "putOn", "(II)J"⟩
abbrev kc_O_putOn : Cond := .code ke_O_putOn prog_3_method_6_code 3 (some .long)
def ke_A_fill : MethodName := ⟨kr_A, "fill", "([II)V"⟩
abbrev kc_A_fill : Cond := .code ke_A_fill prog_16_method_103_code 4 none
def ke_K_reset : MethodName := ⟨kr_K, "reset", "(III)V"⟩
abbrev kc_K_reset : Cond := .code ke_K_reset prog_2_method_2_code 4 none
def ke_P_valueOf : MethodName := ⟨kr_P, "valueOf", "(I[I)I"⟩
abbrev kc_P_valueOf : Cond := .code ke_P_valueOf prog_4_method_10_code 5 (some .int)
def ke_K_compute : MethodName := ⟨kr_K, "compute", "(I)I"⟩
abbrev kc_K_compute : Cond := .code ke_K_compute prog_2_method_8_code 2 (some .int)
def ke_K_goAlong : MethodName := ⟨kr_K, "goAlong", "(J)V"⟩
abbrev kc_K_goAlong : Cond := .code ke_K_goAlong prog_2_method_4_code 4 none
def ke_K_giveOut : MethodName := ⟨kr_K, "giveOut", "(I)V"⟩
abbrev kc_K_giveOut : Cond := .code ke_K_giveOut prog_2_method_7_code 2 none
def ke_K_goThroughSimple : MethodName := ⟨kr_K, "goThroughSimple", "(III)V"⟩
abbrev kc_K_goThroughSimple : Cond := .code ke_K_goThroughSimple prog_2_method_6_code 4 none
def ke_K_goThroughBlock : MethodName := ⟨kr_K, "goThroughBlock", "(IJ)V"⟩
abbrev kc_K_goThroughBlock : Cond := .code ke_K_goThroughBlock prog_2_method_5_code 10 none
def ke_K_goThrough : MethodName := ⟨kr_K, "goThrough", "(Z)V"⟩
abbrev kc_K_goThrough : Cond := .code ke_K_goThrough prog_2_method_3_code 5 none
def ke_C_outs : MethodName := ⟨kr_C, "outs", "()I"⟩
abbrev kc_C_outs : Cond := .code ke_C_outs prog_1_method_10_code 1 (some .int)
def ke_C_computed : MethodName := ⟨kr_C, "computed", "(I)I"⟩
abbrev kc_C_computed : Cond := .code ke_C_computed prog_1_method_13_code 2 (some .int)
def ke_M_thrown : MethodName := ⟨kr_M, "thrown", "()I"⟩
abbrev kc_M_thrown : Cond := .code ke_M_thrown prog_6_method_2_code 1 (some .int)
def ke_M_fail : MethodName := ⟨kr_M, "fail", "(I)I"⟩
abbrev kc_M_fail : Cond := .code ke_M_fail prog_6_method_3_code 2 (some .int)
def ke_M_within : MethodName := ⟨kr_M, "within", "(III)Z"⟩
abbrev kc_M_within : Cond := .code ke_M_within prog_6_method_4_code 3 (some .boolean)
def ke_M_block : MethodName := ⟨kr_M, "block", "()I"⟩
abbrev kc_M_block : Cond := .code ke_M_block prog_6_method_5_code 1 (some .int)
def ke_M_find : MethodName := ⟨kr_M, "find", "(III)I"⟩
abbrev kc_M_find : Cond := .code ke_M_find prog_6_method_6_code 6 (some .int)
def ke_M_statement : MethodName := ⟨kr_M, "statement", "(IIIII)I"⟩
abbrev kc_M_statement : Cond := .code ke_M_statement prog_6_method_7_code 9 (some .int)
def ke_M_end : MethodName := ⟨kr_M, "end", "(IIIII)I"⟩
abbrev kc_M_end : Cond := .code ke_M_end prog_6_method_8_code 7 (some .int)
def ke_M_next : MethodName := ⟨kr_M, "next", "(II)I"⟩
abbrev kc_M_next : Cond := .code ke_M_next prog_6_method_9_code 4 (some .int)
def ke_M_edge : MethodName := ⟨kr_M, "edge", "(II)Z"⟩
abbrev kc_M_edge : Cond := .code ke_M_edge prog_6_method_10_code 3 (some .boolean)
def ke_M_reach : MethodName := ⟨kr_M, "reach", "()V"⟩
abbrev kc_M_reach : Cond := .code ke_M_reach prog_6_method_11_code 5 none
def ke_M_whole : MethodName := ⟨kr_M, "whole", "()Z"⟩
abbrev kc_M_whole : Cond := .code ke_M_whole prog_6_method_12_code 3 (some .boolean)
def ke_M_gives : MethodName := ⟨kr_M, "gives", "(II)Z"⟩
abbrev kc_M_gives : Cond := .code ke_M_gives prog_6_method_13_code 3 (some .boolean)
def ke_M_look : MethodName := ⟨kr_M, "look", "(II)V"⟩
abbrev kc_M_look : Cond := .code ke_M_look prog_6_method_14_code 6 none
def ke_M_thereBefore : MethodName := ⟨kr_M, "thereBefore", "(I)Z"⟩
abbrev kc_M_thereBefore : Cond := .code ke_M_thereBefore prog_6_method_15_code 4 (some .boolean)
def ke_M_wantedBehind : MethodName := ⟨kr_M, "wantedBehind", "(I)Z"⟩
abbrev kc_M_wantedBehind : Cond := .code ke_M_wantedBehind prog_6_method_16_code 6 (some .boolean)
def ke_M_earliest : MethodName := ⟨kr_M, "earliest", "(II)Z"⟩
abbrev kc_M_earliest : Cond := .code ke_M_earliest prog_6_method_17_code 3 (some .boolean)
def ke_M_laterOn : MethodName := ⟨kr_M, "laterOn", "(II)Z"⟩
abbrev kc_M_laterOn : Cond := .code ke_M_laterOn prog_6_method_18_code 3 (some .boolean)
def ke_M_lateBefore : MethodName := ⟨kr_M, "lateBefore", "(I)Z"⟩
abbrev kc_M_lateBefore : Cond := .code ke_M_lateBefore prog_6_method_19_code 4 (some .boolean)
def ke_M_settle : MethodName := ⟨kr_M, "settle", "(I)V"⟩
abbrev kc_M_settle : Cond := .code ke_M_settle prog_6_method_20_code 6 none
def ke_M_mark : MethodName := ⟨kr_M, "mark", "(IIIZ)V"⟩
abbrev kc_M_mark : Cond := .code ke_M_mark prog_6_method_21_code 5 none
def ke_M_plans : MethodName := ⟨kr_M, "plans", "(I)V"⟩
abbrev kc_M_plans : Cond := .code ke_M_plans prog_6_method_22_code 6 none
def ke_M_bits : MethodName := ⟨kr_M, "bits", "(I)I"⟩
abbrev kc_M_bits : Cond := .code ke_M_bits prog_6_method_23_code 3 (some .int)
def ke_M_plan : MethodName := ⟨kr_M, "plan", "()I"⟩
abbrev kc_M_plan : Cond := .code ke_M_plan prog_6_method_24_code 2 (some .int)
def ke_M_set : MethodName := ⟨kr_M, "set", "(II)J"⟩
abbrev kc_M_set : Cond := .code ke_M_set prog_6_method_25_code 3 (some .long)
def ke_M_isEdge : MethodName := ⟨kr_M, "isEdge", "(II)Z"⟩
abbrev kc_M_isEdge : Cond := .code ke_M_isEdge prog_6_method_26_code 3 (some .boolean)
def ke_M_put : MethodName := ⟨kr_M, "put", "(II)J"⟩
abbrev kc_M_put : Cond := .code ke_M_put prog_6_method_27_code 3 (some .long)
def ke_M_expression : MethodName := ⟨kr_M, "expression", "(III)I"⟩
abbrev kc_M_expression : Cond := .code ke_M_expression prog_6_method_28_code 5 (some .int)
def ke_M_worked : MethodName := ⟨kr_M, "worked", "(I)I"⟩
abbrev kc_M_worked : Cond := .code ke_M_worked prog_6_method_29_code 5 (some .int)
def ke_M_cross : MethodName := ⟨kr_M, "cross", "(I)V"⟩
abbrev kc_M_cross : Cond := .code ke_M_cross prog_6_method_30_code 3 none
def ke_M_newly : MethodName := ⟨kr_M, "newly", "(II)I"⟩
abbrev kc_M_newly : Cond := .code ke_M_newly prog_6_method_31_code 4 (some .int)
def ke_M_pass : MethodName := ⟨kr_M, "pass", "(IZ)V"⟩
abbrev kc_M_pass : Cond := .code ke_M_pass prog_6_method_32_code 9 none
def ke_M_run : MethodName := ⟨kr_M, "run", "(ZIII)I"⟩
abbrev kc_M_run : Cond := .code ke_M_run prog_6_method_33_code 8 (some .int)
def ke_M_outs : MethodName := ⟨kr_M, "outs", "()I"⟩
abbrev kc_M_outs : Cond := .code ke_M_outs prog_6_method_34_code 1 (some .int)
def ke_M_out : MethodName := ⟨kr_M, "out", "(I)I"⟩
abbrev kc_M_out : Cond := .code ke_M_out prog_6_method_35_code 2 (some .int)
def ke_M_variable : MethodName := ⟨kr_M, "variable", "(I)I"⟩
abbrev kc_M_variable : Cond := .code ke_M_variable prog_6_method_36_code 2 (some .int)
def ke_M_computed : MethodName := ⟨kr_M, "computed", "(I)I"⟩
abbrev kc_M_computed : Cond := .code ke_M_computed prog_6_method_37_code 2 (some .int)
def ke_M_count : MethodName := ⟨kr_M, "count", "(I)I"⟩
abbrev kc_M_count : Cond := .code ke_M_count prog_6_method_38_code 2 (some .int)
def ke_P_addStatement : MethodName := ⟨kr_P, "addStatement", "(III)I"⟩
abbrev kc_P_addStatement : Cond := .code ke_P_addStatement prog_4_method_6_code 6 (some .int)
-- call sites
theorem gs_C_104 : GoodIn lw_g (wsV kr_C 104 kr_O ke_O_findSets (kc_O_findSets :: lw_g)) := wk_gV hw_379 hw_380 hw_381 hw_3 hw_382
theorem gs_C_107 : GoodIn lw_g (wsV kr_C 107 kr_O ke_O_countMoved (kc_O_countMoved :: lw_g)) := wk_gV hw_427 hw_428 hw_429 hw_3 hw_430
theorem gs_C_117 : GoodIn lw_g (wsV kr_C 117 kr_O ke_O_setOf (kc_O_setOf :: lw_g)) := wk_gV hw_462 hw_463 hw_464 hw_3 hw_465
theorem gs_C_121 : GoodIn lw_g (wsV kr_C 121 kr_O ke_O_hasEdge (kc_O_hasEdge :: lw_g)) := wk_gV hw_474 hw_475 hw_476 hw_3 hw_477
theorem gs_C_130 : GoodIn lw_g (wsV kr_C 130 kr_O ke_O_putOn (kc_O_putOn :: lw_g)) := wk_gV hw_495 hw_496 hw_497 hw_3 hw_498
theorem gs_C_133 : GoodIn lw_g (wsV kr_C 133 kr_P ke_P_findExpression (kc_P_findExpression :: lw_g)) := wk_gV hw_506 hw_323 hw_324 hw_2 hw_325
theorem gs_C_138 : GoodIn lw_g (wsV kr_C 138 kr_K ke_K_reset (kc_K_reset :: lw_g)) := wk_gV hw_515 hw_516 hw_517 hw_4 hw_518
theorem gs_C_142 : GoodIn lw_g (wsV kr_C 142 kr_K ke_K_goThrough (kc_K_goThrough :: lw_g)) := wk_gV hw_522 hw_523 hw_524 hw_4 hw_525
theorem gs_C_158 : GoodIn lw_g (wsS kr_C 158 ke_C_isVariable (kc_C_isVariable :: lw_g)) := wk_gS hw_294 hw_295 hw_1 hw_296
theorem gs_C_177 : GoodIn lw_g (wsS kr_C 177 ke_C_mayBeBlock (kc_C_mayBeBlock :: lw_g)) := wk_gS hw_345 hw_346 hw_1 hw_347
theorem gs_C_52 : GoodIn lw_g (wsV kr_C 52 kr_P ke_P_addBlock (kc_P_addBlock :: lw_g)) := wk_gV hw_275 hw_276 hw_277 hw_2 hw_278
theorem gs_C_56 : GoodIn lw_g (wsS kr_C 56 ke_C_isStatement (kc_C_isStatement :: lw_g)) := wk_gS hw_291 hw_292 hw_1 hw_293
theorem gs_C_65 : GoodIn lw_g (wsV kr_C 65 kr_P ke_P_takesStatement (kc_P_takesStatement :: lw_g)) := wk_gV hw_313 hw_314 hw_315 hw_2 hw_316
theorem gs_C_71 : GoodIn lw_g (wsV kr_C 71 kr_P ke_P_findOrAddExpression (kc_P_findOrAddExpression :: lw_g)) := wk_gV hw_318 hw_319 hw_320 hw_2 hw_321
theorem gs_C_80 : GoodIn lw_g (wsV kr_C 80 kr_P ke_P_hasBlock (kc_P_hasBlock :: lw_g)) := wk_gV hw_338 hw_339 hw_340 hw_2 hw_341
theorem gs_C_84 : GoodIn lw_g (wsS kr_C 84 ke_C_isEnd (kc_C_isEnd :: lw_g)) := wk_gS hw_342 hw_343 hw_1 hw_344
theorem gs_C_90 : GoodIn lw_g (wsV kr_C 90 kr_P ke_P_changeEnd (kc_P_changeEnd :: lw_g)) := wk_gV hw_349 hw_280 hw_281 hw_2 hw_282
theorem gs_C_96 : GoodIn lw_g (wsV kr_C 96 kr_P ke_P_isWhole (kc_P_isWhole :: lw_g)) := wk_gV hw_359 hw_360 hw_361 hw_2 hw_362
theorem gs_K_102 : GoodIn lw_g (wsV kr_K 102 kr_K ke_K_giveOut (kc_K_giveOut :: lw_g)) := wk_gV hw_548 hw_550 hs_15 hw_4 hw_551
theorem gs_K_106 : GoodIn lw_g (wsV kr_K 106 kr_P ke_P_valueOf (kc_P_valueOf :: lw_g)) := wk_gV hw_535 hw_536 hw_537 hw_2 hw_538
theorem gs_K_42 : GoodIn lw_g (va_wsS kr_K 42 ke_A_fill (kc_A_fill :: lw_g)) := wk_gSU hw_519 hw_520 hw_15 hw_521
theorem gs_K_48 : GoodIn lw_g (wsV kr_K 48 kr_O ke_O_putOn (kc_O_putOn :: lw_g)) := wk_gV hw_526 hw_496 hw_497 hw_3 hw_498
theorem gs_K_54 : GoodIn lw_g (wsV kr_K 54 kr_K ke_K_goAlong (kc_K_goAlong :: lw_g)) := wk_gV hw_527 hw_529 hs_11 hw_4 hw_530
theorem gs_K_62 : GoodIn lw_g (wsV kr_K 62 kr_K ke_K_goThroughBlock (kc_K_goThroughBlock :: lw_g)) := wk_gV hw_539 hw_541 hs_13 hw_4 hw_542
theorem gs_K_80 : GoodIn lw_g (wsV kr_K 80 kr_K ke_K_compute (kc_K_compute :: lw_g)) := wk_gV hw_531 hw_533 hs_12 hw_4 hw_534
theorem gs_K_98 : GoodIn lw_g (wsV kr_K 98 kr_K ke_K_goThroughSimple (kc_K_goThroughSimple :: lw_g)) := wk_gV hw_544 hw_546 hs_14 hw_4 hw_547
theorem gs_M_100 : GoodIn lw_g (wsV kr_M 100 kr_M ke_M_next (kc_M_next :: lw_g)) := wk_gV hw_708 hw_710 hs_19 hw_5 hw_711
theorem gs_M_104 : GoodIn lw_g (wsV kr_M 104 kr_M ke_M_gives (kc_M_gives :: lw_g)) := wk_gV hw_724 hw_726 hs_23 hw_5 hw_727
theorem gs_M_108 : GoodIn lw_g (wsV kr_M 108 kr_M ke_M_edge (kc_M_edge :: lw_g)) := wk_gV hw_736 hw_738 hs_26 hw_5 hw_739
theorem gs_M_111 : GoodIn lw_g (wsV kr_M 111 kr_M ke_M_wantedBehind (kc_M_wantedBehind :: lw_g)) := wk_gV hw_740 hw_742 hs_27 hw_5 hw_743
theorem gs_M_115 : GoodIn lw_g (wsV kr_M 115 kr_M ke_M_earliest (kc_M_earliest :: lw_g)) := wk_gV hw_752 hw_754 hs_30 hw_5 hw_755
theorem gs_M_118 : GoodIn lw_g (wsV kr_M 118 kr_M ke_M_laterOn (kc_M_laterOn :: lw_g)) := wk_gV hw_748 hw_750 hs_29 hw_5 hw_751
theorem gs_M_121 : GoodIn lw_g (wsV kr_M 121 kr_M ke_M_thereBefore (kc_M_thereBefore :: lw_g)) := wk_gV hw_732 hw_734 hs_25 hw_5 hw_735
theorem gs_M_124 : GoodIn lw_g (wsV kr_M 124 kr_M ke_M_lateBefore (kc_M_lateBefore :: lw_g)) := wk_gV hw_744 hw_746 hs_28 hw_5 hw_747
theorem gs_M_127 : GoodIn lw_g (wsV kr_M 127 kr_M ke_M_look (kc_M_look :: lw_g)) := wk_gV hw_720 hw_722 hs_22 hw_5 hw_723
theorem gs_M_131 : GoodIn lw_g (wsV kr_M 131 kr_M ke_M_settle (kc_M_settle :: lw_g)) := wk_gV hw_728 hw_730 hs_24 hw_5 hw_731
theorem gs_M_135 : GoodIn lw_g (wsV kr_M 135 kr_M ke_M_mark (kc_M_mark :: lw_g)) := wk_gV hw_756 hw_758 hs_31 hw_5 hw_759
theorem gs_M_142 : GoodIn lw_g (wsV kr_M 142 kr_M ke_M_whole (kc_M_whole :: lw_g)) := wk_gV hw_704 hw_706 hs_18 hw_5 hw_707
theorem gs_M_146 : GoodIn lw_g (wsV kr_M 146 kr_M ke_M_reach (kc_M_reach :: lw_g)) := wk_gV hw_712 hw_714 hs_20 hw_5 hw_715
theorem gs_M_149 : GoodIn lw_g (wsV kr_M 149 kr_M ke_M_plans (kc_M_plans :: lw_g)) := wk_gV hw_716 hw_718 hs_21 hw_5 hw_719
theorem gs_M_154 : GoodIn lw_g (wsS kr_M 154 ke_M_bits (kc_M_bits :: lw_g)) := wk_gS hw_760 hw_761 hw_5 hw_762
theorem gs_M_157 : GoodIn lw_g (wsV kr_M 157 kr_M ke_M_isEdge (kc_M_isEdge :: lw_g)) := wk_gV hw_771 hw_773 hs_32 hw_5 hw_774
theorem gs_M_163 : GoodIn lw_g (wsV kr_M 163 kr_M ke_M_worked (kc_M_worked :: lw_g)) := wk_gV hw_787 hw_789 hs_34 hw_5 hw_790
theorem gs_M_166 : GoodIn lw_g (wsV kr_M 166 kr_M ke_M_newly (kc_M_newly :: lw_g)) := wk_gV hw_795 hw_797 hs_36 hw_5 hw_798
theorem gs_M_175 : GoodIn lw_g (wsV kr_M 175 kr_M ke_M_cross (kc_M_cross :: lw_g)) := wk_gV hw_783 hw_785 hs_33 hw_5 hw_786
theorem gs_M_178 : GoodIn lw_g (wsV kr_M 178 kr_M ke_M_pass (kc_M_pass :: lw_g)) := wk_gV hw_791 hw_793 hs_35 hw_5 hw_794
theorem gs_M_81 : GoodIn lw_g (wsV kr_M 81 kr_M ke_M_fail (kc_M_fail :: lw_g)) := wk_gV hw_681 hw_683 hs_16 hw_5 hw_684
theorem gs_M_92 : GoodIn lw_g (wsS kr_M 92 ke_M_within (kc_M_within :: lw_g)) := wk_gS hw_689 hw_690 hw_5 hw_691
theorem gs_M_96 : GoodIn lw_g (wsV kr_M 96 kr_M ke_M_find (kc_M_find :: lw_g)) := wk_gV hw_692 hw_694 hs_17 hw_5 hw_695
theorem gs_O_116 : GoodIn lw_g (wsS kr_O 116 ke_O_narrow (kc_O_narrow :: lw_g)) := wk_gS hw_404 hw_405 hw_3 hw_406
theorem gs_O_120 : GoodIn lw_g (wsV kr_O 120 kr_O ke_O_wantedByAll (kc_O_wantedByAll :: lw_g)) := wk_gV hw_411 hw_413 hs_7 hw_3 hw_414
theorem gs_O_123 : GoodIn lw_g (wsV kr_O 123 kr_O ke_O_narrowLate (kc_O_narrowLate :: lw_g)) := wk_gV hw_423 hw_425 hs_10 hw_3 hw_426
theorem gs_O_47 : GoodIn lw_g (wsV kr_O 47 kr_O ke_O_findReached (kc_O_findReached :: lw_g)) := wk_gV hw_383 hw_385 hs_1 hw_3 hw_386
theorem gs_O_56 : GoodIn lw_g (wsV kr_O 56 kr_O ke_O_readBlock (kc_O_readBlock :: lw_g)) := wk_gV hw_391 hw_393 hs_3 hw_3 hw_394
theorem gs_O_60 : GoodIn lw_g (wsV kr_O 60 kr_O ke_O_fillSets (kc_O_fillSets :: lw_g)) := wk_gV hw_396 hw_398 hs_4 hw_3 hw_399
theorem gs_O_63 : GoodIn lw_g (wsV kr_O 63 kr_O ke_O_flowThere (kc_O_flowThere :: lw_g)) := wk_gV hw_400 hw_402 hs_5 hw_3 hw_403
theorem gs_O_66 : GoodIn lw_g (wsV kr_O 66 kr_O ke_O_flowWanted (kc_O_flowWanted :: lw_g)) := wk_gV hw_407 hw_409 hs_6 hw_3 hw_410
theorem gs_O_69 : GoodIn lw_g (wsV kr_O 69 kr_O ke_O_flowLate (kc_O_flowLate :: lw_g)) := wk_gV hw_415 hw_417 hs_8 hw_3 hw_418
theorem gs_O_74 : GoodIn lw_g (va_wsS kr_O 74 ke_G_bitCount (kc_G_bitCount :: lw_g)) := wk_gSU hw_431 hw_432 hw_12 hw_433
theorem gs_O_80 : GoodIn lw_g (wsV kr_O 80 kr_P ke_P_hasBlock (kc_P_hasBlock :: lw_g)) := wk_gV hw_478 hw_339 hw_340 hw_2 hw_341
theorem gs_O_91 : GoodIn lw_g (wsV kr_O 91 kr_O ke_O_laterOn (kc_O_laterOn :: lw_g)) := wk_gV hw_419 hw_421 hs_9 hw_3 hw_422
theorem gs_O_95 : GoodIn lw_g (wsV kr_O 95 kr_O ke_O_reach (kc_O_reach :: lw_g)) := wk_gV hw_387 hw_389 hs_2 hw_3 hw_390
theorem gs_P_53 : GoodIn lw_g (wsV kr_P 53 kr_P ke_P_changeEnd (kc_P_changeEnd :: lw_g)) := wk_gV hw_279 hw_280 hw_281 hw_2 hw_282
theorem gs_P_57 : GoodIn lw_g (wsV kr_P 57 kr_P ke_P_findExpression (kc_P_findExpression :: lw_g)) := wk_gV hw_322 hw_323 hw_324 hw_2 hw_325

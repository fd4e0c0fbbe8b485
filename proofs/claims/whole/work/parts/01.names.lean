-- ===== PART A: goes FIRST, ahead of the names: the tables' words, and 'selects' of the private methods out of them =====
/-- a private method of a class that the tables say can be made, by its rows of tables_1 -/
def lw_okq (q : MethodName × Nat) : Prop := (q.1.cls ≠ "java/lang/invoke/MethodHandle" ∧ q.1.cls ≠ "java/lang/invoke/VarHandle") ∧ Cond.instantiable q.1.cls q.2 ∈ tables_1 ∧ Cond.privateMethod q.1 ∈ tables_1 ∧ Cond.instanceMethod q.1 ∈ tables_1
theorem lw_p0 : lw_okq (⟨"PassiveChecks$Reader", "start", "(LPassiveChecks$Text;LPassiveChecks$Program;)V"⟩, 10) := ⟨⟨by decide +kernel, by decide +kernel⟩, List.mem_of_getElem? (i := 230) (by decide +kernel), List.mem_of_getElem? (i := 531) (by decide +kernel), List.mem_of_getElem? (i := 532) (by decide +kernel)⟩
theorem lw_p1 : lw_okq (⟨"PassiveChecks$Reader", "moveTo", "(I)V"⟩, 10) := ⟨⟨by decide +kernel, by decide +kernel⟩, List.mem_of_getElem? (i := 230) (by decide +kernel), List.mem_of_getElem? (i := 539) (by decide +kernel), List.mem_of_getElem? (i := 540) (by decide +kernel)⟩
theorem lw_p2 : lw_okq (⟨"PassiveChecks$Reader", "closeBlock", "()V"⟩, 10) := ⟨⟨by decide +kernel, by decide +kernel⟩, List.mem_of_getElem? (i := 230) (by decide +kernel), List.mem_of_getElem? (i := 547) (by decide +kernel), List.mem_of_getElem? (i := 548) (by decide +kernel)⟩
theorem lw_p3 : lw_okq (⟨"PassiveChecks$Reader", "pass", "(I)V"⟩, 10) := ⟨⟨by decide +kernel, by decide +kernel⟩, List.mem_of_getElem? (i := 230) (by decide +kernel), List.mem_of_getElem? (i := 559) (by decide +kernel), List.mem_of_getElem? (i := 560) (by decide +kernel)⟩
theorem lw_p4 : lw_okq (⟨"PassiveChecks$Reader", "isAllowed", "()Z"⟩, 10) := ⟨⟨by decide +kernel, by decide +kernel⟩, List.mem_of_getElem? (i := 230) (by decide +kernel), List.mem_of_getElem? (i := 567) (by decide +kernel), List.mem_of_getElem? (i := 568) (by decide +kernel)⟩
theorem lw_p5 : lw_okq (⟨"PassiveChecks$Reader", "readStatement", "()V"⟩, 10) := ⟨⟨by decide +kernel, by decide +kernel⟩, List.mem_of_getElem? (i := 230) (by decide +kernel), List.mem_of_getElem? (i := 574) (by decide +kernel), List.mem_of_getElem? (i := 575) (by decide +kernel)⟩
theorem lw_p6 : lw_okq (⟨"PassiveChecks$Reader", "addStatement", "(I)LPassiveChecks$Statement;"⟩, 10) := ⟨⟨by decide +kernel, by decide +kernel⟩, List.mem_of_getElem? (i := 230) (by decide +kernel), List.mem_of_getElem? (i := 578) (by decide +kernel), List.mem_of_getElem? (i := 579) (by decide +kernel)⟩
theorem lw_p7 : lw_okq (⟨"PassiveChecks$Reader", "addChecks", "(LPassiveChecks$Statement;I)V"⟩, 10) := ⟨⟨by decide +kernel, by decide +kernel⟩, List.mem_of_getElem? (i := 230) (by decide +kernel), List.mem_of_getElem? (i := 583) (by decide +kernel), List.mem_of_getElem? (i := 584) (by decide +kernel)⟩
theorem lw_p8 : lw_okq (⟨"PassiveChecks$Reader", "variable", "()I"⟩, 10) := ⟨⟨by decide +kernel, by decide +kernel⟩, List.mem_of_getElem? (i := 230) (by decide +kernel), List.mem_of_getElem? (i := 595) (by decide +kernel), List.mem_of_getElem? (i := 596) (by decide +kernel)⟩
theorem lw_p9 : lw_okq (⟨"PassiveChecks$Reader", "term", "()I"⟩, 10) := ⟨⟨by decide +kernel, by decide +kernel⟩, List.mem_of_getElem? (i := 230) (by decide +kernel), List.mem_of_getElem? (i := 599) (by decide +kernel), List.mem_of_getElem? (i := 600) (by decide +kernel)⟩
theorem lw_p10 : lw_okq (⟨"PassiveChecks$Reader", "openBlock", "(I)V"⟩, 10) := ⟨⟨by decide +kernel, by decide +kernel⟩, List.mem_of_getElem? (i := 230) (by decide +kernel), List.mem_of_getElem? (i := 613) (by decide +kernel), List.mem_of_getElem? (i := 614) (by decide +kernel)⟩
theorem lw_p11 : lw_okq (⟨"PassiveChecks$Program", "linkOut", "(LPassiveChecks$Statement;)V"⟩, 12) := ⟨⟨by decide +kernel, by decide +kernel⟩, List.mem_of_getElem? (i := 48) (by decide +kernel), List.mem_of_getElem? (i := 622) (by decide +kernel), List.mem_of_getElem? (i := 623) (by decide +kernel)⟩
theorem lw_p12 : lw_okq (⟨"PassiveChecks$Program", "rowBehindBlock", "(LPassiveChecks$Statement;)I"⟩, 12) := ⟨⟨by decide +kernel, by decide +kernel⟩, List.mem_of_getElem? (i := 48) (by decide +kernel), List.mem_of_getElem? (i := 626) (by decide +kernel), List.mem_of_getElem? (i := 627) (by decide +kernel)⟩
theorem lw_p13 : lw_okq (⟨"PassiveChecks$Program", "entry", "(LPassiveChecks$Statement;I)I"⟩, 12) := ⟨⟨by decide +kernel, by decide +kernel⟩, List.mem_of_getElem? (i := 48) (by decide +kernel), List.mem_of_getElem? (i := 631) (by decide +kernel), List.mem_of_getElem? (i := 632) (by decide +kernel)⟩
theorem lw_p14 : lw_okq (⟨"PassiveChecks$Program", "linkIn", "(LPassiveChecks$Statement;)V"⟩, 12) := ⟨⟨by decide +kernel, by decide +kernel⟩, List.mem_of_getElem? (i := 48) (by decide +kernel), List.mem_of_getElem? (i := 635) (by decide +kernel), List.mem_of_getElem? (i := 636) (by decide +kernel)⟩
theorem lw_p15 : lw_okq (⟨"PassiveChecks$Program", "noteModified", "(LPassiveChecks$Statement;)V"⟩, 12) := ⟨⟨by decide +kernel, by decide +kernel⟩, List.mem_of_getElem? (i := 48) (by decide +kernel), List.mem_of_getElem? (i := 639) (by decide +kernel), List.mem_of_getElem? (i := 640) (by decide +kernel)⟩
def lw_privs_1 : List (MethodName × Nat) := [(⟨"PassiveChecks$Reader", "start", "(LPassiveChecks$Text;LPassiveChecks$Program;)V"⟩, 10), (⟨"PassiveChecks$Reader", "moveTo", "(I)V"⟩, 10), (⟨"PassiveChecks$Reader", "closeBlock", "()V"⟩, 10), (⟨"PassiveChecks$Reader", "pass", "(I)V"⟩, 10), (⟨"PassiveChecks$Reader", "isAllowed", "()Z"⟩, 10), (⟨"PassiveChecks$Reader", "readStatement", "()V"⟩, 10), (⟨"PassiveChecks$Reader", "addStatement", "(I)LPassiveChecks$Statement;"⟩, 10), (⟨"PassiveChecks$Reader", "addChecks", "(LPassiveChecks$Statement;I)V"⟩, 10), (⟨"PassiveChecks$Reader", "variable", "()I"⟩, 10), (⟨"PassiveChecks$Reader", "term", "()I"⟩, 10), (⟨"PassiveChecks$Reader", "openBlock", "(I)V"⟩, 10), (⟨"PassiveChecks$Program", "linkOut", "(LPassiveChecks$Statement;)V"⟩, 12), (⟨"PassiveChecks$Program", "rowBehindBlock", "(LPassiveChecks$Statement;)I"⟩, 12), (⟨"PassiveChecks$Program", "entry", "(LPassiveChecks$Statement;I)I"⟩, 12), (⟨"PassiveChecks$Program", "linkIn", "(LPassiveChecks$Statement;)V"⟩, 12), (⟨"PassiveChecks$Program", "noteModified", "(LPassiveChecks$Statement;)V"⟩, 12)]
theorem lw_r1 : ∀ q ∈ lw_privs_1, lw_okq q := List.forall_mem_cons.mpr ⟨lw_p0, List.forall_mem_cons.mpr ⟨lw_p1, List.forall_mem_cons.mpr ⟨lw_p2, List.forall_mem_cons.mpr ⟨lw_p3, List.forall_mem_cons.mpr ⟨lw_p4, List.forall_mem_cons.mpr ⟨lw_p5, List.forall_mem_cons.mpr ⟨lw_p6, List.forall_mem_cons.mpr ⟨lw_p7, List.forall_mem_cons.mpr ⟨lw_p8, List.forall_mem_cons.mpr ⟨lw_p9, List.forall_mem_cons.mpr ⟨lw_p10, List.forall_mem_cons.mpr ⟨lw_p11, List.forall_mem_cons.mpr ⟨lw_p12, List.forall_mem_cons.mpr ⟨lw_p13, List.forall_mem_cons.mpr ⟨lw_p14, List.forall_mem_cons.mpr ⟨lw_p15, fun _ h => absurd h List.not_mem_nil⟩⟩⟩⟩⟩⟩⟩⟩⟩⟩⟩⟩⟩⟩⟩⟩
theorem lw_p16 : lw_okq (⟨"PassiveChecks", "changeToSpare", "()V"⟩, 15) := ⟨⟨by decide +kernel, by decide +kernel⟩, List.mem_of_getElem? (i := 20) (by decide +kernel), List.mem_of_getElem? (i := 652) (by decide +kernel), List.mem_of_getElem? (i := 653) (by decide +kernel)⟩
theorem lw_p17 : lw_okq (⟨"PassiveChecks", "dropOldest", "()V"⟩, 15) := ⟨⟨by decide +kernel, by decide +kernel⟩, List.mem_of_getElem? (i := 20) (by decide +kernel), List.mem_of_getElem? (i := 656) (by decide +kernel), List.mem_of_getElem? (i := 657) (by decide +kernel)⟩
theorem lw_p18 : lw_okq (⟨"PassiveChecks", "readPresent", "()V"⟩, 15) := ⟨⟨by decide +kernel, by decide +kernel⟩, List.mem_of_getElem? (i := 20) (by decide +kernel), List.mem_of_getElem? (i := 670) (by decide +kernel), List.mem_of_getElem? (i := 671) (by decide +kernel)⟩
theorem lw_p19 : lw_okq (⟨"PassiveChecks$Values", "evaluate", "(III)I"⟩, 4) := ⟨⟨by decide +kernel, by decide +kernel⟩, List.mem_of_getElem? (i := 273) (by decide +kernel), List.mem_of_getElem? (i := 745) (by decide +kernel), List.mem_of_getElem? (i := 746) (by decide +kernel)⟩
theorem lw_p20 : lw_okq (⟨"PassiveChecks$Walk", "startAgain", "()V"⟩, 10) := ⟨⟨by decide +kernel, by decide +kernel⟩, List.mem_of_getElem? (i := 317) (by decide +kernel), List.mem_of_getElem? (i := 780) (by decide +kernel), List.mem_of_getElem? (i := 781) (by decide +kernel)⟩
theorem lw_p21 : lw_okq (⟨"PassiveChecks$Walk", "goFrom", "(I)V"⟩, 10) := ⟨⟨by decide +kernel, by decide +kernel⟩, List.mem_of_getElem? (i := 317) (by decide +kernel), List.mem_of_getElem? (i := 794) (by decide +kernel), List.mem_of_getElem? (i := 795) (by decide +kernel)⟩
theorem lw_p22 : lw_okq (⟨"PassiveChecks$Walk", "open", "(II)V"⟩, 10) := ⟨⟨by decide +kernel, by decide +kernel⟩, List.mem_of_getElem? (i := 317) (by decide +kernel), List.mem_of_getElem? (i := 798) (by decide +kernel), List.mem_of_getElem? (i := 799) (by decide +kernel)⟩
theorem lw_p23 : lw_okq (⟨"PassiveChecks$Steps", "ofStatement", "(LPassiveChecks$Statement;II)I"⟩, 4) := ⟨⟨by decide +kernel, by decide +kernel⟩, List.mem_of_getElem? (i := 293) (by decide +kernel), List.mem_of_getElem? (i := 808) (by decide +kernel), List.mem_of_getElem? (i := 809) (by decide +kernel)⟩
theorem lw_p24 : lw_okq (⟨"PassiveChecks$Steps", "add", "(II)V"⟩, 4) := ⟨⟨by decide +kernel, by decide +kernel⟩, List.mem_of_getElem? (i := 293) (by decide +kernel), List.mem_of_getElem? (i := 817) (by decide +kernel), List.mem_of_getElem? (i := 818) (by decide +kernel)⟩
theorem lw_p25 : lw_okq (⟨"PassiveChecks$Steps", "addHavoc", "(LPassiveChecks$Statement;I)V"⟩, 4) := ⟨⟨by decide +kernel, by decide +kernel⟩, List.mem_of_getElem? (i := 293) (by decide +kernel), List.mem_of_getElem? (i := 821) (by decide +kernel), List.mem_of_getElem? (i := 822) (by decide +kernel)⟩
theorem lw_p26 : lw_okq (⟨"PassiveChecks$Steps", "ofCutLoop", "(LPassiveChecks$Statement;I)I"⟩, 4) := ⟨⟨by decide +kernel, by decide +kernel⟩, List.mem_of_getElem? (i := 293) (by decide +kernel), List.mem_of_getElem? (i := 826) (by decide +kernel), List.mem_of_getElem? (i := 827) (by decide +kernel)⟩
theorem lw_p27 : lw_okq (⟨"PassiveChecks$Steps", "ofHead", "(LPassiveChecks$Statement;I)V"⟩, 4) := ⟨⟨by decide +kernel, by decide +kernel⟩, List.mem_of_getElem? (i := 293) (by decide +kernel), List.mem_of_getElem? (i := 831) (by decide +kernel), List.mem_of_getElem? (i := 832) (by decide +kernel)⟩
theorem lw_p28 : lw_okq (⟨"PassiveChecks$Steps", "ofBack", "(III)I"⟩, 4) := ⟨⟨by decide +kernel, by decide +kernel⟩, List.mem_of_getElem? (i := 293) (by decide +kernel), List.mem_of_getElem? (i := 835) (by decide +kernel), List.mem_of_getElem? (i := 836) (by decide +kernel)⟩
theorem lw_p29 : lw_okq (⟨"PassiveChecks$Walk", "firstNotMet", "()I"⟩, 10) := ⟨⟨by decide +kernel, by decide +kernel⟩, List.mem_of_getElem? (i := 317) (by decide +kernel), List.mem_of_getElem? (i := 840) (by decide +kernel), List.mem_of_getElem? (i := 841) (by decide +kernel)⟩
theorem lw_p30 : lw_okq (⟨"PassiveChecks$Walk", "finish", "(II)V"⟩, 10) := ⟨⟨by decide +kernel, by decide +kernel⟩, List.mem_of_getElem? (i := 317) (by decide +kernel), List.mem_of_getElem? (i := 844) (by decide +kernel), List.mem_of_getElem? (i := 845) (by decide +kernel)⟩
theorem lw_p31 : lw_okq (⟨"PassiveChecks$Walk", "close", "(I)V"⟩, 10) := ⟨⟨by decide +kernel, by decide +kernel⟩, List.mem_of_getElem? (i := 317) (by decide +kernel), List.mem_of_getElem? (i := 854) (by decide +kernel), List.mem_of_getElem? (i := 855) (by decide +kernel)⟩
def lw_privs_2 : List (MethodName × Nat) := [(⟨"PassiveChecks", "changeToSpare", "()V"⟩, 15), (⟨"PassiveChecks", "dropOldest", "()V"⟩, 15), (⟨"PassiveChecks", "readPresent", "()V"⟩, 15), (⟨"PassiveChecks$Values", "evaluate", "(III)I"⟩, 4), (⟨"PassiveChecks$Walk", "startAgain", "()V"⟩, 10), (⟨"PassiveChecks$Walk", "goFrom", "(I)V"⟩, 10), (⟨"PassiveChecks$Walk", "open", "(II)V"⟩, 10), (⟨"PassiveChecks$Steps", "ofStatement", "(LPassiveChecks$Statement;II)I"⟩, 4), (⟨"PassiveChecks$Steps", "add", "(II)V"⟩, 4), (⟨"PassiveChecks$Steps", "addHavoc", "(LPassiveChecks$Statement;I)V"⟩, 4), (⟨"PassiveChecks$Steps", "ofCutLoop", "(LPassiveChecks$Statement;I)I"⟩, 4), (⟨"PassiveChecks$Steps", "ofHead", "(LPassiveChecks$Statement;I)V"⟩, 4), (⟨"PassiveChecks$Steps", "ofBack", "(III)I"⟩, 4), (⟨"PassiveChecks$Walk", "firstNotMet", "()I"⟩, 10), (⟨"PassiveChecks$Walk", "finish", "(II)V"⟩, 10), (⟨"PassiveChecks$Walk", "close", "(I)V"⟩, 10)]
theorem lw_r2 : ∀ q ∈ lw_privs_2, lw_okq q := List.forall_mem_cons.mpr ⟨lw_p16, List.forall_mem_cons.mpr ⟨lw_p17, List.forall_mem_cons.mpr ⟨lw_p18, List.forall_mem_cons.mpr ⟨lw_p19, List.forall_mem_cons.mpr ⟨lw_p20, List.forall_mem_cons.mpr ⟨lw_p21, List.forall_mem_cons.mpr ⟨lw_p22, List.forall_mem_cons.mpr ⟨lw_p23, List.forall_mem_cons.mpr ⟨lw_p24, List.forall_mem_cons.mpr ⟨lw_p25, List.forall_mem_cons.mpr ⟨lw_p26, List.forall_mem_cons.mpr ⟨lw_p27, List.forall_mem_cons.mpr ⟨lw_p28, List.forall_mem_cons.mpr ⟨lw_p29, List.forall_mem_cons.mpr ⟨lw_p30, List.forall_mem_cons.mpr ⟨lw_p31, fun _ h => absurd h List.not_mem_nil⟩⟩⟩⟩⟩⟩⟩⟩⟩⟩⟩⟩⟩⟩⟩⟩
theorem lw_p32 : lw_okq (⟨"PassiveChecks$CutRuns", "clearNotes", "()V"⟩, 4) := ⟨⟨by decide +kernel, by decide +kernel⟩, List.mem_of_getElem? (i := 356) (by decide +kernel), List.mem_of_getElem? (i := 863) (by decide +kernel), List.mem_of_getElem? (i := 864) (by decide +kernel)⟩
theorem lw_p33 : lw_okq (⟨"PassiveChecks$CutRuns", "noteSecondCheck", "(I)V"⟩, 4) := ⟨⟨by decide +kernel, by decide +kernel⟩, List.mem_of_getElem? (i := 356) (by decide +kernel), List.mem_of_getElem? (i := 873) (by decide +kernel), List.mem_of_getElem? (i := 874) (by decide +kernel)⟩
theorem lw_p34 : lw_okq (⟨"PassiveChecks$CutRuns", "sweep", "(IIZ)V"⟩, 4) := ⟨⟨by decide +kernel, by decide +kernel⟩, List.mem_of_getElem? (i := 356) (by decide +kernel), List.mem_of_getElem? (i := 878) (by decide +kernel), List.mem_of_getElem? (i := 879) (by decide +kernel)⟩
theorem lw_p35 : lw_okq (⟨"PassiveChecks$Inductive", "begin", "(I)V"⟩, 4) := ⟨⟨by decide +kernel, by decide +kernel⟩, List.mem_of_getElem? (i := 375) (by decide +kernel), List.mem_of_getElem? (i := 940) (by decide +kernel), List.mem_of_getElem? (i := 941) (by decide +kernel)⟩
theorem lw_p36 : lw_okq (⟨"PassiveChecks$Inductive", "isRoundRemoving", "()Z"⟩, 4) := ⟨⟨by decide +kernel, by decide +kernel⟩, List.mem_of_getElem? (i := 375) (by decide +kernel), List.mem_of_getElem? (i := 948) (by decide +kernel), List.mem_of_getElem? (i := 949) (by decide +kernel)⟩
theorem lw_p37 : lw_okq (⟨"PassiveChecks$Inductive", "canLeave", "(I)Z"⟩, 4) := ⟨⟨by decide +kernel, by decide +kernel⟩, List.mem_of_getElem? (i := 375) (by decide +kernel), List.mem_of_getElem? (i := 952) (by decide +kernel), List.mem_of_getElem? (i := 953) (by decide +kernel)⟩
theorem lw_p38 : lw_okq (⟨"PassiveChecks$Passive", "traverseBlock", "(IJII)J"⟩, 7) := ⟨⟨by decide +kernel, by decide +kernel⟩, List.mem_of_getElem? (i := 434) (by decide +kernel), List.mem_of_getElem? (i := 975) (by decide +kernel), List.mem_of_getElem? (i := 976) (by decide +kernel)⟩
theorem lw_p39 : lw_okq (⟨"PassiveChecks$Passive", "traverseStatement", "(LPassiveChecks$Statement;JII)J"⟩, 7) := ⟨⟨by decide +kernel, by decide +kernel⟩, List.mem_of_getElem? (i := 434) (by decide +kernel), List.mem_of_getElem? (i := 981) (by decide +kernel), List.mem_of_getElem? (i := 982) (by decide +kernel)⟩
theorem lw_p40 : lw_okq (⟨"PassiveChecks$Passive", "renewed", "(JI)J"⟩, 7) := ⟨⟨by decide +kernel, by decide +kernel⟩, List.mem_of_getElem? (i := 434) (by decide +kernel), List.mem_of_getElem? (i := 987) (by decide +kernel), List.mem_of_getElem? (i := 988) (by decide +kernel)⟩
theorem lw_p41 : lw_okq (⟨"PassiveChecks$Passive", "noteThrow", "(IJ)V"⟩, 7) := ⟨⟨by decide +kernel, by decide +kernel⟩, List.mem_of_getElem? (i := 434) (by decide +kernel), List.mem_of_getElem? (i := 992) (by decide +kernel), List.mem_of_getElem? (i := 993) (by decide +kernel)⟩
theorem lw_p42 : lw_okq (⟨"PassiveChecks$Passive", "joined", "(JJ)J"⟩, 7) := ⟨⟨by decide +kernel, by decide +kernel⟩, List.mem_of_getElem? (i := 434) (by decide +kernel), List.mem_of_getElem? (i := 999) (by decide +kernel), List.mem_of_getElem? (i := 1000) (by decide +kernel)⟩
theorem lw_p43 : lw_okq (⟨"PassiveChecks$Passive", "traverseTry", "(LPassiveChecks$Statement;JII)J"⟩, 7) := ⟨⟨by decide +kernel, by decide +kernel⟩, List.mem_of_getElem? (i := 434) (by decide +kernel), List.mem_of_getElem? (i := 1009) (by decide +kernel), List.mem_of_getElem? (i := 1010) (by decide +kernel)⟩
theorem lw_p44 : lw_okq (⟨"PassiveChecks$Passive", "copyBlock", "(IJJI)J"⟩, 7) := ⟨⟨by decide +kernel, by decide +kernel⟩, List.mem_of_getElem? (i := 434) (by decide +kernel), List.mem_of_getElem? (i := 1029) (by decide +kernel), List.mem_of_getElem? (i := 1030) (by decide +kernel)⟩
theorem lw_p45 : lw_okq (⟨"PassiveChecks$Passive", "copyStatement", "(LPassiveChecks$Statement;JJI)J"⟩, 7) := ⟨⟨by decide +kernel, by decide +kernel⟩, List.mem_of_getElem? (i := 434) (by decide +kernel), List.mem_of_getElem? (i := 1033) (by decide +kernel), List.mem_of_getElem? (i := 1034) (by decide +kernel)⟩
theorem lw_p46 : lw_okq (⟨"PassiveChecks", "startsFound", "()I"⟩, 15) := ⟨⟨by decide +kernel, by decide +kernel⟩, List.mem_of_getElem? (i := 20) (by decide +kernel), List.mem_of_getElem? (i := 1051) (by decide +kernel), List.mem_of_getElem? (i := 1052) (by decide +kernel)⟩
theorem lw_p47 : lw_okq (⟨"PassiveChecks", "isStart", "(I)Z"⟩, 15) := ⟨⟨by decide +kernel, by decide +kernel⟩, List.mem_of_getElem? (i := 20) (by decide +kernel), List.mem_of_getElem? (i := 1055) (by decide +kernel), List.mem_of_getElem? (i := 1056) (by decide +kernel)⟩
def lw_privs_3 : List (MethodName × Nat) := [(⟨"PassiveChecks$CutRuns", "clearNotes", "()V"⟩, 4), (⟨"PassiveChecks$CutRuns", "noteSecondCheck", "(I)V"⟩, 4), (⟨"PassiveChecks$CutRuns", "sweep", "(IIZ)V"⟩, 4), (⟨"PassiveChecks$Inductive", "begin", "(I)V"⟩, 4), (⟨"PassiveChecks$Inductive", "isRoundRemoving", "()Z"⟩, 4), (⟨"PassiveChecks$Inductive", "canLeave", "(I)Z"⟩, 4), (⟨"PassiveChecks$Passive", "traverseBlock", "(IJII)J"⟩, 7), (⟨"PassiveChecks$Passive", "traverseStatement", "(LPassiveChecks$Statement;JII)J"⟩, 7), (⟨"PassiveChecks$Passive", "renewed", "(JI)J"⟩, 7), (⟨"PassiveChecks$Passive", "noteThrow", "(IJ)V"⟩, 7), (⟨"PassiveChecks$Passive", "joined", "(JJ)J"⟩, 7), (⟨"PassiveChecks$Passive", "traverseTry", "(LPassiveChecks$Statement;JII)J"⟩, 7), (⟨"PassiveChecks$Passive", "copyBlock", "(IJJI)J"⟩, 7), (⟨"PassiveChecks$Passive", "copyStatement", "(LPassiveChecks$Statement;JJI)J"⟩, 7), (⟨"PassiveChecks", "startsFound", "()I"⟩, 15), (⟨"PassiveChecks", "isStart", "(I)Z"⟩, 15)]
theorem lw_r3 : ∀ q ∈ lw_privs_3, lw_okq q := List.forall_mem_cons.mpr ⟨lw_p32, List.forall_mem_cons.mpr ⟨lw_p33, List.forall_mem_cons.mpr ⟨lw_p34, List.forall_mem_cons.mpr ⟨lw_p35, List.forall_mem_cons.mpr ⟨lw_p36, List.forall_mem_cons.mpr ⟨lw_p37, List.forall_mem_cons.mpr ⟨lw_p38, List.forall_mem_cons.mpr ⟨lw_p39, List.forall_mem_cons.mpr ⟨lw_p40, List.forall_mem_cons.mpr ⟨lw_p41, List.forall_mem_cons.mpr ⟨lw_p42, List.forall_mem_cons.mpr ⟨lw_p43, List.forall_mem_cons.mpr ⟨lw_p44, List.forall_mem_cons.mpr ⟨lw_p45, List.forall_mem_cons.mpr ⟨lw_p46, List.forall_mem_cons.mpr ⟨lw_p47, fun _ h => absurd h List.not_mem_nil⟩⟩⟩⟩⟩⟩⟩⟩⟩⟩⟩⟩⟩⟩⟩⟩
theorem lw_p48 : lw_okq (⟨"PassiveChecks", "lowestStart", "()I"⟩, 15) := ⟨⟨by decide +kernel, by decide +kernel⟩, List.mem_of_getElem? (i := 20) (by decide +kernel), List.mem_of_getElem? (i := 1059) (by decide +kernel), List.mem_of_getElem? (i := 1060) (by decide +kernel)⟩
theorem lw_p49 : lw_okq (⟨"PassiveChecks", "largestGroup", "(I)I"⟩, 15) := ⟨⟨by decide +kernel, by decide +kernel⟩, List.mem_of_getElem? (i := 20) (by decide +kernel), List.mem_of_getElem? (i := 1067) (by decide +kernel), List.mem_of_getElem? (i := 1068) (by decide +kernel)⟩
theorem lw_p50 : lw_okq (⟨"PassiveChecksModel", "takeText", "()V"⟩, 74) := ⟨⟨by decide +kernel, by decide +kernel⟩, List.mem_of_getElem? (i := 1085) (by decide +kernel), List.mem_of_getElem? (i := 1330) (by decide +kernel), List.mem_of_getElem? (i := 1331) (by decide +kernel)⟩
theorem lw_p51 : lw_okq (⟨"PassiveChecksModel", "readProgram", "()I"⟩, 74) := ⟨⟨by decide +kernel, by decide +kernel⟩, List.mem_of_getElem? (i := 1085) (by decide +kernel), List.mem_of_getElem? (i := 1334) (by decide +kernel), List.mem_of_getElem? (i := 1335) (by decide +kernel)⟩
theorem lw_p52 : lw_okq (⟨"PassiveChecksModel", "here", "()I"⟩, 74) := ⟨⟨by decide +kernel, by decide +kernel⟩, List.mem_of_getElem? (i := 1085) (by decide +kernel), List.mem_of_getElem? (i := 1338) (by decide +kernel), List.mem_of_getElem? (i := 1339) (by decide +kernel)⟩
theorem lw_p53 : lw_okq (⟨"PassiveChecksModel", "readClose", "()V"⟩, 74) := ⟨⟨by decide +kernel, by decide +kernel⟩, List.mem_of_getElem? (i := 1085) (by decide +kernel), List.mem_of_getElem? (i := 1342) (by decide +kernel), List.mem_of_getElem? (i := 1343) (by decide +kernel)⟩
theorem lw_p54 : lw_okq (⟨"PassiveChecksModel", "readOpen", "(II)V"⟩, 74) := ⟨⟨by decide +kernel, by decide +kernel⟩, List.mem_of_getElem? (i := 1085) (by decide +kernel), List.mem_of_getElem? (i := 1346) (by decide +kernel), List.mem_of_getElem? (i := 1347) (by decide +kernel)⟩
theorem lw_p55 : lw_okq (⟨"PassiveChecksModel", "must", "(Z)V"⟩, 74) := ⟨⟨by decide +kernel, by decide +kernel⟩, List.mem_of_getElem? (i := 1085) (by decide +kernel), List.mem_of_getElem? (i := 1350) (by decide +kernel), List.mem_of_getElem? (i := 1351) (by decide +kernel)⟩
theorem lw_p56 : lw_okq (⟨"PassiveChecksModel", "readStatement", "()V"⟩, 74) := ⟨⟨by decide +kernel, by decide +kernel⟩, List.mem_of_getElem? (i := 1085) (by decide +kernel), List.mem_of_getElem? (i := 1354) (by decide +kernel), List.mem_of_getElem? (i := 1355) (by decide +kernel)⟩
theorem lw_p57 : lw_okq (⟨"PassiveChecksModel", "loopsAround", "()I"⟩, 74) := ⟨⟨by decide +kernel, by decide +kernel⟩, List.mem_of_getElem? (i := 1085) (by decide +kernel), List.mem_of_getElem? (i := 1367) (by decide +kernel), List.mem_of_getElem? (i := 1368) (by decide +kernel)⟩
theorem lw_p58 : lw_okq (⟨"PassiveChecksModel", "readRest", "(II)V"⟩, 74) := ⟨⟨by decide +kernel, by decide +kernel⟩, List.mem_of_getElem? (i := 1085) (by decide +kernel), List.mem_of_getElem? (i := 1371) (by decide +kernel), List.mem_of_getElem? (i := 1372) (by decide +kernel)⟩
theorem lw_p59 : lw_okq (⟨"PassiveChecksModel", "readName", "()I"⟩, 74) := ⟨⟨by decide +kernel, by decide +kernel⟩, List.mem_of_getElem? (i := 1085) (by decide +kernel), List.mem_of_getElem? (i := 1375) (by decide +kernel), List.mem_of_getElem? (i := 1376) (by decide +kernel)⟩
theorem lw_p60 : lw_okq (⟨"PassiveChecksModel", "readTerm", "()I"⟩, 74) := ⟨⟨by decide +kernel, by decide +kernel⟩, List.mem_of_getElem? (i := 1085) (by decide +kernel), List.mem_of_getElem? (i := 1379) (by decide +kernel), List.mem_of_getElem? (i := 1380) (by decide +kernel)⟩
theorem lw_p61 : lw_okq (⟨"PassiveChecksModel", "forgetAll", "()V"⟩, 74) := ⟨⟨by decide +kernel, by decide +kernel⟩, List.mem_of_getElem? (i := 1085) (by decide +kernel), List.mem_of_getElem? (i := 1386) (by decide +kernel), List.mem_of_getElem? (i := 1387) (by decide +kernel)⟩
theorem lw_p62 : lw_okq (⟨"PassiveChecksModel", "note", "()V"⟩, 74) := ⟨⟨by decide +kernel, by decide +kernel⟩, List.mem_of_getElem? (i := 1085) (by decide +kernel), List.mem_of_getElem? (i := 1390) (by decide +kernel), List.mem_of_getElem? (i := 1391) (by decide +kernel)⟩
theorem lw_p63 : lw_okq (⟨"PassiveChecksModel", "read", "()V"⟩, 74) := ⟨⟨by decide +kernel, by decide +kernel⟩, List.mem_of_getElem? (i := 1085) (by decide +kernel), List.mem_of_getElem? (i := 1398) (by decide +kernel), List.mem_of_getElem? (i := 1399) (by decide +kernel)⟩
def lw_privs_4 : List (MethodName × Nat) := [(⟨"PassiveChecks", "lowestStart", "()I"⟩, 15), (⟨"PassiveChecks", "largestGroup", "(I)I"⟩, 15), (⟨"PassiveChecksModel", "takeText", "()V"⟩, 74), (⟨"PassiveChecksModel", "readProgram", "()I"⟩, 74), (⟨"PassiveChecksModel", "here", "()I"⟩, 74), (⟨"PassiveChecksModel", "readClose", "()V"⟩, 74), (⟨"PassiveChecksModel", "readOpen", "(II)V"⟩, 74), (⟨"PassiveChecksModel", "must", "(Z)V"⟩, 74), (⟨"PassiveChecksModel", "readStatement", "()V"⟩, 74), (⟨"PassiveChecksModel", "loopsAround", "()I"⟩, 74), (⟨"PassiveChecksModel", "readRest", "(II)V"⟩, 74), (⟨"PassiveChecksModel", "readName", "()I"⟩, 74), (⟨"PassiveChecksModel", "readTerm", "()I"⟩, 74), (⟨"PassiveChecksModel", "forgetAll", "()V"⟩, 74), (⟨"PassiveChecksModel", "note", "()V"⟩, 74), (⟨"PassiveChecksModel", "read", "()V"⟩, 74)]
theorem lw_r4 : ∀ q ∈ lw_privs_4, lw_okq q := List.forall_mem_cons.mpr ⟨lw_p48, List.forall_mem_cons.mpr ⟨lw_p49, List.forall_mem_cons.mpr ⟨lw_p50, List.forall_mem_cons.mpr ⟨lw_p51, List.forall_mem_cons.mpr ⟨lw_p52, List.forall_mem_cons.mpr ⟨lw_p53, List.forall_mem_cons.mpr ⟨lw_p54, List.forall_mem_cons.mpr ⟨lw_p55, List.forall_mem_cons.mpr ⟨lw_p56, List.forall_mem_cons.mpr ⟨lw_p57, List.forall_mem_cons.mpr ⟨lw_p58, List.forall_mem_cons.mpr ⟨lw_p59, List.forall_mem_cons.mpr ⟨lw_p60, List.forall_mem_cons.mpr ⟨lw_p61, List.forall_mem_cons.mpr ⟨lw_p62, List.forall_mem_cons.mpr ⟨lw_p63, fun _ h => absurd h List.not_mem_nil⟩⟩⟩⟩⟩⟩⟩⟩⟩⟩⟩⟩⟩⟩⟩⟩
theorem lw_p64 : lw_okq (⟨"PassiveChecksModel", "takeNow", "()V"⟩, 74) := ⟨⟨by decide +kernel, by decide +kernel⟩, List.mem_of_getElem? (i := 1085) (by decide +kernel), List.mem_of_getElem? (i := 1402) (by decide +kernel), List.mem_of_getElem? (i := 1403) (by decide +kernel)⟩
theorem lw_p65 : lw_okq (⟨"PassiveChecksModel", "anyOf", "(I)I"⟩, 74) := ⟨⟨by decide +kernel, by decide +kernel⟩, List.mem_of_getElem? (i := 1085) (by decide +kernel), List.mem_of_getElem? (i := 1422) (by decide +kernel), List.mem_of_getElem? (i := 1423) (by decide +kernel)⟩
theorem lw_p66 : lw_okq (⟨"PassiveChecksModel", "valueOf", "(III)I"⟩, 74) := ⟨⟨by decide +kernel, by decide +kernel⟩, List.mem_of_getElem? (i := 1085) (by decide +kernel), List.mem_of_getElem? (i := 1426) (by decide +kernel), List.mem_of_getElem? (i := 1427) (by decide +kernel)⟩
theorem lw_p67 : lw_okq (⟨"PassiveChecksModel", "isCheck", "(I)Z"⟩, 74) := ⟨⟨by decide +kernel, by decide +kernel⟩, List.mem_of_getElem? (i := 1085) (by decide +kernel), List.mem_of_getElem? (i := 1437) (by decide +kernel), List.mem_of_getElem? (i := 1438) (by decide +kernel)⟩
theorem lw_p68 : lw_okq (⟨"PassiveChecksModel", "findMasks", "(I)V"⟩, 74) := ⟨⟨by decide +kernel, by decide +kernel⟩, List.mem_of_getElem? (i := 1085) (by decide +kernel), List.mem_of_getElem? (i := 1441) (by decide +kernel), List.mem_of_getElem? (i := 1442) (by decide +kernel)⟩
theorem lw_p69 : lw_okq (⟨"PassiveChecksModel", "lay", "(I)V"⟩, 74) := ⟨⟨by decide +kernel, by decide +kernel⟩, List.mem_of_getElem? (i := 1085) (by decide +kernel), List.mem_of_getElem? (i := 1445) (by decide +kernel), List.mem_of_getElem? (i := 1446) (by decide +kernel)⟩
theorem lw_p70 : lw_okq (⟨"PassiveChecksModel", "emitEvent", "(II)V"⟩, 74) := ⟨⟨by decide +kernel, by decide +kernel⟩, List.mem_of_getElem? (i := 1085) (by decide +kernel), List.mem_of_getElem? (i := 1449) (by decide +kernel), List.mem_of_getElem? (i := 1450) (by decide +kernel)⟩
theorem lw_p71 : lw_okq (⟨"PassiveChecksModel", "emit", "(IIII)V"⟩, 74) := ⟨⟨by decide +kernel, by decide +kernel⟩, List.mem_of_getElem? (i := 1085) (by decide +kernel), List.mem_of_getElem? (i := 1453) (by decide +kernel), List.mem_of_getElem? (i := 1454) (by decide +kernel)⟩
theorem lw_p72 : lw_okq (⟨"PassiveChecksModel", "tryAround", "()I"⟩, 74) := ⟨⟨by decide +kernel, by decide +kernel⟩, List.mem_of_getElem? (i := 1085) (by decide +kernel), List.mem_of_getElem? (i := 1457) (by decide +kernel), List.mem_of_getElem? (i := 1458) (by decide +kernel)⟩
theorem lw_p73 : lw_okq (⟨"PassiveChecksModel", "emitLoop", "(II)V"⟩, 74) := ⟨⟨by decide +kernel, by decide +kernel⟩, List.mem_of_getElem? (i := 1085) (by decide +kernel), List.mem_of_getElem? (i := 1461) (by decide +kernel), List.mem_of_getElem? (i := 1462) (by decide +kernel)⟩
theorem lw_p74 : lw_okq (⟨"PassiveChecksModel", "emitClose", "(II)V"⟩, 74) := ⟨⟨by decide +kernel, by decide +kernel⟩, List.mem_of_getElem? (i := 1085) (by decide +kernel), List.mem_of_getElem? (i := 1468) (by decide +kernel), List.mem_of_getElem? (i := 1469) (by decide +kernel)⟩
theorem lw_p75 : lw_okq (⟨"PassiveChecksModel", "canBy", "(II)I"⟩, 74) := ⟨⟨by decide +kernel, by decide +kernel⟩, List.mem_of_getElem? (i := 1085) (by decide +kernel), List.mem_of_getElem? (i := 1472) (by decide +kernel), List.mem_of_getElem? (i := 1473) (by decide +kernel)⟩
theorem lw_p76 : lw_okq (⟨"PassiveChecksModel", "canFrom", "(II)I"⟩, 74) := ⟨⟨by decide +kernel, by decide +kernel⟩, List.mem_of_getElem? (i := 1085) (by decide +kernel), List.mem_of_getElem? (i := 1479) (by decide +kernel), List.mem_of_getElem? (i := 1480) (by decide +kernel)⟩
theorem lw_p77 : lw_okq (⟨"PassiveChecksModel", "goThrough", "(III)V"⟩, 74) := ⟨⟨by decide +kernel, by decide +kernel⟩, List.mem_of_getElem? (i := 1085) (by decide +kernel), List.mem_of_getElem? (i := 1496) (by decide +kernel), List.mem_of_getElem? (i := 1497) (by decide +kernel)⟩
theorem lw_p78 : lw_okq (⟨"PassiveChecksModel", "come", "(II)V"⟩, 74) := ⟨⟨by decide +kernel, by decide +kernel⟩, List.mem_of_getElem? (i := 1085) (by decide +kernel), List.mem_of_getElem? (i := 1500) (by decide +kernel), List.mem_of_getElem? (i := 1501) (by decide +kernel)⟩
theorem lw_p79 : lw_okq (⟨"PassiveChecksModel", "goOn", "(II)V"⟩, 74) := ⟨⟨by decide +kernel, by decide +kernel⟩, List.mem_of_getElem? (i := 1085) (by decide +kernel), List.mem_of_getElem? (i := 1504) (by decide +kernel), List.mem_of_getElem? (i := 1505) (by decide +kernel)⟩
def lw_privs_5 : List (MethodName × Nat) := [(⟨"PassiveChecksModel", "takeNow", "()V"⟩, 74), (⟨"PassiveChecksModel", "anyOf", "(I)I"⟩, 74), (⟨"PassiveChecksModel", "valueOf", "(III)I"⟩, 74), (⟨"PassiveChecksModel", "isCheck", "(I)Z"⟩, 74), (⟨"PassiveChecksModel", "findMasks", "(I)V"⟩, 74), (⟨"PassiveChecksModel", "lay", "(I)V"⟩, 74), (⟨"PassiveChecksModel", "emitEvent", "(II)V"⟩, 74), (⟨"PassiveChecksModel", "emit", "(IIII)V"⟩, 74), (⟨"PassiveChecksModel", "tryAround", "()I"⟩, 74), (⟨"PassiveChecksModel", "emitLoop", "(II)V"⟩, 74), (⟨"PassiveChecksModel", "emitClose", "(II)V"⟩, 74), (⟨"PassiveChecksModel", "canBy", "(II)I"⟩, 74), (⟨"PassiveChecksModel", "canFrom", "(II)I"⟩, 74), (⟨"PassiveChecksModel", "goThrough", "(III)V"⟩, 74), (⟨"PassiveChecksModel", "come", "(II)V"⟩, 74), (⟨"PassiveChecksModel", "goOn", "(II)V"⟩, 74)]
theorem lw_r5 : ∀ q ∈ lw_privs_5, lw_okq q := List.forall_mem_cons.mpr ⟨lw_p64, List.forall_mem_cons.mpr ⟨lw_p65, List.forall_mem_cons.mpr ⟨lw_p66, List.forall_mem_cons.mpr ⟨lw_p67, List.forall_mem_cons.mpr ⟨lw_p68, List.forall_mem_cons.mpr ⟨lw_p69, List.forall_mem_cons.mpr ⟨lw_p70, List.forall_mem_cons.mpr ⟨lw_p71, List.forall_mem_cons.mpr ⟨lw_p72, List.forall_mem_cons.mpr ⟨lw_p73, List.forall_mem_cons.mpr ⟨lw_p74, List.forall_mem_cons.mpr ⟨lw_p75, List.forall_mem_cons.mpr ⟨lw_p76, List.forall_mem_cons.mpr ⟨lw_p77, List.forall_mem_cons.mpr ⟨lw_p78, List.forall_mem_cons.mpr ⟨lw_p79, fun _ h => absurd h List.not_mem_nil⟩⟩⟩⟩⟩⟩⟩⟩⟩⟩⟩⟩⟩⟩⟩⟩
theorem lw_p80 : lw_okq (⟨"PassiveChecksModel", "leaveOut", "()Z"⟩, 74) := ⟨⟨by decide +kernel, by decide +kernel⟩, List.mem_of_getElem? (i := 1085) (by decide +kernel), List.mem_of_getElem? (i := 1512) (by decide +kernel), List.mem_of_getElem? (i := 1513) (by decide +kernel)⟩
theorem lw_p81 : lw_okq (⟨"PassiveChecksModel", "pass", "()V"⟩, 74) := ⟨⟨by decide +kernel, by decide +kernel⟩, List.mem_of_getElem? (i := 1085) (by decide +kernel), List.mem_of_getElem? (i := 1520) (by decide +kernel), List.mem_of_getElem? (i := 1521) (by decide +kernel)⟩
theorem lw_p82 : lw_okq (⟨"PassiveChecksModel", "passOpen", "(I)V"⟩, 74) := ⟨⟨by decide +kernel, by decide +kernel⟩, List.mem_of_getElem? (i := 1085) (by decide +kernel), List.mem_of_getElem? (i := 1524) (by decide +kernel), List.mem_of_getElem? (i := 1525) (by decide +kernel)⟩
theorem lw_p83 : lw_okq (⟨"PassiveChecksModel", "layVersions", "([II)V"⟩, 74) := ⟨⟨by decide +kernel, by decide +kernel⟩, List.mem_of_getElem? (i := 1085) (by decide +kernel), List.mem_of_getElem? (i := 1528) (by decide +kernel), List.mem_of_getElem? (i := 1529) (by decide +kernel)⟩
theorem lw_p84 : lw_okq (⟨"PassiveChecksModel", "joinVariable", "(IIII)V"⟩, 74) := ⟨⟨by decide +kernel, by decide +kernel⟩, List.mem_of_getElem? (i := 1085) (by decide +kernel), List.mem_of_getElem? (i := 1532) (by decide +kernel), List.mem_of_getElem? (i := 1533) (by decide +kernel)⟩
theorem lw_p85 : lw_okq (⟨"PassiveChecksModel", "renew", "(I)V"⟩, 74) := ⟨⟨by decide +kernel, by decide +kernel⟩, List.mem_of_getElem? (i := 1085) (by decide +kernel), List.mem_of_getElem? (i := 1536) (by decide +kernel), List.mem_of_getElem? (i := 1537) (by decide +kernel)⟩
theorem lw_p86 : lw_okq (⟨"PassiveChecksModel", "passClose", "(I)V"⟩, 74) := ⟨⟨by decide +kernel, by decide +kernel⟩, List.mem_of_getElem? (i := 1085) (by decide +kernel), List.mem_of_getElem? (i := 1540) (by decide +kernel), List.mem_of_getElem? (i := 1541) (by decide +kernel)⟩
theorem lw_p87 : lw_okq (⟨"PassiveChecksModel", "keepVersions", "([II)V"⟩, 74) := ⟨⟨by decide +kernel, by decide +kernel⟩, List.mem_of_getElem? (i := 1085) (by decide +kernel), List.mem_of_getElem? (i := 1544) (by decide +kernel), List.mem_of_getElem? (i := 1545) (by decide +kernel)⟩
theorem lw_p88 : lw_okq (⟨"PassiveChecksModel", "joinBoth", "(I)V"⟩, 74) := ⟨⟨by decide +kernel, by decide +kernel⟩, List.mem_of_getElem? (i := 1085) (by decide +kernel), List.mem_of_getElem? (i := 1548) (by decide +kernel), List.mem_of_getElem? (i := 1549) (by decide +kernel)⟩
theorem lw_p89 : lw_okq (⟨"PassiveChecksModel", "passStatement", "(I)V"⟩, 74) := ⟨⟨by decide +kernel, by decide +kernel⟩, List.mem_of_getElem? (i := 1085) (by decide +kernel), List.mem_of_getElem? (i := 1552) (by decide +kernel), List.mem_of_getElem? (i := 1553) (by decide +kernel)⟩
theorem lw_p90 : lw_okq (⟨"PassiveChecksModel", "copyStatement", "(I)V"⟩, 74) := ⟨⟨by decide +kernel, by decide +kernel⟩, List.mem_of_getElem? (i := 1085) (by decide +kernel), List.mem_of_getElem? (i := 1568) (by decide +kernel), List.mem_of_getElem? (i := 1569) (by decide +kernel)⟩
theorem lw_p91 : lw_okq (⟨"PassiveChecksModel", "isStart", "(I)Z"⟩, 74) := ⟨⟨by decide +kernel, by decide +kernel⟩, List.mem_of_getElem? (i := 1085) (by decide +kernel), List.mem_of_getElem? (i := 1586) (by decide +kernel), List.mem_of_getElem? (i := 1587) (by decide +kernel)⟩
theorem lw_p92 : lw_okq (⟨"PassiveChecksModel", "alike", "(I)I"⟩, 74) := ⟨⟨by decide +kernel, by decide +kernel⟩, List.mem_of_getElem? (i := 1085) (by decide +kernel), List.mem_of_getElem? (i := 1595) (by decide +kernel), List.mem_of_getElem? (i := 1596) (by decide +kernel)⟩
def lw_privs_6 : List (MethodName × Nat) := [(⟨"PassiveChecksModel", "leaveOut", "()Z"⟩, 74), (⟨"PassiveChecksModel", "pass", "()V"⟩, 74), (⟨"PassiveChecksModel", "passOpen", "(I)V"⟩, 74), (⟨"PassiveChecksModel", "layVersions", "([II)V"⟩, 74), (⟨"PassiveChecksModel", "joinVariable", "(IIII)V"⟩, 74), (⟨"PassiveChecksModel", "renew", "(I)V"⟩, 74), (⟨"PassiveChecksModel", "passClose", "(I)V"⟩, 74), (⟨"PassiveChecksModel", "keepVersions", "([II)V"⟩, 74), (⟨"PassiveChecksModel", "joinBoth", "(I)V"⟩, 74), (⟨"PassiveChecksModel", "passStatement", "(I)V"⟩, 74), (⟨"PassiveChecksModel", "copyStatement", "(I)V"⟩, 74), (⟨"PassiveChecksModel", "isStart", "(I)Z"⟩, 74), (⟨"PassiveChecksModel", "alike", "(I)I"⟩, 74)]
theorem lw_r6 : ∀ q ∈ lw_privs_6, lw_okq q := List.forall_mem_cons.mpr ⟨lw_p80, List.forall_mem_cons.mpr ⟨lw_p81, List.forall_mem_cons.mpr ⟨lw_p82, List.forall_mem_cons.mpr ⟨lw_p83, List.forall_mem_cons.mpr ⟨lw_p84, List.forall_mem_cons.mpr ⟨lw_p85, List.forall_mem_cons.mpr ⟨lw_p86, List.forall_mem_cons.mpr ⟨lw_p87, List.forall_mem_cons.mpr ⟨lw_p88, List.forall_mem_cons.mpr ⟨lw_p89, List.forall_mem_cons.mpr ⟨lw_p90, List.forall_mem_cons.mpr ⟨lw_p91, List.forall_mem_cons.mpr ⟨lw_p92, fun _ h => absurd h List.not_mem_nil⟩⟩⟩⟩⟩⟩⟩⟩⟩⟩⟩⟩⟩
def lw_privs : List (MethodName × Nat) := lw_privs_1 ++ (lw_privs_2 ++ (lw_privs_3 ++ (lw_privs_4 ++ (lw_privs_5 ++ (lw_privs_6)))))
def lw_tbl : List Cond := k2_sels lw_privs ++ tables_1
theorem lw_privs_ok : ∀ q ∈ lw_privs, lw_okq q := by
  show ∀ q ∈ lw_privs_1 ++ (lw_privs_2 ++ (lw_privs_3 ++ (lw_privs_4 ++ (lw_privs_5 ++ (lw_privs_6))))), lw_okq q
  exact List.forall_mem_append.mpr ⟨lw_r1, List.forall_mem_append.mpr ⟨lw_r2, List.forall_mem_append.mpr ⟨lw_r3, List.forall_mem_append.mpr ⟨lw_r4, List.forall_mem_append.mpr ⟨lw_r5, lw_r6⟩⟩⟩⟩⟩
-- ===== end of PART A; then your names; then what follows =====
def RX10 : String := "PassiveChecks$CutRuns"
def TX10 : u_T := fun k => match k with
  | 0 => ("PassiveChecks$CutRuns", "program", "LPassiveChecks$Program;", true)
  | 1 => ("PassiveChecks$CutRuns", "values", "LPassiveChecks$Values;", true)
  | 2 => ("PassiveChecks$CutRuns", "steps", "LPassiveChecks$Steps;", true)
  | _ => ("PassiveChecks$CutRuns", "notes", "[J", true)
def tyX10 : Nat → FieldType := fun k => match k with
  | 0 => .object "PassiveChecks$Program"
  | 1 => .object "PassiveChecks$Values"
  | 2 => .object "PassiveChecks$Steps"
  | _ => .array .long
abbrev wsX100 : List Cond := u_ws RX10 TX10 4
theorem nmX10 : ∀ a, a < 4 → ∀ b, b < 4 → a ≠ b → (TX10 a).2.1 ≠ (TX10 b).2.1 := by decide +kernel
theorem tyX10_ok : ∀ k, k < 4 → parseFieldDescriptor (TX10 k).2.2.1 = some (tyX10 k) := by decide +kernel
abbrev cX10_init : ByteArray := prog_2_method_1_code
def yX10_init : MethodName := ⟨RX10, "<init>", "(LPassiveChecks$Program;LPassiveChecks$Values;LPassiveChecks$Steps;[J)V"⟩
abbrev cX10_clearNotes : ByteArray := prog_2_method_2_code
def yX10_clearNotes : MethodName := ⟨RX10, "clearNotes", "()V"⟩
abbrev cX10_findOutcomes : ByteArray := prog_2_method_3_code
def yX10_findOutcomes : MethodName := ⟨RX10, "findOutcomes", "([I)V"⟩
abbrev cX10_findEnds : ByteArray := prog_2_method_4_code
def yX10_findEnds : MethodName := ⟨RX10, "findEnds", "(I[J)V"⟩
abbrev cX10_noteSecondCheck : ByteArray := prog_2_method_5_code
def yX10_noteSecondCheck : MethodName := ⟨RX10, "noteSecondCheck", "(I)V"⟩
abbrev cX10_sweep : ByteArray := prog_2_method_6_code
def yX10_sweep : MethodName := ⟨RX10, "sweep", "(IIZ)V"⟩
def RX11 : String := "PassiveChecks$Inductive"
def TX11 : u_T := fun k => match k with
  | 0 => ("PassiveChecks$Inductive", "values", "LPassiveChecks$Values;", true)
  | 1 => ("PassiveChecks$Inductive", "ends", "[J", true)
  | 2 => ("PassiveChecks$Inductive", "outside", "[J", true)
  | _ => ("PassiveChecks$Inductive", "removed", "[J", true)
def tyX11 : Nat → FieldType := fun k => match k with
  | 0 => .object "PassiveChecks$Values"
  | 1 => .array .long
  | 2 => .array .long
  | _ => .array .long
abbrev wsX110 : List Cond := u_ws RX11 TX11 4
theorem nmX11 : ∀ a, a < 4 → ∀ b, b < 4 → a ≠ b → (TX11 a).2.1 ≠ (TX11 b).2.1 := by decide +kernel
theorem tyX11_ok : ∀ k, k < 4 → parseFieldDescriptor (TX11 k).2.2.1 = some (tyX11 k) := by decide +kernel
abbrev cX11_init : ByteArray := prog_3_method_1_code
def yX11_init : MethodName := ⟨RX11, "<init>", "(LPassiveChecks$Values;)V"⟩
abbrev cX11_shrink : ByteArray := prog_3_method_2_code
def yX11_shrink : MethodName := ⟨RX11, "shrink", "(I)I"⟩
abbrev cX11_statesKept : ByteArray := prog_3_method_3_code
def yX11_statesKept : MethodName := ⟨RX11, "statesKept", "()I"⟩
abbrev cX11_begin : ByteArray := prog_3_method_4_code
def yX11_begin : MethodName := ⟨RX11, "begin", "(I)V"⟩
abbrev cX11_isRoundRemoving : ByteArray := prog_3_method_5_code
def yX11_isRoundRemoving : MethodName := ⟨RX11, "isRoundRemoving", "()Z"⟩
abbrev cX11_canLeave : ByteArray := prog_3_method_6_code
def yX11_canLeave : MethodName := ⟨RX11, "canLeave", "(I)Z"⟩
def RX0 : String := "PassiveChecks$Passive"
def TX0 : u_T := fun k => match k with
  | 0 => ("PassiveChecks$Passive", "program", "LPassiveChecks$Program;", true)
  | 1 => ("PassiveChecks$Passive", "greatest", "[I", true)
  | 2 => ("PassiveChecks$Passive", "equations", "I", false)
  | 3 => ("PassiveChecks$Passive", "size", "I", false)
  | 4 => ("PassiveChecks$Passive", "throwsAt", "[I", true)
  | 5 => ("PassiveChecks$Passive", "versionsAt", "[J", true)
  | _ => ("PassiveChecks$Passive", "differAt", "[I", true)
def tyX0 : Nat → FieldType := fun k => match k with
  | 0 => .object "PassiveChecks$Program"
  | 1 => .array .int
  | 2 => .int
  | 3 => .int
  | 4 => .array .int
  | 5 => .array .long
  | _ => .array .int
abbrev wsX00 : List Cond := u_ws RX0 TX0 7
theorem nmX0 : ∀ a, a < 7 → ∀ b, b < 7 → a ≠ b → (TX0 a).2.1 ≠ (TX0 b).2.1 := by decide +kernel
theorem tyX0_ok : ∀ k, k < 7 → parseFieldDescriptor (TX0 k).2.2.1 = some (tyX0 k) := by decide +kernel
abbrev cX0_init : ByteArray := prog_4_method_1_code
def yX0_init : MethodName := ⟨RX0, "<init>", "(LPassiveChecks$Program;)V"⟩
abbrev cX0_traverse : ByteArray := prog_4_method_2_code
def yX0_traverse : MethodName := ⟨RX0, "traverse", "()V"⟩
abbrev cX0_traverseBlock : ByteArray := prog_4_method_3_code
def yX0_traverseBlock : MethodName := ⟨RX0, "traverseBlock", "(IJII)J"⟩
abbrev cX0_traverseStatement : ByteArray := prog_4_method_4_code
def yX0_traverseStatement : MethodName := ⟨RX0, "traverseStatement", "(LPassiveChecks$Statement;JII)J"⟩
abbrev cX0_traverseTry : ByteArray := prog_4_method_5_code
def yX0_traverseTry : MethodName := ⟨RX0, "traverseTry", "(LPassiveChecks$Statement;JII)J"⟩
abbrev cX0_noteThrow : ByteArray := prog_4_method_6_code
def yX0_noteThrow : MethodName := ⟨RX0, "noteThrow", "(IJ)V"⟩
abbrev cX0_joined : ByteArray := prog_4_method_7_code
def yX0_joined : MethodName := ⟨RX0, "joined", "(JJ)J"⟩
abbrev cX0_differing : ByteArray := prog_4_method_8_code
def yX0_differing : MethodName := ⟨RX0, "differing", "(JJ)I"⟩
abbrev cX0_renewed : ByteArray := prog_4_method_9_code
def yX0_renewed : MethodName := ⟨RX0, "renewed", "(JI)J"⟩
abbrev cX0_sizeByCopying : ByteArray := prog_4_method_10_code
def yX0_sizeByCopying : MethodName := ⟨RX0, "sizeByCopying", "()J"⟩
abbrev cX0_copyBlock : ByteArray := prog_4_method_11_code
def yX0_copyBlock : MethodName := ⟨RX0, "copyBlock", "(IJJI)J"⟩
abbrev cX0_copyStatement : ByteArray := prog_4_method_12_code
def yX0_copyStatement : MethodName := ⟨RX0, "copyStatement", "(LPassiveChecks$Statement;JJI)J"⟩
def RX1 : String := "PassiveChecks$Program"
def TX1 : u_T := fun k => match k with
  | 0 => ("PassiveChecks$Program", "text", "LPassiveChecks$Text;", false)
  | 1 => ("PassiveChecks$Program", "statements", "[LPassiveChecks$Statement;", true)
  | 2 => ("PassiveChecks$Program", "nothing", "LPassiveChecks$Statement;", true)
  | 3 => ("PassiveChecks$Program", "size", "I", false)
  | 4 => ("PassiveChecks$Program", "lastOfAll", "I", false)
  | 5 => ("PassiveChecks$Program", "kinds", "[I", true)
  | 6 => ("PassiveChecks$Program", "checks", "I", false)
  | 7 => ("PassiveChecks$Program", "loopRows", "[I", true)
  | 8 => ("PassiveChecks$Program", "loops", "I", false)
  | 9 => ("PassiveChecks$Program", "termBegins", "[I", true)
  | 10 => ("PassiveChecks$Program", "termLengths", "[I", true)
  | _ => ("PassiveChecks$Program", "terms", "I", false)
def tyX1 : Nat → FieldType := fun k => match k with
  | 0 => .object "PassiveChecks$Text"
  | 1 => .array (.object "PassiveChecks$Statement")
  | 2 => .object "PassiveChecks$Statement"
  | 3 => .int
  | 4 => .int
  | 5 => .array .int
  | 6 => .int
  | 7 => .array .int
  | 8 => .int
  | 9 => .array .int
  | 10 => .array .int
  | _ => .int
abbrev wsX10 : List Cond := u_ws RX1 TX1 12
theorem nmX1 : ∀ a, a < 12 → ∀ b, b < 12 → a ≠ b → (TX1 a).2.1 ≠ (TX1 b).2.1 := by decide +kernel
theorem tyX1_ok : ∀ k, k < 12 → parseFieldDescriptor (TX1 k).2.2.1 = some (tyX1 k) := by decide +kernel
abbrev cX1_init : ByteArray := prog_5_method_1_code
def yX1_init : MethodName := ⟨RX1, "<init>", "(LPassiveChecks$Text;)V"⟩
abbrev cX1_reset : ByteArray := prog_5_method_2_code
def yX1_reset : MethodName := ⟨RX1, "reset", "(LPassiveChecks$Text;)V"⟩
abbrev cX1_at : ByteArray := prog_5_method_3_code
def yX1_at : MethodName := ⟨RX1, "at", "(I)LPassiveChecks$Statement;"⟩
abbrev cX1_hasCheck : ByteArray := prog_5_method_4_code
def yX1_hasCheck : MethodName := ⟨RX1, "hasCheck", "(I)Z"⟩
abbrev cX1_hasLoop : ByteArray := prog_5_method_5_code
def yX1_hasLoop : MethodName := ⟨RX1, "hasLoop", "(I)Z"⟩
abbrev cX1_loopRow : ByteArray := prog_5_method_6_code
def yX1_loopRow : MethodName := ⟨RX1, "loopRow", "(I)I"⟩
abbrev cX1_loopStatement : ByteArray := prog_5_method_7_code
def yX1_loopStatement : MethodName := ⟨RX1, "loopStatement", "(I)LPassiveChecks$Statement;"⟩
abbrev cX1_termBegin : ByteArray := prog_5_method_8_code
def yX1_termBegin : MethodName := ⟨RX1, "termBegin", "(I)I"⟩
abbrev cX1_termLength : ByteArray := prog_5_method_9_code
def yX1_termLength : MethodName := ⟨RX1, "termLength", "(I)I"⟩
abbrev cX1_startRow : ByteArray := prog_5_method_10_code
def yX1_startRow : MethodName := ⟨RX1, "startRow", "()I"⟩
abbrev cX1_addTerm : ByteArray := prog_5_method_11_code
def yX1_addTerm : MethodName := ⟨RX1, "addTerm", "(II)I"⟩
abbrev cX1_addCheck : ByteArray := prog_5_method_12_code
def yX1_addCheck : MethodName := ⟨RX1, "addCheck", "(I)V"⟩
abbrev cX1_addLoop : ByteArray := prog_5_method_13_code
def yX1_addLoop : MethodName := ⟨RX1, "addLoop", "(I)V"⟩
abbrev cX1_link : ByteArray := prog_5_method_14_code
def yX1_link : MethodName := ⟨RX1, "link", "()V"⟩
abbrev cX1_linkOut : ByteArray := prog_5_method_15_code
def yX1_linkOut : MethodName := ⟨RX1, "linkOut", "(LPassiveChecks$Statement;)V"⟩
abbrev cX1_linkIn : ByteArray := prog_5_method_16_code
def yX1_linkIn : MethodName := ⟨RX1, "linkIn", "(LPassiveChecks$Statement;)V"⟩
abbrev cX1_rowBehindBlock : ByteArray := prog_5_method_17_code
def yX1_rowBehindBlock : MethodName := ⟨RX1, "rowBehindBlock", "(LPassiveChecks$Statement;)I"⟩
abbrev cX1_entry : ByteArray := prog_5_method_18_code
def yX1_entry : MethodName := ⟨RX1, "entry", "(LPassiveChecks$Statement;I)I"⟩
abbrev cX1_noteModified : ByteArray := prog_5_method_19_code
def yX1_noteModified : MethodName := ⟨RX1, "noteModified", "(LPassiveChecks$Statement;)V"⟩
def RX2 : String := "PassiveChecks$Reader"
def TX2 : u_T := fun k => match k with
  | 0 => ("PassiveChecks$Reader", "text", "LPassiveChecks$Text;", false)
  | 1 => ("PassiveChecks$Reader", "into", "LPassiveChecks$Program;", false)
  | 2 => ("PassiveChecks$Reader", "at", "I", false)
  | 3 => ("PassiveChecks$Reader", "sign", "I", false)
  | 4 => ("PassiveChecks$Reader", "error", "I", false)
  | 5 => ("PassiveChecks$Reader", "open", "[I", true)
  | 6 => ("PassiveChecks$Reader", "side", "[I", true)
  | 7 => ("PassiveChecks$Reader", "tail", "[I", true)
  | 8 => ("PassiveChecks$Reader", "depth", "I", false)
  | _ => ("PassiveChecks$Reader", "loopsOpen", "I", false)
def tyX2 : Nat → FieldType := fun k => match k with
  | 0 => .object "PassiveChecks$Text"
  | 1 => .object "PassiveChecks$Program"
  | 2 => .int
  | 3 => .int
  | 4 => .int
  | 5 => .array .int
  | 6 => .array .int
  | 7 => .array .int
  | 8 => .int
  | _ => .int
abbrev wsX20 : List Cond := u_ws RX2 TX2 10
theorem nmX2 : ∀ a, a < 10 → ∀ b, b < 10 → a ≠ b → (TX2 a).2.1 ≠ (TX2 b).2.1 := by decide +kernel
theorem tyX2_ok : ∀ k, k < 10 → parseFieldDescriptor (TX2 k).2.2.1 = some (tyX2 k) := by decide +kernel
abbrev cX2_init : ByteArray := prog_6_method_1_code
def yX2_init : MethodName := ⟨RX2, "<init>", "(LPassiveChecks$Program;)V"⟩
abbrev cX2_readProgram : ByteArray := prog_6_method_2_code
def yX2_readProgram : MethodName := ⟨RX2, "readProgram", "(LPassiveChecks$Text;LPassiveChecks$Program;)I"⟩
abbrev cX2_readTerm : ByteArray := prog_6_method_3_code
def yX2_readTerm : MethodName := ⟨RX2, "readTerm", "(LPassiveChecks$Text;LPassiveChecks$Program;)I"⟩
abbrev cX2_start : ByteArray := prog_6_method_4_code
def yX2_start : MethodName := ⟨RX2, "start", "(LPassiveChecks$Text;LPassiveChecks$Program;)V"⟩
abbrev cX2_moveTo : ByteArray := prog_6_method_5_code
def yX2_moveTo : MethodName := ⟨RX2, "moveTo", "(I)V"⟩
abbrev cX2_isAllowed : ByteArray := prog_6_method_6_code
def yX2_isAllowed : MethodName := ⟨RX2, "isAllowed", "()Z"⟩
abbrev cX2_readStatement : ByteArray := prog_6_method_7_code
def yX2_readStatement : MethodName := ⟨RX2, "readStatement", "()V"⟩
abbrev cX2_addStatement : ByteArray := prog_6_method_8_code
def yX2_addStatement : MethodName := ⟨RX2, "addStatement", "(I)LPassiveChecks$Statement;"⟩
abbrev cX2_addChecks : ByteArray := prog_6_method_9_code
def yX2_addChecks : MethodName := ⟨RX2, "addChecks", "(LPassiveChecks$Statement;I)V"⟩
abbrev cX2_openBlock : ByteArray := prog_6_method_10_code
def yX2_openBlock : MethodName := ⟨RX2, "openBlock", "(I)V"⟩
abbrev cX2_closeBlock : ByteArray := prog_6_method_11_code
def yX2_closeBlock : MethodName := ⟨RX2, "closeBlock", "()V"⟩
abbrev cX2_pass : ByteArray := prog_6_method_12_code
def yX2_pass : MethodName := ⟨RX2, "pass", "(I)V"⟩
abbrev cX2_variable : ByteArray := prog_6_method_13_code
def yX2_variable : MethodName := ⟨RX2, "variable", "()I"⟩
abbrev cX2_term : ByteArray := prog_6_method_14_code
def yX2_term : MethodName := ⟨RX2, "term", "()I"⟩
abbrev cX2_isBinary : ByteArray := prog_6_method_15_code
def yX2_isBinary : MethodName := ⟨RX2, "isBinary", "(I)Z"⟩
def RX3 : String := "PassiveChecks$Runs"
def TX3 : u_T := fun k => match k with
  | 0 => ("PassiveChecks$Runs", "program", "LPassiveChecks$Program;", true)
  | 1 => ("PassiveChecks$Runs", "values", "LPassiveChecks$Values;", true)
  | 2 => ("PassiveChecks$Runs", "walk", "LPassiveChecks$Walk;", true)
  | 3 => ("PassiveChecks$Runs", "cutRuns", "LPassiveChecks$CutRuns;", true)
  | 4 => ("PassiveChecks$Runs", "inductive", "LPassiveChecks$Inductive;", true)
  | 5 => ("PassiveChecks$Runs", "ofRuns", "[I", true)
  | 6 => ("PassiveChecks$Runs", "ofCutRuns", "[I", true)
  | 7 => ("PassiveChecks$Runs", "knowsRuns", "Z", false)
  | 8 => ("PassiveChecks$Runs", "knowsCutRuns", "Z", false)
  | 9 => ("PassiveChecks$Runs", "knowsKept", "[Z", true)
  | 10 => ("PassiveChecks$Runs", "kept", "[I", true)
  | _ => ("PassiveChecks$Runs", "rounds", "[I", true)
def tyX3 : Nat → FieldType := fun k => match k with
  | 0 => .object "PassiveChecks$Program"
  | 1 => .object "PassiveChecks$Values"
  | 2 => .object "PassiveChecks$Walk"
  | 3 => .object "PassiveChecks$CutRuns"
  | 4 => .object "PassiveChecks$Inductive"
  | 5 => .array .int
  | 6 => .array .int
  | 7 => .boolean
  | 8 => .boolean
  | 9 => .array .boolean
  | 10 => .array .int
  | _ => .array .int
abbrev wsX30 : List Cond := u_ws RX3 TX3 12
theorem nmX3 : ∀ a, a < 12 → ∀ b, b < 12 → a ≠ b → (TX3 a).2.1 ≠ (TX3 b).2.1 := by decide +kernel
theorem tyX3_ok : ∀ k, k < 12 → parseFieldDescriptor (TX3 k).2.2.1 = some (tyX3 k) := by decide +kernel
abbrev cX3_init : ByteArray := prog_7_method_1_code
def yX3_init : MethodName := ⟨RX3, "<init>", "(LPassiveChecks$Program;)V"⟩
abbrev cX3_drop : ByteArray := prog_7_method_2_code
def yX3_drop : MethodName := ⟨RX3, "drop", "()V"⟩
abbrev cX3_statesWith : ByteArray := prog_7_method_3_code
def yX3_statesWith : MethodName := ⟨RX3, "statesWith", "(I)I"⟩
abbrev cX3_prepare : ByteArray := prog_7_method_4_code
def yX3_prepare : MethodName := ⟨RX3, "prepare", "(I)V"⟩
abbrev cX3_can : ByteArray := prog_7_method_5_code
def yX3_can : MethodName := ⟨RX3, "can", "(III)Z"⟩
abbrev cX3_search : ByteArray := prog_7_method_6_code
def yX3_search : MethodName := ⟨RX3, "search", "(II)V"⟩
abbrev cX3_isReached : ByteArray := prog_7_method_7_code
def yX3_isReached : MethodName := ⟨RX3, "isReached", "(II)Z"⟩
abbrev cX3_prepareLoop : ByteArray := prog_7_method_8_code
def yX3_prepareLoop : MethodName := ⟨RX3, "prepareLoop", "(I)V"⟩
def RX4 : String := "PassiveChecks$Statement"
def TX4 : u_T := fun k => match k with
  | 0 => ("PassiveChecks$Statement", "letter", "I", false)
  | 1 => ("PassiveChecks$Statement", "variable", "I", false)
  | 2 => ("PassiveChecks$Statement", "first", "I", false)
  | 3 => ("PassiveChecks$Statement", "second", "I", false)
  | 4 => ("PassiveChecks$Statement", "check", "I", false)
  | 5 => ("PassiveChecks$Statement", "loop", "I", false)
  | 6 => ("PassiveChecks$Statement", "modified", "I", false)
  | 7 => ("PassiveChecks$Statement", "modifiedBits", "I", false)
  | 8 => ("PassiveChecks$Statement", "parent", "I", false)
  | 9 => ("PassiveChecks$Statement", "side", "I", false)
  | 10 => ("PassiveChecks$Statement", "next", "I", false)
  | 11 => ("PassiveChecks$Statement", "previous", "I", false)
  | 12 => ("PassiveChecks$Statement", "begin", "[I", true)
  | 13 => ("PassiveChecks$Statement", "last", "[I", true)
  | 14 => ("PassiveChecks$Statement", "end", "I", false)
  | 15 => ("PassiveChecks$Statement", "after", "I", false)
  | 16 => ("PassiveChecks$Statement", "caught", "I", false)
  | 17 => ("PassiveChecks$Statement", "go", "I", false)
  | _ => ("PassiveChecks$Statement", "other", "I", false)
def tyX4 : Nat → FieldType := fun k => match k with
  | 0 => .int
  | 1 => .int
  | 2 => .int
  | 3 => .int
  | 4 => .int
  | 5 => .int
  | 6 => .int
  | 7 => .int
  | 8 => .int
  | 9 => .int
  | 10 => .int
  | 11 => .int
  | 12 => .array .int
  | 13 => .array .int
  | 14 => .int
  | 15 => .int
  | 16 => .int
  | 17 => .int
  | _ => .int
abbrev wsX40 : List Cond := u_ws RX4 TX4 19
theorem nmX4 : ∀ a, a < 19 → ∀ b, b < 19 → a ≠ b → (TX4 a).2.1 ≠ (TX4 b).2.1 := by decide +kernel
theorem tyX4_ok : ∀ k, k < 19 → parseFieldDescriptor (TX4 k).2.2.1 = some (tyX4 k) := by decide +kernel
abbrev cX4_init : ByteArray := prog_8_method_1_code
def yX4_init : MethodName := ⟨RX4, "<init>", "()V"⟩
abbrev cX4_reset : ByteArray := prog_8_method_2_code
def yX4_reset : MethodName := ⟨RX4, "reset", "(I)V"⟩
abbrev cX4_isLoop : ByteArray := prog_8_method_3_code
def yX4_isLoop : MethodName := ⟨RX4, "isLoop", "()Z"⟩
abbrev cX4_hasTwoBlocks : ByteArray := prog_8_method_4_code
def yX4_hasTwoBlocks : MethodName := ⟨RX4, "hasTwoBlocks", "()Z"⟩
def RX5 : String := "PassiveChecks$Steps"
def TX5 : u_T := fun k => match k with
  | 0 => ("PassiveChecks$Steps", "program", "LPassiveChecks$Program;", true)
  | 1 => ("PassiveChecks$Steps", "values", "LPassiveChecks$Values;", true)
  | 2 => ("PassiveChecks$Steps", "places", "[I", true)
  | _ => ("PassiveChecks$Steps", "found", "I", false)
def tyX5 : Nat → FieldType := fun k => match k with
  | 0 => .object "PassiveChecks$Program"
  | 1 => .object "PassiveChecks$Values"
  | 2 => .array .int
  | _ => .int
abbrev wsX50 : List Cond := u_ws RX5 TX5 4
theorem nmX5 : ∀ a, a < 4 → ∀ b, b < 4 → a ≠ b → (TX5 a).2.1 ≠ (TX5 b).2.1 := by decide +kernel
theorem tyX5_ok : ∀ k, k < 4 → parseFieldDescriptor (TX5 k).2.2.1 = some (tyX5 k) := by decide +kernel
abbrev cX5_init : ByteArray := prog_9_method_1_code
def yX5_init : MethodName := ⟨RX5, "<init>", "(LPassiveChecks$Program;LPassiveChecks$Values;)V"⟩
abbrev cX5_find : ByteArray := prog_9_method_2_code
def yX5_find : MethodName := ⟨RX5, "find", "(III)I"⟩
abbrev cX5_add : ByteArray := prog_9_method_3_code
def yX5_add : MethodName := ⟨RX5, "add", "(II)V"⟩
abbrev cX5_ofStatement : ByteArray := prog_9_method_4_code
def yX5_ofStatement : MethodName := ⟨RX5, "ofStatement", "(LPassiveChecks$Statement;II)I"⟩
abbrev cX5_addHavoc : ByteArray := prog_9_method_5_code
def yX5_addHavoc : MethodName := ⟨RX5, "addHavoc", "(LPassiveChecks$Statement;I)V"⟩
abbrev cX5_ofCutLoop : ByteArray := prog_9_method_6_code
def yX5_ofCutLoop : MethodName := ⟨RX5, "ofCutLoop", "(LPassiveChecks$Statement;I)I"⟩
abbrev cX5_ofHead : ByteArray := prog_9_method_7_code
def yX5_ofHead : MethodName := ⟨RX5, "ofHead", "(LPassiveChecks$Statement;I)V"⟩
abbrev cX5_ofBack : ByteArray := prog_9_method_8_code
def yX5_ofBack : MethodName := ⟨RX5, "ofBack", "(III)I"⟩
def RX6 : String := "PassiveChecks$Text"
def TX6 : u_T := fun k => match k with
  | 0 => ("PassiveChecks$Text", "signs", "[C", true)
  | _ => ("PassiveChecks$Text", "length", "I", false)
def tyX6 : Nat → FieldType := fun k => match k with
  | 0 => .array .char
  | _ => .int
abbrev wsX60 : List Cond := u_ws RX6 TX6 2
theorem nmX6 : ∀ a, a < 2 → ∀ b, b < 2 → a ≠ b → (TX6 a).2.1 ≠ (TX6 b).2.1 := by decide +kernel
theorem tyX6_ok : ∀ k, k < 2 → parseFieldDescriptor (TX6 k).2.2.1 = some (tyX6 k) := by decide +kernel
abbrev cX6_init : ByteArray := prog_10_method_1_code
def yX6_init : MethodName := ⟨RX6, "<init>", "(I)V"⟩
abbrev cX6_add : ByteArray := prog_10_method_2_code
def yX6_add : MethodName := ⟨RX6, "add", "(I)Z"⟩
abbrev cX6_sign : ByteArray := prog_10_method_3_code
def yX6_sign : MethodName := ⟨RX6, "sign", "(I)I"⟩
abbrev cX6_addPlain : ByteArray := prog_10_method_4_code
def yX6_addPlain : MethodName := ⟨RX6, "addPlain", "(LPassiveChecks$Text;II)V"⟩
abbrev cX6_become : ByteArray := prog_10_method_5_code
def yX6_become : MethodName := ⟨RX6, "become", "(LPassiveChecks$Text;)V"⟩
def RX7 : String := "PassiveChecks$Values"
def TX7 : u_T := fun k => match k with
  | 0 => ("PassiveChecks$Values", "program", "LPassiveChecks$Program;", true)
  | 1 => ("PassiveChecks$Values", "values", "[B", true)
  | 2 => ("PassiveChecks$Values", "stack", "[I", true)
  | _ => ("PassiveChecks$Values", "known", "Z", false)
def tyX7 : Nat → FieldType := fun k => match k with
  | 0 => .object "PassiveChecks$Program"
  | 1 => .array .byte
  | 2 => .array .int
  | _ => .boolean
abbrev wsX70 : List Cond := u_ws RX7 TX7 4
theorem nmX7 : ∀ a, a < 4 → ∀ b, b < 4 → a ≠ b → (TX7 a).2.1 ≠ (TX7 b).2.1 := by decide +kernel
theorem tyX7_ok : ∀ k, k < 4 → parseFieldDescriptor (TX7 k).2.2.1 = some (tyX7 k) := by decide +kernel
abbrev cX7_init : ByteArray := prog_11_method_1_code
def yX7_init : MethodName := ⟨RX7, "<init>", "(LPassiveChecks$Program;)V"⟩
abbrev cX7_drop : ByteArray := prog_11_method_2_code
def yX7_drop : MethodName := ⟨RX7, "drop", "()V"⟩
abbrev cX7_prepare : ByteArray := prog_11_method_3_code
def yX7_prepare : MethodName := ⟨RX7, "prepare", "()V"⟩
abbrev cX7_of : ByteArray := prog_11_method_4_code
def yX7_of : MethodName := ⟨RX7, "of", "(II)I"⟩
abbrev cX7_isTrue : ByteArray := prog_11_method_5_code
def yX7_isTrue : MethodName := ⟨RX7, "isTrue", "(II)Z"⟩
abbrev cX7_evaluate : ByteArray := prog_11_method_6_code
def yX7_evaluate : MethodName := ⟨RX7, "evaluate", "(III)I"⟩
abbrev cX7_combined : ByteArray := prog_11_method_7_code
def yX7_combined : MethodName := ⟨RX7, "combined", "(III)I"⟩
abbrev cX7_oneIf : ByteArray := prog_11_method_8_code
def yX7_oneIf : MethodName := ⟨RX7, "oneIf", "(Z)I"⟩
def RX12 : String := "PassiveChecks$Walk"
def TX12 : u_T := fun k => match k with
  | 0 => ("PassiveChecks$Walk", "program", "LPassiveChecks$Program;", true)
  | 1 => ("PassiveChecks$Walk", "steps", "LPassiveChecks$Steps;", true)
  | 2 => ("PassiveChecks$Walk", "number", "[I", true)
  | 3 => ("PassiveChecks$Walk", "low", "[I", true)
  | 4 => ("PassiveChecks$Walk", "parent", "[I", true)
  | 5 => ("PassiveChecks$Walk", "below", "[I", true)
  | 6 => ("PassiveChecks$Walk", "outcome", "[J", true)
  | 7 => ("PassiveChecks$Walk", "met", "I", false)
  | 8 => ("PassiveChecks$Walk", "top", "I", false)
  | _ => ("PassiveChecks$Walk", "marked", "I", false)
def tyX12 : Nat → FieldType := fun k => match k with
  | 0 => .object "PassiveChecks$Program"
  | 1 => .object "PassiveChecks$Steps"
  | 2 => .array .int
  | 3 => .array .int
  | 4 => .array .int
  | 5 => .array .int
  | 6 => .array .long
  | 7 => .int
  | 8 => .int
  | _ => .int
abbrev wsX120 : List Cond := u_ws RX12 TX12 10
theorem nmX12 : ∀ a, a < 10 → ∀ b, b < 10 → a ≠ b → (TX12 a).2.1 ≠ (TX12 b).2.1 := by decide +kernel
theorem tyX12_ok : ∀ k, k < 10 → parseFieldDescriptor (TX12 k).2.2.1 = some (tyX12 k) := by decide +kernel
abbrev cX12_init : ByteArray := prog_12_method_1_code
def yX12_init : MethodName := ⟨RX12, "<init>", "(LPassiveChecks$Program;LPassiveChecks$Steps;[J)V"⟩
abbrev cX12_drop : ByteArray := prog_12_method_2_code
def yX12_drop : MethodName := ⟨RX12, "drop", "()V"⟩
abbrev cX12_startAgain : ByteArray := prog_12_method_3_code
def yX12_startAgain : MethodName := ⟨RX12, "startAgain", "()V"⟩
abbrev cX12_findOutcomes : ByteArray := prog_12_method_4_code
def yX12_findOutcomes : MethodName := ⟨RX12, "findOutcomes", "([I)V"⟩
abbrev cX12_goFrom : ByteArray := prog_12_method_5_code
def yX12_goFrom : MethodName := ⟨RX12, "goFrom", "(I)V"⟩
abbrev cX12_firstNotMet : ByteArray := prog_12_method_6_code
def yX12_firstNotMet : MethodName := ⟨RX12, "firstNotMet", "()I"⟩
abbrev cX12_open : ByteArray := prog_12_method_7_code
def yX12_open : MethodName := ⟨RX12, "open", "(II)V"⟩
abbrev cX12_finish : ByteArray := prog_12_method_8_code
def yX12_finish : MethodName := ⟨RX12, "finish", "(II)V"⟩
abbrev cX12_ownOutcome : ByteArray := prog_12_method_9_code
def yX12_ownOutcome : MethodName := ⟨RX12, "ownOutcome", "(II)J"⟩
abbrev cX12_close : ByteArray := prog_12_method_10_code
def yX12_close : MethodName := ⟨RX12, "close", "(I)V"⟩
abbrev cX12_mark : ByteArray := prog_12_method_11_code
def yX12_mark : MethodName := ⟨RX12, "mark", "(II)V"⟩
abbrev cX12_isMarked : ByteArray := prog_12_method_12_code
def yX12_isMarked : MethodName := ⟨RX12, "isMarked", "(II)Z"⟩
def RX8 : String := "PassiveChecks"
def TX8 : u_T := fun k => match k with
  | 0 => ("PassiveChecks", "typed", "LPassiveChecks$Text;", true)
  | 1 => ("PassiveChecks", "present", "LPassiveChecks$Text;", true)
  | 2 => ("PassiveChecks", "spare", "LPassiveChecks$Text;", true)
  | 3 => ("PassiveChecks", "earlier", "[LPassiveChecks$Text;", true)
  | 4 => ("PassiveChecks", "saved", "[LPassiveChecks$Text;", true)
  | 5 => ("PassiveChecks", "isSaved", "[Z", true)
  | 6 => ("PassiveChecks", "reader", "LPassiveChecks$Reader;", true)
  | 7 => ("PassiveChecks", "parsed", "LPassiveChecks$Program;", true)
  | 8 => ("PassiveChecks", "trial", "LPassiveChecks$Program;", true)
  | 9 => ("PassiveChecks", "runs", "LPassiveChecks$Runs;", true)
  | 10 => ("PassiveChecks", "passive", "LPassiveChecks$Passive;", true)
  | 11 => ("PassiveChecks", "seenWhat", "[I", true)
  | 12 => ("PassiveChecks", "seenIs", "[I", true)
  | 13 => ("PassiveChecks", "changes", "I", false)
  | _ => ("PassiveChecks", "seen", "I", false)
def tyX8 : Nat → FieldType := fun k => match k with
  | 0 => .object "PassiveChecks$Text"
  | 1 => .object "PassiveChecks$Text"
  | 2 => .object "PassiveChecks$Text"
  | 3 => .array (.object "PassiveChecks$Text")
  | 4 => .array (.object "PassiveChecks$Text")
  | 5 => .array .boolean
  | 6 => .object "PassiveChecks$Reader"
  | 7 => .object "PassiveChecks$Program"
  | 8 => .object "PassiveChecks$Program"
  | 9 => .object "PassiveChecks$Runs"
  | 10 => .object "PassiveChecks$Passive"
  | 11 => .array .int
  | 12 => .array .int
  | 13 => .int
  | _ => .int
abbrev wsX80 : List Cond := u_ws RX8 TX8 15
theorem nmX8 : ∀ a, a < 15 → ∀ b, b < 15 → a ≠ b → (TX8 a).2.1 ≠ (TX8 b).2.1 := by decide +kernel
theorem tyX8_ok : ∀ k, k < 15 → parseFieldDescriptor (TX8 k).2.2.1 = some (tyX8 k) := by decide +kernel
abbrev cX8_init : ByteArray := prog_1_method_1_code
def yX8_init : MethodName := ⟨RX8, "<init>", "()V"⟩
abbrev cX8_type : ByteArray := prog_1_method_2_code
def yX8_type : MethodName := ⟨RX8, "type", "(I)I"⟩
abbrev cX8_clear : ByteArray := prog_1_method_3_code
def yX8_clear : MethodName := ⟨RX8, "clear", "()I"⟩
abbrev cX8_program : ByteArray := prog_1_method_4_code
def yX8_program : MethodName := ⟨RX8, "program", "()I"⟩
abbrev cX8_invariant : ByteArray := prog_1_method_5_code
def yX8_invariant : MethodName := ⟨RX8, "invariant", "(I)I"⟩
abbrev cX8_undo : ByteArray := prog_1_method_6_code
def yX8_undo : MethodName := ⟨RX8, "undo", "()I"⟩
abbrev cX8_changeToSpare : ByteArray := prog_1_method_7_code
def yX8_changeToSpare : MethodName := ⟨RX8, "changeToSpare", "()V"⟩
abbrev cX8_dropOldest : ByteArray := prog_1_method_8_code
def yX8_dropOldest : MethodName := ⟨RX8, "dropOldest", "()V"⟩
abbrev cX8_readPresent : ByteArray := prog_1_method_9_code
def yX8_readPresent : MethodName := ⟨RX8, "readPresent", "()V"⟩
abbrev cX8_told : ByteArray := prog_1_method_10_code
def yX8_told : MethodName := ⟨RX8, "told", "(I)I"⟩
abbrev cX8_kind : ByteArray := prog_1_method_11_code
def yX8_kind : MethodName := ⟨RX8, "kind", "(I)I"⟩
abbrev cX8_loop : ByteArray := prog_1_method_12_code
def yX8_loop : MethodName := ⟨RX8, "loop", "(II)I"⟩
abbrev cX8_wrong : ByteArray := prog_1_method_13_code
def yX8_wrong : MethodName := ⟨RX8, "wrong", "(III)I"⟩
abbrev cX8_spurious : ByteArray := prog_1_method_14_code
def yX8_spurious : MethodName := ⟨RX8, "spurious", "(I)I"⟩
abbrev cX8_from : ByteArray := prog_1_method_15_code
def yX8_from : MethodName := ⟨RX8, "from", "(III)I"⟩
abbrev cX8_ends : ByteArray := prog_1_method_16_code
def yX8_ends : MethodName := ⟨RX8, "ends", "(IIII)I"⟩
abbrev cX8_keeps : ByteArray := prog_1_method_17_code
def yX8_keeps : MethodName := ⟨RX8, "keeps", "(II)I"⟩
abbrev cX8_isFlag : ByteArray := prog_1_method_18_code
def yX8_isFlag : MethodName := ⟨RX8, "isFlag", "(I)Z"⟩
abbrev cX8_isState : ByteArray := prog_1_method_19_code
def yX8_isState : MethodName := ⟨RX8, "isState", "(I)Z"⟩
abbrev cX8_versions : ByteArray := prog_1_method_20_code
def yX8_versions : MethodName := ⟨RX8, "versions", "(I)I"⟩
abbrev cX8_equalities : ByteArray := prog_1_method_21_code
def yX8_equalities : MethodName := ⟨RX8, "equalities", "()I"⟩
abbrev cX8_linear : ByteArray := prog_1_method_22_code
def yX8_linear : MethodName := ⟨RX8, "linear", "()I"⟩
abbrev cX8_copied : ByteArray := prog_1_method_23_code
def yX8_copied : MethodName := ⟨RX8, "copied", "()J"⟩
abbrev cX8_sees : ByteArray := prog_1_method_24_code
def yX8_sees : MethodName := ⟨RX8, "sees", "(II)I"⟩
abbrev cX8_forget : ByteArray := prog_1_method_25_code
def yX8_forget : MethodName := ⟨RX8, "forget", "()I"⟩
abbrev cX8_starts : ByteArray := prog_1_method_26_code
def yX8_starts : MethodName := ⟨RX8, "starts", "(I)I"⟩
abbrev cX8_ask : ByteArray := prog_1_method_27_code
def yX8_ask : MethodName := ⟨RX8, "ask", "()I"⟩
abbrev cX8_startsFound : ByteArray := prog_1_method_28_code
def yX8_startsFound : MethodName := ⟨RX8, "startsFound", "()I"⟩
abbrev cX8_lowestStart : ByteArray := prog_1_method_29_code
def yX8_lowestStart : MethodName := ⟨RX8, "lowestStart", "()I"⟩
abbrev cX8_largestGroup : ByteArray := prog_1_method_30_code
def yX8_largestGroup : MethodName := ⟨RX8, "largestGroup", "(I)I"⟩
abbrev cX8_isStart : ByteArray := prog_1_method_31_code
def yX8_isStart : MethodName := ⟨RX8, "isStart", "(I)Z"⟩
abbrev cX8_keep : ByteArray := prog_1_method_32_code
def yX8_keep : MethodName := ⟨RX8, "keep", "(I)I"⟩
abbrev cX8_back : ByteArray := prog_1_method_33_code
def yX8_back : MethodName := ⟨RX8, "back", "(I)I"⟩
abbrev cX8_count : ByteArray := prog_1_method_34_code
def yX8_count : MethodName := ⟨RX8, "count", "(I)I"⟩
abbrev cX8_isVariable : ByteArray := prog_1_method_35_code
def yX8_isVariable : MethodName := ⟨RX8, "isVariable", "(I)Z"⟩
abbrev cX8_isDigit : ByteArray := prog_1_method_36_code
def yX8_isDigit : MethodName := ⟨RX8, "isDigit", "(I)Z"⟩
abbrev cX8_valueIn : ByteArray := prog_1_method_37_code
def yX8_valueIn : MethodName := ⟨RX8, "valueIn", "(II)I"⟩
abbrev cX8_stateWith : ByteArray := prog_1_method_38_code
def yX8_stateWith : MethodName := ⟨RX8, "stateWith", "(III)I"⟩
def RX9 : String := "PassiveChecksModel"
def TX9 : u_T := fun k => match k with
  | 0 => ("PassiveChecksModel", "now", "[I", true)
  | 1 => ("PassiveChecksModel", "past", "[I", true)
  | 2 => ("PassiveChecksModel", "pasts", "I", false)
  | 3 => ("PassiveChecksModel", "images", "[I", true)
  | 4 => ("PassiveChecksModel", "isKept", "[Z", true)
  | 5 => ("PassiveChecksModel", "text", "[I", true)
  | 6 => ("PassiveChecksModel", "typed", "I", false)
  | 7 => ("PassiveChecksModel", "letters", "[I", true)
  | 8 => ("PassiveChecksModel", "placeOf", "[I", true)
  | 9 => ("PassiveChecksModel", "size", "I", false)
  | 10 => ("PassiveChecksModel", "events", "I", false)
  | 11 => ("PassiveChecksModel", "sort", "[I", true)
  | 12 => ("PassiveChecksModel", "variable", "[I", true)
  | 13 => ("PassiveChecksModel", "term", "[I", true)
  | 14 => ("PassiveChecksModel", "termSize", "[I", true)
  | 15 => ("PassiveChecksModel", "other", "[I", true)
  | 16 => ("PassiveChecksModel", "otherSize", "[I", true)
  | 17 => ("PassiveChecksModel", "check", "[I", true)
  | 18 => ("PassiveChecksModel", "head", "[I", true)
  | 19 => ("PassiveChecksModel", "statements", "I", false)
  | 20 => ("PassiveChecksModel", "checks", "I", false)
  | 21 => ("PassiveChecksModel", "loops", "I", false)
  | 22 => ("PassiveChecksModel", "kinds", "[I", true)
  | 23 => ("PassiveChecksModel", "loopAt", "[I", true)
  | 24 => ("PassiveChecksModel", "at", "I", false)
  | 25 => ("PassiveChecksModel", "fault", "I", false)
  | 26 => ("PassiveChecksModel", "open", "[I", true)
  | 27 => ("PassiveChecksModel", "deep", "I", false)
  | 28 => ("PassiveChecksModel", "isRead", "Z", false)
  | 29 => ("PassiveChecksModel", "laidCut", "I", false)
  | 30 => ("PassiveChecksModel", "isFound", "[Z", true)
  | 31 => ("PassiveChecksModel", "isPassed", "Z", false)
  | 32 => ("PassiveChecksModel", "values", "[I", true)
  | 33 => ("PassiveChecksModel", "many", "I", false)
  | 34 => ("PassiveChecksModel", "op", "[I", true)
  | 35 => ("PassiveChecksModel", "opOf", "[I", true)
  | 36 => ("PassiveChecksModel", "target", "[I", true)
  | 37 => ("PassiveChecksModel", "catcher", "[I", true)
  | 38 => ("PassiveChecksModel", "value", "[B", true)
  | 39 => ("PassiveChecksModel", "beginAt", "[I", true)
  | 40 => ("PassiveChecksModel", "jumpAt", "[I", true)
  | 41 => ("PassiveChecksModel", "can", "[I", true)
  | 42 => ("PassiveChecksModel", "masks", "[I", true)
  | 43 => ("PassiveChecksModel", "seenAt", "[I", true)
  | 44 => ("PassiveChecksModel", "stamp", "I", false)
  | 45 => ("PassiveChecksModel", "row", "[I", true)
  | 46 => ("PassiveChecksModel", "rowMany", "I", false)
  | 47 => ("PassiveChecksModel", "rowAt", "I", false)
  | 48 => ("PassiveChecksModel", "low", "I", false)
  | 49 => ("PassiveChecksModel", "high", "I", false)
  | 50 => ("PassiveChecksModel", "endStamp", "[I", true)
  | 51 => ("PassiveChecksModel", "thrownStamp", "[I", true)
  | 52 => ("PassiveChecksModel", "goes", "[Z", true)
  | 53 => ("PassiveChecksModel", "kept", "[Z", true)
  | 54 => ("PassiveChecksModel", "leaves", "[Z", true)
  | 55 => ("PassiveChecksModel", "versionNow", "[I", true)
  | 56 => ("PassiveChecksModel", "greatest", "[I", true)
  | 57 => ("PassiveChecksModel", "isCome", "Z", false)
  | 58 => ("PassiveChecksModel", "equal", "I", false)
  | 59 => ("PassiveChecksModel", "linearNow", "I", false)
  | 60 => ("PassiveChecksModel", "ahead", "[I", true)
  | 61 => ("PassiveChecksModel", "behind", "[I", true)
  | 62 => ("PassiveChecksModel", "isBehind", "[Z", true)
  | 63 => ("PassiveChecksModel", "isComeAt", "[Z", true)
  | 64 => ("PassiveChecksModel", "thrown", "[I", true)
  | 65 => ("PassiveChecksModel", "thrownFor", "[I", true)
  | 66 => ("PassiveChecksModel", "thrownMany", "I", false)
  | 67 => ("PassiveChecksModel", "comesTo", "[J", true)
  | 68 => ("PassiveChecksModel", "thrownTo", "[J", true)
  | 69 => ("PassiveChecksModel", "firstOf", "[J", true)
  | 70 => ("PassiveChecksModel", "secondOf", "[J", true)
  | 71 => ("PassiveChecksModel", "seen", "I", false)
  | 72 => ("PassiveChecksModel", "seenWhat", "[I", true)
  | _ => ("PassiveChecksModel", "seenIs", "[I", true)
def tyX9 : Nat → FieldType := fun k => match k with
  | 0 => .array .int
  | 1 => .array .int
  | 2 => .int
  | 3 => .array .int
  | 4 => .array .boolean
  | 5 => .array .int
  | 6 => .int
  | 7 => .array .int
  | 8 => .array .int
  | 9 => .int
  | 10 => .int
  | 11 => .array .int
  | 12 => .array .int
  | 13 => .array .int
  | 14 => .array .int
  | 15 => .array .int
  | 16 => .array .int
  | 17 => .array .int
  | 18 => .array .int
  | 19 => .int
  | 20 => .int
  | 21 => .int
  | 22 => .array .int
  | 23 => .array .int
  | 24 => .int
  | 25 => .int
  | 26 => .array .int
  | 27 => .int
  | 28 => .boolean
  | 29 => .int
  | 30 => .array .boolean
  | 31 => .boolean
  | 32 => .array .int
  | 33 => .int
  | 34 => .array .int
  | 35 => .array .int
  | 36 => .array .int
  | 37 => .array .int
  | 38 => .array .byte
  | 39 => .array .int
  | 40 => .array .int
  | 41 => .array .int
  | 42 => .array .int
  | 43 => .array .int
  | 44 => .int
  | 45 => .array .int
  | 46 => .int
  | 47 => .int
  | 48 => .int
  | 49 => .int
  | 50 => .array .int
  | 51 => .array .int
  | 52 => .array .boolean
  | 53 => .array .boolean
  | 54 => .array .boolean
  | 55 => .array .int
  | 56 => .array .int
  | 57 => .boolean
  | 58 => .int
  | 59 => .int
  | 60 => .array .int
  | 61 => .array .int
  | 62 => .array .boolean
  | 63 => .array .boolean
  | 64 => .array .int
  | 65 => .array .int
  | 66 => .int
  | 67 => .array .long
  | 68 => .array .long
  | 69 => .array .long
  | 70 => .array .long
  | 71 => .int
  | 72 => .array .int
  | _ => .array .int
abbrev wsX90 : List Cond := u_ws RX9 TX9 74
theorem nmX9 : ∀ a, a < 74 → ∀ b, b < 74 → a ≠ b → (TX9 a).2.1 ≠ (TX9 b).2.1 := by decide +kernel
theorem tyX9_ok : ∀ k, k < 74 → parseFieldDescriptor (TX9 k).2.2.1 = some (tyX9 k) := by decide +kernel
abbrev cX9_init : ByteArray := prog_14_method_1_code
def yX9_init : MethodName := ⟨RX9, "<init>", "()V"⟩
abbrev cX9_in : ByteArray := prog_14_method_2_code
def yX9_in : MethodName := ⟨RX9, "in", "(III)Z"⟩
abbrev cX9_has : ByteArray := prog_14_method_3_code
def yX9_has : MethodName := ⟨RX9, "has", "(II)Z"⟩
abbrev cX9_type : ByteArray := prog_14_method_4_code
def yX9_type : MethodName := ⟨RX9, "type", "(I)I"⟩
abbrev cX9_clear : ByteArray := prog_14_method_5_code
def yX9_clear : MethodName := ⟨RX9, "clear", "()I"⟩
abbrev cX9_takeText : ByteArray := prog_14_method_6_code
def yX9_takeText : MethodName := ⟨RX9, "takeText", "()V"⟩
abbrev cX9_takeNow : ByteArray := prog_14_method_7_code
def yX9_takeNow : MethodName := ⟨RX9, "takeNow", "()V"⟩
abbrev cX9_here : ByteArray := prog_14_method_8_code
def yX9_here : MethodName := ⟨RX9, "here", "()I"⟩
abbrev cX9_must : ByteArray := prog_14_method_9_code
def yX9_must : MethodName := ⟨RX9, "must", "(Z)V"⟩
abbrev cX9_isName : ByteArray := prog_14_method_10_code
def yX9_isName : MethodName := ⟨RX9, "isName", "(I)Z"⟩
abbrev cX9_isTwo : ByteArray := prog_14_method_11_code
def yX9_isTwo : MethodName := ⟨RX9, "isTwo", "(I)Z"⟩
abbrev cX9_readTerm : ByteArray := prog_14_method_12_code
def yX9_readTerm : MethodName := ⟨RX9, "readTerm", "()I"⟩
abbrev cX9_readName : ByteArray := prog_14_method_13_code
def yX9_readName : MethodName := ⟨RX9, "readName", "()I"⟩
abbrev cX9_readOpen : ByteArray := prog_14_method_14_code
def yX9_readOpen : MethodName := ⟨RX9, "readOpen", "(II)V"⟩
abbrev cX9_loopsAround : ByteArray := prog_14_method_15_code
def yX9_loopsAround : MethodName := ⟨RX9, "loopsAround", "()I"⟩
abbrev cX9_sortOf : ByteArray := prog_14_method_16_code
def yX9_sortOf : MethodName := ⟨RX9, "sortOf", "(I)I"⟩
abbrev cX9_checksOf : ByteArray := prog_14_method_17_code
def yX9_checksOf : MethodName := ⟨RX9, "checksOf", "(I)I"⟩
abbrev cX9_readStatement : ByteArray := prog_14_method_18_code
def yX9_readStatement : MethodName := ⟨RX9, "readStatement", "()V"⟩
abbrev cX9_readRest : ByteArray := prog_14_method_19_code
def yX9_readRest : MethodName := ⟨RX9, "readRest", "(II)V"⟩
abbrev cX9_readClose : ByteArray := prog_14_method_20_code
def yX9_readClose : MethodName := ⟨RX9, "readClose", "()V"⟩
abbrev cX9_readProgram : ByteArray := prog_14_method_21_code
def yX9_readProgram : MethodName := ⟨RX9, "readProgram", "()I"⟩
abbrev cX9_note : ByteArray := prog_14_method_22_code
def yX9_note : MethodName := ⟨RX9, "note", "()V"⟩
abbrev cX9_forgetAll : ByteArray := prog_14_method_23_code
def yX9_forgetAll : MethodName := ⟨RX9, "forgetAll", "()V"⟩
abbrev cX9_read : ByteArray := prog_14_method_24_code
def yX9_read : MethodName := ⟨RX9, "read", "()V"⟩
abbrev cX9_program : ByteArray := prog_14_method_25_code
def yX9_program : MethodName := ⟨RX9, "program", "()I"⟩
abbrev cX9_invariant : ByteArray := prog_14_method_26_code
def yX9_invariant : MethodName := ⟨RX9, "invariant", "(I)I"⟩
abbrev cX9_undo : ByteArray := prog_14_method_27_code
def yX9_undo : MethodName := ⟨RX9, "undo", "()I"⟩
abbrev cX9_told : ByteArray := prog_14_method_28_code
def yX9_told : MethodName := ⟨RX9, "told", "(I)I"⟩
abbrev cX9_kind : ByteArray := prog_14_method_29_code
def yX9_kind : MethodName := ⟨RX9, "kind", "(I)I"⟩
abbrev cX9_valueOf : ByteArray := prog_14_method_30_code
def yX9_valueOf : MethodName := ⟨RX9, "valueOf", "(III)I"⟩
abbrev cX9_both : ByteArray := prog_14_method_31_code
def yX9_both : MethodName := ⟨RX9, "both", "(III)I"⟩
abbrev cX9_anyOf : ByteArray := prog_14_method_32_code
def yX9_anyOf : MethodName := ⟨RX9, "anyOf", "(I)I"⟩
abbrev cX9_emit : ByteArray := prog_14_method_33_code
def yX9_emit : MethodName := ⟨RX9, "emit", "(IIII)V"⟩
abbrev cX9_tryAround : ByteArray := prog_14_method_34_code
def yX9_tryAround : MethodName := ⟨RX9, "tryAround", "()I"⟩
abbrev cX9_emitLoop : ByteArray := prog_14_method_35_code
def yX9_emitLoop : MethodName := ⟨RX9, "emitLoop", "(II)V"⟩
abbrev cX9_emitClose : ByteArray := prog_14_method_36_code
def yX9_emitClose : MethodName := ⟨RX9, "emitClose", "(II)V"⟩
abbrev cX9_emitEvent : ByteArray := prog_14_method_37_code
def yX9_emitEvent : MethodName := ⟨RX9, "emitEvent", "(II)V"⟩
abbrev cX9_lay : ByteArray := prog_14_method_38_code
def yX9_lay : MethodName := ⟨RX9, "lay", "(I)V"⟩
abbrev cX9_with : ByteArray := prog_14_method_39_code
def yX9_with : MethodName := ⟨RX9, "with", "(III)I"⟩
abbrev cX9_canFrom : ByteArray := prog_14_method_40_code
def yX9_canFrom : MethodName := ⟨RX9, "canFrom", "(II)I"⟩
abbrev cX9_canBy : ByteArray := prog_14_method_41_code
def yX9_canBy : MethodName := ⟨RX9, "canBy", "(II)I"⟩
abbrev cX9_findMasks : ByteArray := prog_14_method_42_code
def yX9_findMasks : MethodName := ⟨RX9, "findMasks", "(I)V"⟩
abbrev cX9_isCheck : ByteArray := prog_14_method_43_code
def yX9_isCheck : MethodName := ⟨RX9, "isCheck", "(I)Z"⟩
abbrev cX9_loop : ByteArray := prog_14_method_44_code
def yX9_loop : MethodName := ⟨RX9, "loop", "(II)I"⟩
abbrev cX9_wrong : ByteArray := prog_14_method_45_code
def yX9_wrong : MethodName := ⟨RX9, "wrong", "(III)I"⟩
abbrev cX9_spurious : ByteArray := prog_14_method_46_code
def yX9_spurious : MethodName := ⟨RX9, "spurious", "(I)I"⟩
abbrev cX9_from : ByteArray := prog_14_method_47_code
def yX9_from : MethodName := ⟨RX9, "from", "(III)I"⟩
abbrev cX9_come : ByteArray := prog_14_method_48_code
def yX9_come : MethodName := ⟨RX9, "come", "(II)V"⟩
abbrev cX9_goOn : ByteArray := prog_14_method_49_code
def yX9_goOn : MethodName := ⟨RX9, "goOn", "(II)V"⟩
abbrev cX9_goThrough : ByteArray := prog_14_method_50_code
def yX9_goThrough : MethodName := ⟨RX9, "goThrough", "(III)V"⟩
abbrev cX9_ends : ByteArray := prog_14_method_51_code
def yX9_ends : MethodName := ⟨RX9, "ends", "(IIII)I"⟩
abbrev cX9_keeps : ByteArray := prog_14_method_52_code
def yX9_keeps : MethodName := ⟨RX9, "keeps", "(II)I"⟩
abbrev cX9_leaveOut : ByteArray := prog_14_method_53_code
def yX9_leaveOut : MethodName := ⟨RX9, "leaveOut", "()Z"⟩
abbrev cX9_renew : ByteArray := prog_14_method_54_code
def yX9_renew : MethodName := ⟨RX9, "renew", "(I)V"⟩
abbrev cX9_keepVersions : ByteArray := prog_14_method_55_code
def yX9_keepVersions : MethodName := ⟨RX9, "keepVersions", "([II)V"⟩
abbrev cX9_layVersions : ByteArray := prog_14_method_56_code
def yX9_layVersions : MethodName := ⟨RX9, "layVersions", "([II)V"⟩
abbrev cX9_passStatement : ByteArray := prog_14_method_57_code
def yX9_passStatement : MethodName := ⟨RX9, "passStatement", "(I)V"⟩
abbrev cX9_joinVariable : ByteArray := prog_14_method_58_code
def yX9_joinVariable : MethodName := ⟨RX9, "joinVariable", "(IIII)V"⟩
abbrev cX9_joinBoth : ByteArray := prog_14_method_59_code
def yX9_joinBoth : MethodName := ⟨RX9, "joinBoth", "(I)V"⟩
abbrev cX9_passOpen : ByteArray := prog_14_method_60_code
def yX9_passOpen : MethodName := ⟨RX9, "passOpen", "(I)V"⟩
abbrev cX9_passClose : ByteArray := prog_14_method_61_code
def yX9_passClose : MethodName := ⟨RX9, "passClose", "(I)V"⟩
abbrev cX9_pass : ByteArray := prog_14_method_62_code
def yX9_pass : MethodName := ⟨RX9, "pass", "()V"⟩
abbrev cX9_versions : ByteArray := prog_14_method_63_code
def yX9_versions : MethodName := ⟨RX9, "versions", "(I)I"⟩
abbrev cX9_equalities : ByteArray := prog_14_method_64_code
def yX9_equalities : MethodName := ⟨RX9, "equalities", "()I"⟩
abbrev cX9_linear : ByteArray := prog_14_method_65_code
def yX9_linear : MethodName := ⟨RX9, "linear", "()I"⟩
abbrev cX9_copyStatement : ByteArray := prog_14_method_66_code
def yX9_copyStatement : MethodName := ⟨RX9, "copyStatement", "(I)V"⟩
abbrev cX9_copied : ByteArray := prog_14_method_67_code
def yX9_copied : MethodName := ⟨RX9, "copied", "()J"⟩
abbrev cX9_sees : ByteArray := prog_14_method_68_code
def yX9_sees : MethodName := ⟨RX9, "sees", "(II)I"⟩
abbrev cX9_forget : ByteArray := prog_14_method_69_code
def yX9_forget : MethodName := ⟨RX9, "forget", "()I"⟩
abbrev cX9_isStart : ByteArray := prog_14_method_70_code
def yX9_isStart : MethodName := ⟨RX9, "isStart", "(I)Z"⟩
abbrev cX9_starts : ByteArray := prog_14_method_71_code
def yX9_starts : MethodName := ⟨RX9, "starts", "(I)I"⟩
abbrev cX9_alike : ByteArray := prog_14_method_72_code
def yX9_alike : MethodName := ⟨RX9, "alike", "(I)I"⟩
abbrev cX9_ask : ByteArray := prog_14_method_73_code
def yX9_ask : MethodName := ⟨RX9, "ask", "()I"⟩
abbrev cX9_keep : ByteArray := prog_14_method_74_code
def yX9_keep : MethodName := ⟨RX9, "keep", "(I)I"⟩
abbrev cX9_back : ByteArray := prog_14_method_75_code
def yX9_back : MethodName := ⟨RX9, "back", "(I)I"⟩
abbrev cX9_count : ByteArray := prog_14_method_76_code
def yX9_count : MethodName := ⟨RX9, "count", "(I)I"⟩
def RJ6 : String := "java/lang/Integer"
def TJ6 : u_T := fun k => match k with
  | _ => ("", "", "", false)
def tyJ6 : Nat → FieldType := fun k => match k with
  | _ => .int
abbrev wsJ60 : List Cond := u_ws RJ6 TJ6 0
theorem nmJ6 : ∀ a, a < 0 → ∀ b, b < 0 → a ≠ b → (TJ6 a).2.1 ≠ (TJ6 b).2.1 := by decide +kernel
theorem tyJ6_ok : ∀ k, k < 0 → parseFieldDescriptor (TJ6 k).2.2.1 = some (tyJ6 k) := by decide +kernel
abbrev cJ6_bitCount_0f7a4 : ByteArray := prog_15_method_49_code
def yJ6_bitCount_0f7a4 : MethodName := ⟨RJ6, "bitCount", "(I)I"⟩
def RJ13 : String := "java/lang/Long"
def TJ13 : u_T := fun k => match k with
  | _ => ("", "", "", false)
def tyJ13 : Nat → FieldType := fun k => match k with
  | _ => .int
abbrev wsJ130 : List Cond := u_ws RJ13 TJ13 0
theorem nmJ13 : ∀ a, a < 0 → ∀ b, b < 0 → a ≠ b → (TJ13 a).2.1 ≠ (TJ13 b).2.1 := by decide +kernel
theorem tyJ13_ok : ∀ k, k < 0 → parseFieldDescriptor (TJ13 k).2.2.1 = some (tyJ13 k) := by decide +kernel
abbrev cJ13_bitCount_95d88 : ByteArray := prog_16_method_50_code
def yJ13_bitCount_95d88 : MethodName := ⟨RJ13, "bitCount", "(J)I"⟩
def RJ9 : String := "java/lang/Math"
def TJ9 : u_T := fun k => match k with
  | _ => ("", "", "", false)
def tyJ9 : Nat → FieldType := fun k => match k with
  | _ => .int
abbrev wsJ90 : List Cond := u_ws RJ9 TJ9 0
theorem nmJ9 : ∀ a, a < 0 → ∀ b, b < 0 → a ≠ b → (TJ9 a).2.1 ≠ (TJ9 b).2.1 := by decide +kernel
theorem tyJ9_ok : ∀ k, k < 0 → parseFieldDescriptor (TJ9 k).2.2.1 = some (tyJ9 k) := by decide +kernel
abbrev cJ9_max_7cf53 : ByteArray := prog_17_method_65_code
def yJ9_max_7cf53 : MethodName := ⟨RJ9, "max", "(II)I"⟩
abbrev cJ9_min_7cf53 : ByteArray := prog_17_method_69_code
def yJ9_min_7cf53 : MethodName := ⟨RJ9, "min", "(II)I"⟩
def RJ10 : String := "java/lang/System"
def TJ10 : u_T := fun k => match k with
  | _ => ("", "", "", false)
def tyJ10 : Nat → FieldType := fun k => match k with
  | _ => .int
abbrev wsJ100 : List Cond := u_ws RJ10 TJ10 0
theorem nmJ10 : ∀ a, a < 0 → ∀ b, b < 0 → a ≠ b → (TJ10 a).2.1 ≠ (TJ10 b).2.1 := by decide +kernel
theorem tyJ10_ok : ∀ k, k < 0 → parseFieldDescriptor (TJ10 k).2.2.1 = some (tyJ10 k) := by decide +kernel
def RJ7 : String := "java/util/Arrays"
def TJ7 : u_T := fun k => match k with
  | _ => ("", "", "", false)
def tyJ7 : Nat → FieldType := fun k => match k with
  | _ => .int
abbrev wsJ70 : List Cond := u_ws RJ7 TJ7 0
theorem nmJ7 : ∀ a, a < 0 → ∀ b, b < 0 → a ≠ b → (TJ7 a).2.1 ≠ (TJ7 b).2.1 := by decide +kernel
theorem tyJ7_ok : ∀ k, k < 0 → parseFieldDescriptor (TJ7 k).2.2.1 = some (tyJ7 k) := by decide +kernel
abbrev cJ7_rangeCheck_23922 : ByteArray := prog_19_method_30_code
def yJ7_rangeCheck_23922 : MethodName := ⟨RJ7, "rangeCheck", "(III)V"⟩
abbrev cJ7_fill_d0a16 : ByteArray := prog_19_method_101_code
def yJ7_fill_d0a16 : MethodName := ⟨RJ7, "fill", "([JJ)V"⟩
abbrev cJ7_fill_bad5a : ByteArray := prog_19_method_102_code
def yJ7_fill_bad5a : MethodName := ⟨RJ7, "fill", "([JIIJ)V"⟩
abbrev cJ7_fill_fda19 : ByteArray := prog_19_method_104_code
def yJ7_fill_fda19 : MethodName := ⟨RJ7, "fill", "([IIII)V"⟩
def RL : String := "PassiveChecksLaw"
abbrev cL_law : ByteArray := code
def yL_law : MethodName := ⟨RL, "law", "([I)Z"⟩

-- ===== PART A: goes FIRST, ahead of the names: the tables' words, and 'selects' of the private methods out of them =====
/-- a private method of a class that the tables say can be made, by its rows of tables_1 -/
def lw_okq (q : MethodName × Nat) : Prop := (q.1.cls ≠ "java/lang/invoke/MethodHandle" ∧ q.1.cls ≠ "java/lang/invoke/VarHandle") ∧ Cond.instantiable q.1.cls q.2 ∈ tables_1 ∧ Cond.privateMethod q.1 ∈ tables_1 ∧ Cond.instanceMethod q.1 ∈ tables_1
theorem lw_p0 : lw_okq (⟨"RoundRows$Tape", "stopOf", "(I)I"⟩, 6) := ⟨⟨by decide +kernel, by decide +kernel⟩, List.mem_of_getElem? (i := 29) (by decide +kernel), List.mem_of_getElem? (i := 500) (by decide +kernel), List.mem_of_getElem? (i := 501) (by decide +kernel)⟩
theorem lw_p1 : lw_okq (⟨"RoundRows$Tape", "kindOf", "(II)I"⟩, 6) := ⟨⟨by decide +kernel, by decide +kernel⟩, List.mem_of_getElem? (i := 29) (by decide +kernel), List.mem_of_getElem? (i := 510) (by decide +kernel), List.mem_of_getElem? (i := 511) (by decide +kernel)⟩
theorem lw_p2 : lw_okq (⟨"RoundRows$Tape", "wordKind", "(II)I"⟩, 6) := ⟨⟨by decide +kernel, by decide +kernel⟩, List.mem_of_getElem? (i := 29) (by decide +kernel), List.mem_of_getElem? (i := 514) (by decide +kernel), List.mem_of_getElem? (i := 515) (by decide +kernel)⟩
theorem lw_p3 : lw_okq (⟨"RoundRows$Tape", "add", "(III)V"⟩, 6) := ⟨⟨by decide +kernel, by decide +kernel⟩, List.mem_of_getElem? (i := 29) (by decide +kernel), List.mem_of_getElem? (i := 567) (by decide +kernel), List.mem_of_getElem? (i := 568) (by decide +kernel)⟩
theorem lw_p4 : lw_okq (⟨"RoundRows$Parser", "kind", "()I"⟩, 10) := ⟨⟨by decide +kernel, by decide +kernel⟩, List.mem_of_getElem? (i := 57) (by decide +kernel), List.mem_of_getElem? (i := 583) (by decide +kernel), List.mem_of_getElem? (i := 584) (by decide +kernel)⟩
theorem lw_p5 : lw_okq (⟨"RoundRows$Tape", "isToken", "(I)Z"⟩, 6) := ⟨⟨by decide +kernel, by decide +kernel⟩, List.mem_of_getElem? (i := 29) (by decide +kernel), List.mem_of_getElem? (i := 591) (by decide +kernel), List.mem_of_getElem? (i := 592) (by decide +kernel)⟩
theorem lw_p6 : lw_okq (⟨"RoundRows$Parser", "fail", "(I)Z"⟩, 10) := ⟨⟨by decide +kernel, by decide +kernel⟩, List.mem_of_getElem? (i := 57) (by decide +kernel), List.mem_of_getElem? (i := 595) (by decide +kernel), List.mem_of_getElem? (i := 596) (by decide +kernel)⟩
theorem lw_p7 : lw_okq (⟨"RoundRows$Parser", "stepLine", "()Z"⟩, 10) := ⟨⟨by decide +kernel, by decide +kernel⟩, List.mem_of_getElem? (i := 57) (by decide +kernel), List.mem_of_getElem? (i := 603) (by decide +kernel), List.mem_of_getElem? (i := 604) (by decide +kernel)⟩
theorem lw_p8 : lw_okq (⟨"RoundRows$Parser", "takeNumber", "(II)I"⟩, 10) := ⟨⟨by decide +kernel, by decide +kernel⟩, List.mem_of_getElem? (i := 57) (by decide +kernel), List.mem_of_getElem? (i := 607) (by decide +kernel), List.mem_of_getElem? (i := 608) (by decide +kernel)⟩
theorem lw_p9 : lw_okq (⟨"RoundRows$Parser", "take", "(I)Z"⟩, 10) := ⟨⟨by decide +kernel, by decide +kernel⟩, List.mem_of_getElem? (i := 57) (by decide +kernel), List.mem_of_getElem? (i := 617) (by decide +kernel), List.mem_of_getElem? (i := 618) (by decide +kernel)⟩
theorem lw_p10 : lw_okq (⟨"RoundRows$Parser", "measureLine", "()Z"⟩, 10) := ⟨⟨by decide +kernel, by decide +kernel⟩, List.mem_of_getElem? (i := 57) (by decide +kernel), List.mem_of_getElem? (i := 621) (by decide +kernel), List.mem_of_getElem? (i := 622) (by decide +kernel)⟩
theorem lw_p11 : lw_okq (⟨"RoundRows$Parser", "newName", "()Z"⟩, 10) := ⟨⟨by decide +kernel, by decide +kernel⟩, List.mem_of_getElem? (i := 57) (by decide +kernel), List.mem_of_getElem? (i := 630) (by decide +kernel), List.mem_of_getElem? (i := 631) (by decide +kernel)⟩
theorem lw_p12 : lw_okq (⟨"RoundRows$Parser", "bearerHere", "()I"⟩, 10) := ⟨⟨by decide +kernel, by decide +kernel⟩, List.mem_of_getElem? (i := 57) (by decide +kernel), List.mem_of_getElem? (i := 634) (by decide +kernel), List.mem_of_getElem? (i := 635) (by decide +kernel)⟩
theorem lw_p13 : lw_okq (⟨"RoundRows$Parser", "sort", "(LRoundRows$MeasurePlan;)Z"⟩, 10) := ⟨⟨by decide +kernel, by decide +kernel⟩, List.mem_of_getElem? (i := 57) (by decide +kernel), List.mem_of_getElem? (i := 642) (by decide +kernel), List.mem_of_getElem? (i := 643) (by decide +kernel)⟩
theorem lw_p14 : lw_okq (⟨"RoundRows$Parser", "widths", "(LRoundRows$MeasurePlan;)Z"⟩, 10) := ⟨⟨by decide +kernel, by decide +kernel⟩, List.mem_of_getElem? (i := 57) (by decide +kernel), List.mem_of_getElem? (i := 646) (by decide +kernel), List.mem_of_getElem? (i := 647) (by decide +kernel)⟩
theorem lw_p15 : lw_okq (⟨"RoundRows$Parser", "silence", "(LRoundRows$MeasurePlan;)Z"⟩, 10) := ⟨⟨by decide +kernel, by decide +kernel⟩, List.mem_of_getElem? (i := 57) (by decide +kernel), List.mem_of_getElem? (i := 650) (by decide +kernel), List.mem_of_getElem? (i := 651) (by decide +kernel)⟩
def lw_privs_1 : List (MethodName × Nat) := [(⟨"RoundRows$Tape", "stopOf", "(I)I"⟩, 6), (⟨"RoundRows$Tape", "kindOf", "(II)I"⟩, 6), (⟨"RoundRows$Tape", "wordKind", "(II)I"⟩, 6), (⟨"RoundRows$Tape", "add", "(III)V"⟩, 6), (⟨"RoundRows$Parser", "kind", "()I"⟩, 10), (⟨"RoundRows$Tape", "isToken", "(I)Z"⟩, 6), (⟨"RoundRows$Parser", "fail", "(I)Z"⟩, 10), (⟨"RoundRows$Parser", "stepLine", "()Z"⟩, 10), (⟨"RoundRows$Parser", "takeNumber", "(II)I"⟩, 10), (⟨"RoundRows$Parser", "take", "(I)Z"⟩, 10), (⟨"RoundRows$Parser", "measureLine", "()Z"⟩, 10), (⟨"RoundRows$Parser", "newName", "()Z"⟩, 10), (⟨"RoundRows$Parser", "bearerHere", "()I"⟩, 10), (⟨"RoundRows$Parser", "sort", "(LRoundRows$MeasurePlan;)Z"⟩, 10), (⟨"RoundRows$Parser", "widths", "(LRoundRows$MeasurePlan;)Z"⟩, 10), (⟨"RoundRows$Parser", "silence", "(LRoundRows$MeasurePlan;)Z"⟩, 10)]
theorem lw_r1 : ∀ q ∈ lw_privs_1, lw_okq q := List.forall_mem_cons.mpr ⟨lw_p0, List.forall_mem_cons.mpr ⟨lw_p1, List.forall_mem_cons.mpr ⟨lw_p2, List.forall_mem_cons.mpr ⟨lw_p3, List.forall_mem_cons.mpr ⟨lw_p4, List.forall_mem_cons.mpr ⟨lw_p5, List.forall_mem_cons.mpr ⟨lw_p6, List.forall_mem_cons.mpr ⟨lw_p7, List.forall_mem_cons.mpr ⟨lw_p8, List.forall_mem_cons.mpr ⟨lw_p9, List.forall_mem_cons.mpr ⟨lw_p10, List.forall_mem_cons.mpr ⟨lw_p11, List.forall_mem_cons.mpr ⟨lw_p12, List.forall_mem_cons.mpr ⟨lw_p13, List.forall_mem_cons.mpr ⟨lw_p14, List.forall_mem_cons.mpr ⟨lw_p15, fun _ h => absurd h List.not_mem_nil⟩⟩⟩⟩⟩⟩⟩⟩⟩⟩⟩⟩⟩⟩⟩⟩
theorem lw_p16 : lw_okq (⟨"RoundRows$Parser", "bounds", "(LRoundRows$MeasurePlan;)Z"⟩, 10) := ⟨⟨by decide +kernel, by decide +kernel⟩, List.mem_of_getElem? (i := 57) (by decide +kernel), List.mem_of_getElem? (i := 654) (by decide +kernel), List.mem_of_getElem? (i := 655) (by decide +kernel)⟩
theorem lw_p17 : lw_okq (⟨"RoundRows$Parser", "remember", "(II)V"⟩, 10) := ⟨⟨by decide +kernel, by decide +kernel⟩, List.mem_of_getElem? (i := 57) (by decide +kernel), List.mem_of_getElem? (i := 659) (by decide +kernel), List.mem_of_getElem? (i := 660) (by decide +kernel)⟩
theorem lw_p18 : lw_okq (⟨"RoundRows$Parser", "archiveLine", "()Z"⟩, 10) := ⟨⟨by decide +kernel, by decide +kernel⟩, List.mem_of_getElem? (i := 57) (by decide +kernel), List.mem_of_getElem? (i := 663) (by decide +kernel), List.mem_of_getElem? (i := 664) (by decide +kernel)⟩
theorem lw_p19 : lw_okq (⟨"RoundRows$Parser", "howHere", "()I"⟩, 10) := ⟨⟨by decide +kernel, by decide +kernel⟩, List.mem_of_getElem? (i := 57) (by decide +kernel), List.mem_of_getElem? (i := 667) (by decide +kernel), List.mem_of_getElem? (i := 668) (by decide +kernel)⟩
theorem lw_p20 : lw_okq (⟨"RoundRows$Parser", "forecastLine", "()Z"⟩, 10) := ⟨⟨by decide +kernel, by decide +kernel⟩, List.mem_of_getElem? (i := 57) (by decide +kernel), List.mem_of_getElem? (i := 671) (by decide +kernel), List.mem_of_getElem? (i := 672) (by decide +kernel)⟩
theorem lw_p21 : lw_okq (⟨"RoundRows$Parser", "forecastNumbers", "(LRoundRows$MeasurePlan;)Z"⟩, 10) := ⟨⟨by decide +kernel, by decide +kernel⟩, List.mem_of_getElem? (i := 57) (by decide +kernel), List.mem_of_getElem? (i := 675) (by decide +kernel), List.mem_of_getElem? (i := 676) (by decide +kernel)⟩
theorem lw_p22 : lw_okq (⟨"RoundRows$Parser", "showLine", "()Z"⟩, 10) := ⟨⟨by decide +kernel, by decide +kernel⟩, List.mem_of_getElem? (i := 57) (by decide +kernel), List.mem_of_getElem? (i := 679) (by decide +kernel), List.mem_of_getElem? (i := 680) (by decide +kernel)⟩
theorem lw_p23 : lw_okq (⟨"RoundRows$Parser", "formula", "()Z"⟩, 10) := ⟨⟨by decide +kernel, by decide +kernel⟩, List.mem_of_getElem? (i := 57) (by decide +kernel), List.mem_of_getElem? (i := 683) (by decide +kernel), List.mem_of_getElem? (i := 684) (by decide +kernel)⟩
theorem lw_p24 : lw_okq (⟨"RoundRows$Parser", "unit", "(I)Z"⟩, 10) := ⟨⟨by decide +kernel, by decide +kernel⟩, List.mem_of_getElem? (i := 57) (by decide +kernel), List.mem_of_getElem? (i := 687) (by decide +kernel), List.mem_of_getElem? (i := 688) (by decide +kernel)⟩
theorem lw_p25 : lw_okq (⟨"RoundRows$Parser", "await", "(I)V"⟩, 10) := ⟨⟨by decide +kernel, by decide +kernel⟩, List.mem_of_getElem? (i := 57) (by decide +kernel), List.mem_of_getElem? (i := 691) (by decide +kernel), List.mem_of_getElem? (i := 692) (by decide +kernel)⟩
theorem lw_p26 : lw_okq (⟨"RoundRows$Parser", "release", "(I)V"⟩, 10) := ⟨⟨by decide +kernel, by decide +kernel⟩, List.mem_of_getElem? (i := 57) (by decide +kernel), List.mem_of_getElem? (i := 702) (by decide +kernel), List.mem_of_getElem? (i := 703) (by decide +kernel)⟩
theorem lw_p27 : lw_okq (⟨"RoundRows", "now", "()LRoundRows$State;"⟩, 14) := ⟨⟨by decide +kernel, by decide +kernel⟩, List.mem_of_getElem? (i := 21) (by decide +kernel), List.mem_of_getElem? (i := 710) (by decide +kernel), List.mem_of_getElem? (i := 711) (by decide +kernel)⟩
theorem lw_p28 : lw_okq (⟨"RoundRows", "forgetActs", "()V"⟩, 14) := ⟨⟨by decide +kernel, by decide +kernel⟩, List.mem_of_getElem? (i := 21) (by decide +kernel), List.mem_of_getElem? (i := 734) (by decide +kernel), List.mem_of_getElem? (i := 735) (by decide +kernel)⟩
theorem lw_p29 : lw_okq (⟨"RoundRows", "canPass", "(I)Z"⟩, 14) := ⟨⟨by decide +kernel, by decide +kernel⟩, List.mem_of_getElem? (i := 21) (by decide +kernel), List.mem_of_getElem? (i := 747) (by decide +kernel), List.mem_of_getElem? (i := 748) (by decide +kernel)⟩
theorem lw_p30 : lw_okq (⟨"RoundRows", "newAct", "()LRoundRows$State;"⟩, 14) := ⟨⟨by decide +kernel, by decide +kernel⟩, List.mem_of_getElem? (i := 21) (by decide +kernel), List.mem_of_getElem? (i := 752) (by decide +kernel), List.mem_of_getElem? (i := 753) (by decide +kernel)⟩
theorem lw_p31 : lw_okq (⟨"RoundRows$Meter", "risen", "(LRoundRows$MeasurePlan;I)I"⟩, 10) := ⟨⟨by decide +kernel, by decide +kernel⟩, List.mem_of_getElem? (i := 278) (by decide +kernel), List.mem_of_getElem? (i := 800) (by decide +kernel), List.mem_of_getElem? (i := 801) (by decide +kernel)⟩
def lw_privs_2 : List (MethodName × Nat) := [(⟨"RoundRows$Parser", "bounds", "(LRoundRows$MeasurePlan;)Z"⟩, 10), (⟨"RoundRows$Parser", "remember", "(II)V"⟩, 10), (⟨"RoundRows$Parser", "archiveLine", "()Z"⟩, 10), (⟨"RoundRows$Parser", "howHere", "()I"⟩, 10), (⟨"RoundRows$Parser", "forecastLine", "()Z"⟩, 10), (⟨"RoundRows$Parser", "forecastNumbers", "(LRoundRows$MeasurePlan;)Z"⟩, 10), (⟨"RoundRows$Parser", "showLine", "()Z"⟩, 10), (⟨"RoundRows$Parser", "formula", "()Z"⟩, 10), (⟨"RoundRows$Parser", "unit", "(I)Z"⟩, 10), (⟨"RoundRows$Parser", "await", "(I)V"⟩, 10), (⟨"RoundRows$Parser", "release", "(I)V"⟩, 10), (⟨"RoundRows", "now", "()LRoundRows$State;"⟩, 14), (⟨"RoundRows", "forgetActs", "()V"⟩, 14), (⟨"RoundRows", "canPass", "(I)Z"⟩, 14), (⟨"RoundRows", "newAct", "()LRoundRows$State;"⟩, 14), (⟨"RoundRows$Meter", "risen", "(LRoundRows$MeasurePlan;I)I"⟩, 10)]
theorem lw_r2 : ∀ q ∈ lw_privs_2, lw_okq q := List.forall_mem_cons.mpr ⟨lw_p16, List.forall_mem_cons.mpr ⟨lw_p17, List.forall_mem_cons.mpr ⟨lw_p18, List.forall_mem_cons.mpr ⟨lw_p19, List.forall_mem_cons.mpr ⟨lw_p20, List.forall_mem_cons.mpr ⟨lw_p21, List.forall_mem_cons.mpr ⟨lw_p22, List.forall_mem_cons.mpr ⟨lw_p23, List.forall_mem_cons.mpr ⟨lw_p24, List.forall_mem_cons.mpr ⟨lw_p25, List.forall_mem_cons.mpr ⟨lw_p26, List.forall_mem_cons.mpr ⟨lw_p27, List.forall_mem_cons.mpr ⟨lw_p28, List.forall_mem_cons.mpr ⟨lw_p29, List.forall_mem_cons.mpr ⟨lw_p30, List.forall_mem_cons.mpr ⟨lw_p31, fun _ h => absurd h List.not_mem_nil⟩⟩⟩⟩⟩⟩⟩⟩⟩⟩⟩⟩⟩⟩⟩⟩
theorem lw_p32 : lw_okq (⟨"RoundRows$State", "endStep", "(LRoundRows$Plan;I)V"⟩, 5) := ⟨⟨by decide +kernel, by decide +kernel⟩, List.mem_of_getElem? (i := 267) (by decide +kernel), List.mem_of_getElem? (i := 819) (by decide +kernel), List.mem_of_getElem? (i := 820) (by decide +kernel)⟩
theorem lw_p33 : lw_okq (⟨"RoundRows$Outlook", "keep", "(IZ)V"⟩, 8) := ⟨⟨by decide +kernel, by decide +kernel⟩, List.mem_of_getElem? (i := 329) (by decide +kernel), List.mem_of_getElem? (i := 858) (by decide +kernel), List.mem_of_getElem? (i := 859) (by decide +kernel)⟩
theorem lw_p34 : lw_okq (⟨"RoundRows", "isMeasure", "(I)Z"⟩, 14) := ⟨⟨by decide +kernel, by decide +kernel⟩, List.mem_of_getElem? (i := 21) (by decide +kernel), List.mem_of_getElem? (i := 887) (by decide +kernel), List.mem_of_getElem? (i := 888) (by decide +kernel)⟩
theorem lw_p35 : lw_okq (⟨"RoundRows", "isBox", "(I)Z"⟩, 14) := ⟨⟨by decide +kernel, by decide +kernel⟩, List.mem_of_getElem? (i := 21) (by decide +kernel), List.mem_of_getElem? (i := 912) (by decide +kernel), List.mem_of_getElem? (i := 913) (by decide +kernel)⟩
theorem lw_p36 : lw_okq (⟨"RoundRows", "valueBy", "(III)I"⟩, 14) := ⟨⟨by decide +kernel, by decide +kernel⟩, List.mem_of_getElem? (i := 21) (by decide +kernel), List.mem_of_getElem? (i := 937) (by decide +kernel), List.mem_of_getElem? (i := 938) (by decide +kernel)⟩
theorem lw_p37 : lw_okq (⟨"RoundRows", "stepsBy", "(I)I"⟩, 14) := ⟨⟨by decide +kernel, by decide +kernel⟩, List.mem_of_getElem? (i := 21) (by decide +kernel), List.mem_of_getElem? (i := 941) (by decide +kernel), List.mem_of_getElem? (i := 942) (by decide +kernel)⟩
theorem lw_p38 : lw_okq (⟨"RoundRows", "stepsOver", "()I"⟩, 14) := ⟨⟨by decide +kernel, by decide +kernel⟩, List.mem_of_getElem? (i := 21) (by decide +kernel), List.mem_of_getElem? (i := 946) (by decide +kernel), List.mem_of_getElem? (i := 947) (by decide +kernel)⟩
theorem lw_p39 : lw_okq (⟨"RoundRows$Meter", "leastCount", "(LRoundRows$MeasurePlan;JI)I"⟩, 10) := ⟨⟨by decide +kernel, by decide +kernel⟩, List.mem_of_getElem? (i := 278) (by decide +kernel), List.mem_of_getElem? (i := 961) (by decide +kernel), List.mem_of_getElem? (i := 962) (by decide +kernel)⟩
theorem lw_p40 : lw_okq (⟨"RoundRows", "isArchive", "(I)Z"⟩, 14) := ⟨⟨by decide +kernel, by decide +kernel⟩, List.mem_of_getElem? (i := 21) (by decide +kernel), List.mem_of_getElem? (i := 975) (by decide +kernel), List.mem_of_getElem? (i := 976) (by decide +kernel)⟩
theorem lw_p41 : lw_okq (⟨"RoundRows", "keptRows", "(I)I"⟩, 14) := ⟨⟨by decide +kernel, by decide +kernel⟩, List.mem_of_getElem? (i := 21) (by decide +kernel), List.mem_of_getElem? (i := 979) (by decide +kernel), List.mem_of_getElem? (i := 980) (by decide +kernel)⟩
theorem lw_p42 : lw_okq (⟨"RoundRows", "rowsDone", "(I)I"⟩, 14) := ⟨⟨by decide +kernel, by decide +kernel⟩, List.mem_of_getElem? (i := 21) (by decide +kernel), List.mem_of_getElem? (i := 983) (by decide +kernel), List.mem_of_getElem? (i := 984) (by decide +kernel)⟩
theorem lw_p43 : lw_okq (⟨"RoundRows", "rowUnits", "(I)I"⟩, 14) := ⟨⟨by decide +kernel, by decide +kernel⟩, List.mem_of_getElem? (i := 21) (by decide +kernel), List.mem_of_getElem? (i := 987) (by decide +kernel), List.mem_of_getElem? (i := 988) (by decide +kernel)⟩
theorem lw_p44 : lw_okq (⟨"RoundRows", "rowEnd", "(II)I"⟩, 14) := ⟨⟨by decide +kernel, by decide +kernel⟩, List.mem_of_getElem? (i := 21) (by decide +kernel), List.mem_of_getElem? (i := 991) (by decide +kernel), List.mem_of_getElem? (i := 992) (by decide +kernel)⟩
theorem lw_p45 : lw_okq (⟨"RoundRows", "hasRows", "(II)Z"⟩, 14) := ⟨⟨by decide +kernel, by decide +kernel⟩, List.mem_of_getElem? (i := 21) (by decide +kernel), List.mem_of_getElem? (i := 999) (by decide +kernel), List.mem_of_getElem? (i := 1000) (by decide +kernel)⟩
theorem lw_p46 : lw_okq (⟨"RoundRows", "rowTold", "(III)I"⟩, 14) := ⟨⟨by decide +kernel, by decide +kernel⟩, List.mem_of_getElem? (i := 21) (by decide +kernel), List.mem_of_getElem? (i := 1003) (by decide +kernel), List.mem_of_getElem? (i := 1004) (by decide +kernel)⟩
theorem lw_p47 : lw_okq (⟨"RoundRows", "rowBegin", "(II)I"⟩, 14) := ⟨⟨by decide +kernel, by decide +kernel⟩, List.mem_of_getElem? (i := 21) (by decide +kernel), List.mem_of_getElem? (i := 1015) (by decide +kernel), List.mem_of_getElem? (i := 1016) (by decide +kernel)⟩
def lw_privs_3 : List (MethodName × Nat) := [(⟨"RoundRows$State", "endStep", "(LRoundRows$Plan;I)V"⟩, 5), (⟨"RoundRows$Outlook", "keep", "(IZ)V"⟩, 8), (⟨"RoundRows", "isMeasure", "(I)Z"⟩, 14), (⟨"RoundRows", "isBox", "(I)Z"⟩, 14), (⟨"RoundRows", "valueBy", "(III)I"⟩, 14), (⟨"RoundRows", "stepsBy", "(I)I"⟩, 14), (⟨"RoundRows", "stepsOver", "()I"⟩, 14), (⟨"RoundRows$Meter", "leastCount", "(LRoundRows$MeasurePlan;JI)I"⟩, 10), (⟨"RoundRows", "isArchive", "(I)Z"⟩, 14), (⟨"RoundRows", "keptRows", "(I)I"⟩, 14), (⟨"RoundRows", "rowsDone", "(I)I"⟩, 14), (⟨"RoundRows", "rowUnits", "(I)I"⟩, 14), (⟨"RoundRows", "rowEnd", "(II)I"⟩, 14), (⟨"RoundRows", "hasRows", "(II)Z"⟩, 14), (⟨"RoundRows", "rowTold", "(III)I"⟩, 14), (⟨"RoundRows", "rowBegin", "(II)I"⟩, 14)]
theorem lw_r3 : ∀ q ∈ lw_privs_3, lw_okq q := List.forall_mem_cons.mpr ⟨lw_p32, List.forall_mem_cons.mpr ⟨lw_p33, List.forall_mem_cons.mpr ⟨lw_p34, List.forall_mem_cons.mpr ⟨lw_p35, List.forall_mem_cons.mpr ⟨lw_p36, List.forall_mem_cons.mpr ⟨lw_p37, List.forall_mem_cons.mpr ⟨lw_p38, List.forall_mem_cons.mpr ⟨lw_p39, List.forall_mem_cons.mpr ⟨lw_p40, List.forall_mem_cons.mpr ⟨lw_p41, List.forall_mem_cons.mpr ⟨lw_p42, List.forall_mem_cons.mpr ⟨lw_p43, List.forall_mem_cons.mpr ⟨lw_p44, List.forall_mem_cons.mpr ⟨lw_p45, List.forall_mem_cons.mpr ⟨lw_p46, List.forall_mem_cons.mpr ⟨lw_p47, fun _ h => absurd h List.not_mem_nil⟩⟩⟩⟩⟩⟩⟩⟩⟩⟩⟩⟩⟩⟩⟩⟩
theorem lw_p48 : lw_okq (⟨"RoundRows", "tallyWithin", "(IIII)I"⟩, 14) := ⟨⟨by decide +kernel, by decide +kernel⟩, List.mem_of_getElem? (i := 21) (by decide +kernel), List.mem_of_getElem? (i := 1023) (by decide +kernel), List.mem_of_getElem? (i := 1024) (by decide +kernel)⟩
theorem lw_p49 : lw_okq (⟨"RoundRows", "rowsUpTo", "(III)I"⟩, 14) := ⟨⟨by decide +kernel, by decide +kernel⟩, List.mem_of_getElem? (i := 21) (by decide +kernel), List.mem_of_getElem? (i := 1039) (by decide +kernel), List.mem_of_getElem? (i := 1040) (by decide +kernel)⟩
theorem lw_p50 : lw_okq (⟨"RoundRows", "wayOf", "(III)I"⟩, 14) := ⟨⟨by decide +kernel, by decide +kernel⟩, List.mem_of_getElem? (i := 21) (by decide +kernel), List.mem_of_getElem? (i := 1051) (by decide +kernel), List.mem_of_getElem? (i := 1052) (by decide +kernel)⟩
theorem lw_p51 : lw_okq (⟨"RoundRows", "tellsBetter", "(III)Z"⟩, 14) := ⟨⟨by decide +kernel, by decide +kernel⟩, List.mem_of_getElem? (i := 21) (by decide +kernel), List.mem_of_getElem? (i := 1073) (by decide +kernel), List.mem_of_getElem? (i := 1074) (by decide +kernel)⟩
theorem lw_p52 : lw_okq (⟨"RoundRows", "rowsBeyond", "(II)I"⟩, 14) := ⟨⟨by decide +kernel, by decide +kernel⟩, List.mem_of_getElem? (i := 21) (by decide +kernel), List.mem_of_getElem? (i := 1081) (by decide +kernel), List.mem_of_getElem? (i := 1082) (by decide +kernel)⟩
theorem lw_p53 : lw_okq (⟨"RoundRows", "hasForecast", "(I)Z"⟩, 14) := ⟨⟨by decide +kernel, by decide +kernel⟩, List.mem_of_getElem? (i := 21) (by decide +kernel), List.mem_of_getElem? (i := 1089) (by decide +kernel), List.mem_of_getElem? (i := 1090) (by decide +kernel)⟩
theorem lw_p54 : lw_okq (⟨"RoundRows$Outlook", "slotOf", "(I)I"⟩, 8) := ⟨⟨by decide +kernel, by decide +kernel⟩, List.mem_of_getElem? (i := 329) (by decide +kernel), List.mem_of_getElem? (i := 1110) (by decide +kernel), List.mem_of_getElem? (i := 1111) (by decide +kernel)⟩
theorem lw_p55 : lw_okq (⟨"RoundRows", "isShow", "(I)Z"⟩, 14) := ⟨⟨by decide +kernel, by decide +kernel⟩, List.mem_of_getElem? (i := 21) (by decide +kernel), List.mem_of_getElem? (i := 1141) (by decide +kernel), List.mem_of_getElem? (i := 1142) (by decide +kernel)⟩
theorem lw_p56 : lw_okq (⟨"RoundRows", "showOf", "(III)I"⟩, 14) := ⟨⟨by decide +kernel, by decide +kernel⟩, List.mem_of_getElem? (i := 21) (by decide +kernel), List.mem_of_getElem? (i := 1145) (by decide +kernel), List.mem_of_getElem? (i := 1146) (by decide +kernel)⟩
theorem lw_p57 : lw_okq (⟨"RoundRows$Formulas", "run", "(IILRoundRows$Ring;I)V"⟩, 9) := ⟨⟨by decide +kernel, by decide +kernel⟩, List.mem_of_getElem? (i := 106) (by decide +kernel), List.mem_of_getElem? (i := 1154) (by decide +kernel), List.mem_of_getElem? (i := 1155) (by decide +kernel)⟩
theorem lw_p58 : lw_okq (⟨"RoundRows$Formulas", "push", "(I)V"⟩, 9) := ⟨⟨by decide +kernel, by decide +kernel⟩, List.mem_of_getElem? (i := 106) (by decide +kernel), List.mem_of_getElem? (i := 1158) (by decide +kernel), List.mem_of_getElem? (i := 1159) (by decide +kernel)⟩
theorem lw_p59 : lw_okq (⟨"RoundRows$Formulas", "pop", "()I"⟩, 9) := ⟨⟨by decide +kernel, by decide +kernel⟩, List.mem_of_getElem? (i := 106) (by decide +kernel), List.mem_of_getElem? (i := 1163) (by decide +kernel), List.mem_of_getElem? (i := 1164) (by decide +kernel)⟩
theorem lw_p60 : lw_okq (⟨"RoundRows", "forecastBits", "()I"⟩, 14) := ⟨⟨by decide +kernel, by decide +kernel⟩, List.mem_of_getElem? (i := 21) (by decide +kernel), List.mem_of_getElem? (i := 1181) (by decide +kernel), List.mem_of_getElem? (i := 1182) (by decide +kernel)⟩
theorem lw_p61 : lw_okq (⟨"RoundRowsModel", "clearBank", "(I)V"⟩, 60) := ⟨⟨by decide +kernel, by decide +kernel⟩, List.mem_of_getElem? (i := 1185) (by decide +kernel), List.mem_of_getElem? (i := 1191) (by decide +kernel), List.mem_of_getElem? (i := 1192) (by decide +kernel)⟩
theorem lw_p62 : lw_okq (⟨"RoundRowsModel", "startAnew", "()V"⟩, 60) := ⟨⟨by decide +kernel, by decide +kernel⟩, List.mem_of_getElem? (i := 1185) (by decide +kernel), List.mem_of_getElem? (i := 1198) (by decide +kernel), List.mem_of_getElem? (i := 1199) (by decide +kernel)⟩
theorem lw_p63 : lw_okq (⟨"RoundRowsModel", "many", "()I"⟩, 60) := ⟨⟨by decide +kernel, by decide +kernel⟩, List.mem_of_getElem? (i := 1185) (by decide +kernel), List.mem_of_getElem? (i := 1202) (by decide +kernel), List.mem_of_getElem? (i := 1203) (by decide +kernel)⟩
def lw_privs_4 : List (MethodName × Nat) := [(⟨"RoundRows", "tallyWithin", "(IIII)I"⟩, 14), (⟨"RoundRows", "rowsUpTo", "(III)I"⟩, 14), (⟨"RoundRows", "wayOf", "(III)I"⟩, 14), (⟨"RoundRows", "tellsBetter", "(III)Z"⟩, 14), (⟨"RoundRows", "rowsBeyond", "(II)I"⟩, 14), (⟨"RoundRows", "hasForecast", "(I)Z"⟩, 14), (⟨"RoundRows$Outlook", "slotOf", "(I)I"⟩, 8), (⟨"RoundRows", "isShow", "(I)Z"⟩, 14), (⟨"RoundRows", "showOf", "(III)I"⟩, 14), (⟨"RoundRows$Formulas", "run", "(IILRoundRows$Ring;I)V"⟩, 9), (⟨"RoundRows$Formulas", "push", "(I)V"⟩, 9), (⟨"RoundRows$Formulas", "pop", "()I"⟩, 9), (⟨"RoundRows", "forecastBits", "()I"⟩, 14), (⟨"RoundRowsModel", "clearBank", "(I)V"⟩, 60), (⟨"RoundRowsModel", "startAnew", "()V"⟩, 60), (⟨"RoundRowsModel", "many", "()I"⟩, 60)]
theorem lw_r4 : ∀ q ∈ lw_privs_4, lw_okq q := List.forall_mem_cons.mpr ⟨lw_p48, List.forall_mem_cons.mpr ⟨lw_p49, List.forall_mem_cons.mpr ⟨lw_p50, List.forall_mem_cons.mpr ⟨lw_p51, List.forall_mem_cons.mpr ⟨lw_p52, List.forall_mem_cons.mpr ⟨lw_p53, List.forall_mem_cons.mpr ⟨lw_p54, List.forall_mem_cons.mpr ⟨lw_p55, List.forall_mem_cons.mpr ⟨lw_p56, List.forall_mem_cons.mpr ⟨lw_p57, List.forall_mem_cons.mpr ⟨lw_p58, List.forall_mem_cons.mpr ⟨lw_p59, List.forall_mem_cons.mpr ⟨lw_p60, List.forall_mem_cons.mpr ⟨lw_p61, List.forall_mem_cons.mpr ⟨lw_p62, List.forall_mem_cons.mpr ⟨lw_p63, fun _ h => absurd h List.not_mem_nil⟩⟩⟩⟩⟩⟩⟩⟩⟩⟩⟩⟩⟩⟩⟩⟩
theorem lw_p64 : lw_okq (⟨"RoundRowsModel", "readAll", "(I)V"⟩, 60) := ⟨⟨by decide +kernel, by decide +kernel⟩, List.mem_of_getElem? (i := 1185) (by decide +kernel), List.mem_of_getElem? (i := 1405) (by decide +kernel), List.mem_of_getElem? (i := 1406) (by decide +kernel)⟩
theorem lw_p65 : lw_okq (⟨"RoundRowsModel", "scan", "()V"⟩, 60) := ⟨⟨by decide +kernel, by decide +kernel⟩, List.mem_of_getElem? (i := 1185) (by decide +kernel), List.mem_of_getElem? (i := 1409) (by decide +kernel), List.mem_of_getElem? (i := 1410) (by decide +kernel)⟩
theorem lw_p66 : lw_okq (⟨"RoundRowsModel", "isBlank", "(I)Z"⟩, 60) := ⟨⟨by decide +kernel, by decide +kernel⟩, List.mem_of_getElem? (i := 1185) (by decide +kernel), List.mem_of_getElem? (i := 1413) (by decide +kernel), List.mem_of_getElem? (i := 1414) (by decide +kernel)⟩
theorem lw_p67 : lw_okq (⟨"RoundRowsModel", "signAt", "(I)I"⟩, 60) := ⟨⟨by decide +kernel, by decide +kernel⟩, List.mem_of_getElem? (i := 1185) (by decide +kernel), List.mem_of_getElem? (i := 1417) (by decide +kernel), List.mem_of_getElem? (i := 1418) (by decide +kernel)⟩
theorem lw_p68 : lw_okq (⟨"RoundRowsModel", "scanWord", "()V"⟩, 60) := ⟨⟨by decide +kernel, by decide +kernel⟩, List.mem_of_getElem? (i := 1185) (by decide +kernel), List.mem_of_getElem? (i := 1424) (by decide +kernel), List.mem_of_getElem? (i := 1425) (by decide +kernel)⟩
theorem lw_p69 : lw_okq (⟨"RoundRowsModel", "isSame", "(II)Z"⟩, 60) := ⟨⟨by decide +kernel, by decide +kernel⟩, List.mem_of_getElem? (i := 1185) (by decide +kernel), List.mem_of_getElem? (i := 1428) (by decide +kernel), List.mem_of_getElem? (i := 1429) (by decide +kernel)⟩
theorem lw_p70 : lw_okq (⟨"RoundRowsModel", "scanNumber", "()V"⟩, 60) := ⟨⟨by decide +kernel, by decide +kernel⟩, List.mem_of_getElem? (i := 1185) (by decide +kernel), List.mem_of_getElem? (i := 1435) (by decide +kernel), List.mem_of_getElem? (i := 1436) (by decide +kernel)⟩
theorem lw_p71 : lw_okq (⟨"RoundRowsModel", "needWord", "(I)V"⟩, 60) := ⟨⟨by decide +kernel, by decide +kernel⟩, List.mem_of_getElem? (i := 1185) (by decide +kernel), List.mem_of_getElem? (i := 1443) (by decide +kernel), List.mem_of_getElem? (i := 1444) (by decide +kernel)⟩
theorem lw_p72 : lw_okq (⟨"RoundRowsModel", "isWord", "(I)Z"⟩, 60) := ⟨⟨by decide +kernel, by decide +kernel⟩, List.mem_of_getElem? (i := 1185) (by decide +kernel), List.mem_of_getElem? (i := 1447) (by decide +kernel), List.mem_of_getElem? (i := 1448) (by decide +kernel)⟩
theorem lw_p73 : lw_okq (⟨"RoundRowsModel", "fail", "(I)V"⟩, 60) := ⟨⟨by decide +kernel, by decide +kernel⟩, List.mem_of_getElem? (i := 1185) (by decide +kernel), List.mem_of_getElem? (i := 1451) (by decide +kernel), List.mem_of_getElem? (i := 1452) (by decide +kernel)⟩
theorem lw_p74 : lw_okq (⟨"RoundRowsModel", "numeral", "(II)I"⟩, 60) := ⟨⟨by decide +kernel, by decide +kernel⟩, List.mem_of_getElem? (i := 1185) (by decide +kernel), List.mem_of_getElem? (i := 1455) (by decide +kernel), List.mem_of_getElem? (i := 1456) (by decide +kernel)⟩
theorem lw_p75 : lw_okq (⟨"RoundRowsModel", "need", "(I)V"⟩, 60) := ⟨⟨by decide +kernel, by decide +kernel⟩, List.mem_of_getElem? (i := 1185) (by decide +kernel), List.mem_of_getElem? (i := 1462) (by decide +kernel), List.mem_of_getElem? (i := 1463) (by decide +kernel)⟩
theorem lw_p76 : lw_okq (⟨"RoundRowsModel", "isAt", "(I)Z"⟩, 60) := ⟨⟨by decide +kernel, by decide +kernel⟩, List.mem_of_getElem? (i := 1185) (by decide +kernel), List.mem_of_getElem? (i := 1466) (by decide +kernel), List.mem_of_getElem? (i := 1467) (by decide +kernel)⟩
theorem lw_p77 : lw_okq (⟨"RoundRowsModel", "readLine", "(I)V"⟩, 60) := ⟨⟨by decide +kernel, by decide +kernel⟩, List.mem_of_getElem? (i := 1185) (by decide +kernel), List.mem_of_getElem? (i := 1470) (by decide +kernel), List.mem_of_getElem? (i := 1471) (by decide +kernel)⟩
theorem lw_p78 : lw_okq (⟨"RoundRowsModel", "readMeasure", "(I)V"⟩, 60) := ⟨⟨by decide +kernel, by decide +kernel⟩, List.mem_of_getElem? (i := 1185) (by decide +kernel), List.mem_of_getElem? (i := 1474) (by decide +kernel), List.mem_of_getElem? (i := 1475) (by decide +kernel)⟩
theorem lw_p79 : lw_okq (⟨"RoundRowsModel", "newName", "(I)V"⟩, 60) := ⟨⟨by decide +kernel, by decide +kernel⟩, List.mem_of_getElem? (i := 1185) (by decide +kernel), List.mem_of_getElem? (i := 1478) (by decide +kernel), List.mem_of_getElem? (i := 1479) (by decide +kernel)⟩
def lw_privs_5 : List (MethodName × Nat) := [(⟨"RoundRowsModel", "readAll", "(I)V"⟩, 60), (⟨"RoundRowsModel", "scan", "()V"⟩, 60), (⟨"RoundRowsModel", "isBlank", "(I)Z"⟩, 60), (⟨"RoundRowsModel", "signAt", "(I)I"⟩, 60), (⟨"RoundRowsModel", "scanWord", "()V"⟩, 60), (⟨"RoundRowsModel", "isSame", "(II)Z"⟩, 60), (⟨"RoundRowsModel", "scanNumber", "()V"⟩, 60), (⟨"RoundRowsModel", "needWord", "(I)V"⟩, 60), (⟨"RoundRowsModel", "isWord", "(I)Z"⟩, 60), (⟨"RoundRowsModel", "fail", "(I)V"⟩, 60), (⟨"RoundRowsModel", "numeral", "(II)I"⟩, 60), (⟨"RoundRowsModel", "need", "(I)V"⟩, 60), (⟨"RoundRowsModel", "isAt", "(I)Z"⟩, 60), (⟨"RoundRowsModel", "readLine", "(I)V"⟩, 60), (⟨"RoundRowsModel", "readMeasure", "(I)V"⟩, 60), (⟨"RoundRowsModel", "newName", "(I)V"⟩, 60)]
theorem lw_r5 : ∀ q ∈ lw_privs_5, lw_okq q := List.forall_mem_cons.mpr ⟨lw_p64, List.forall_mem_cons.mpr ⟨lw_p65, List.forall_mem_cons.mpr ⟨lw_p66, List.forall_mem_cons.mpr ⟨lw_p67, List.forall_mem_cons.mpr ⟨lw_p68, List.forall_mem_cons.mpr ⟨lw_p69, List.forall_mem_cons.mpr ⟨lw_p70, List.forall_mem_cons.mpr ⟨lw_p71, List.forall_mem_cons.mpr ⟨lw_p72, List.forall_mem_cons.mpr ⟨lw_p73, List.forall_mem_cons.mpr ⟨lw_p74, List.forall_mem_cons.mpr ⟨lw_p75, List.forall_mem_cons.mpr ⟨lw_p76, List.forall_mem_cons.mpr ⟨lw_p77, List.forall_mem_cons.mpr ⟨lw_p78, List.forall_mem_cons.mpr ⟨lw_p79, fun _ h => absurd h List.not_mem_nil⟩⟩⟩⟩⟩⟩⟩⟩⟩⟩⟩⟩⟩⟩⟩⟩
theorem lw_p80 : lw_okq (⟨"RoundRowsModel", "isName", "()Z"⟩, 60) := ⟨⟨by decide +kernel, by decide +kernel⟩, List.mem_of_getElem? (i := 1185) (by decide +kernel), List.mem_of_getElem? (i := 1482) (by decide +kernel), List.mem_of_getElem? (i := 1483) (by decide +kernel)⟩
theorem lw_p81 : lw_okq (⟨"RoundRowsModel", "nameHere", "()I"⟩, 60) := ⟨⟨by decide +kernel, by decide +kernel⟩, List.mem_of_getElem? (i := 1185) (by decide +kernel), List.mem_of_getElem? (i := 1486) (by decide +kernel), List.mem_of_getElem? (i := 1487) (by decide +kernel)⟩
theorem lw_p82 : lw_okq (⟨"RoundRowsModel", "isNamed", "(I)Z"⟩, 60) := ⟨⟨by decide +kernel, by decide +kernel⟩, List.mem_of_getElem? (i := 1185) (by decide +kernel), List.mem_of_getElem? (i := 1490) (by decide +kernel), List.mem_of_getElem? (i := 1491) (by decide +kernel)⟩
theorem lw_p83 : lw_okq (⟨"RoundRowsModel", "readArchive", "(I)V"⟩, 60) := ⟨⟨by decide +kernel, by decide +kernel⟩, List.mem_of_getElem? (i := 1185) (by decide +kernel), List.mem_of_getElem? (i := 1494) (by decide +kernel), List.mem_of_getElem? (i := 1495) (by decide +kernel)⟩
theorem lw_p84 : lw_okq (⟨"RoundRowsModel", "readForecast", "(I)V"⟩, 60) := ⟨⟨by decide +kernel, by decide +kernel⟩, List.mem_of_getElem? (i := 1185) (by decide +kernel), List.mem_of_getElem? (i := 1498) (by decide +kernel), List.mem_of_getElem? (i := 1499) (by decide +kernel)⟩
theorem lw_p85 : lw_okq (⟨"RoundRowsModel", "readShow", "(I)V"⟩, 60) := ⟨⟨by decide +kernel, by decide +kernel⟩, List.mem_of_getElem? (i := 1185) (by decide +kernel), List.mem_of_getElem? (i := 1503) (by decide +kernel), List.mem_of_getElem? (i := 1504) (by decide +kernel)⟩
theorem lw_p86 : lw_okq (⟨"RoundRowsModel", "readUnits", "(I)V"⟩, 60) := ⟨⟨by decide +kernel, by decide +kernel⟩, List.mem_of_getElem? (i := 1185) (by decide +kernel), List.mem_of_getElem? (i := 1507) (by decide +kernel), List.mem_of_getElem? (i := 1508) (by decide +kernel)⟩
theorem lw_p87 : lw_okq (⟨"RoundRowsModel", "readUnit", "(I)Z"⟩, 60) := ⟨⟨by decide +kernel, by decide +kernel⟩, List.mem_of_getElem? (i := 1185) (by decide +kernel), List.mem_of_getElem? (i := 1511) (by decide +kernel), List.mem_of_getElem? (i := 1512) (by decide +kernel)⟩
theorem lw_p88 : lw_okq (⟨"RoundRowsModel", "push", "(II)V"⟩, 60) := ⟨⟨by decide +kernel, by decide +kernel⟩, List.mem_of_getElem? (i := 1185) (by decide +kernel), List.mem_of_getElem? (i := 1515) (by decide +kernel), List.mem_of_getElem? (i := 1516) (by decide +kernel)⟩
theorem lw_p89 : lw_okq (⟨"RoundRowsModel", "layWaiting", "(I)V"⟩, 60) := ⟨⟨by decide +kernel, by decide +kernel⟩, List.mem_of_getElem? (i := 1185) (by decide +kernel), List.mem_of_getElem? (i := 1522) (by decide +kernel), List.mem_of_getElem? (i := 1523) (by decide +kernel)⟩
theorem lw_p90 : lw_okq (⟨"RoundRowsModel", "lay", "(II)V"⟩, 60) := ⟨⟨by decide +kernel, by decide +kernel⟩, List.mem_of_getElem? (i := 1185) (by decide +kernel), List.mem_of_getElem? (i := 1526) (by decide +kernel), List.mem_of_getElem? (i := 1527) (by decide +kernel)⟩
theorem lw_p91 : lw_okq (⟨"RoundRowsModel", "between", "()I"⟩, 60) := ⟨⟨by decide +kernel, by decide +kernel⟩, List.mem_of_getElem? (i := 1185) (by decide +kernel), List.mem_of_getElem? (i := 1530) (by decide +kernel), List.mem_of_getElem? (i := 1531) (by decide +kernel)⟩
theorem lw_p92 : lw_okq (⟨"RoundRowsModel", "canRead", "(I)Z"⟩, 60) := ⟨⟨by decide +kernel, by decide +kernel⟩, List.mem_of_getElem? (i := 1185) (by decide +kernel), List.mem_of_getElem? (i := 1542) (by decide +kernel), List.mem_of_getElem? (i := 1543) (by decide +kernel)⟩
theorem lw_p93 : lw_okq (⟨"RoundRowsModel", "keepAct", "()V"⟩, 60) := ⟨⟨by decide +kernel, by decide +kernel⟩, List.mem_of_getElem? (i := 1185) (by decide +kernel), List.mem_of_getElem? (i := 1548) (by decide +kernel), List.mem_of_getElem? (i := 1549) (by decide +kernel)⟩
theorem lw_p94 : lw_okq (⟨"RoundRowsModel", "give", "(IIII)V"⟩, 60) := ⟨⟨by decide +kernel, by decide +kernel⟩, List.mem_of_getElem? (i := 1185) (by decide +kernel), List.mem_of_getElem? (i := 1552) (by decide +kernel), List.mem_of_getElem? (i := 1553) (by decide +kernel)⟩
theorem lw_p95 : lw_okq (⟨"RoundRowsModel", "goRead", "(I)I"⟩, 60) := ⟨⟨by decide +kernel, by decide +kernel⟩, List.mem_of_getElem? (i := 1185) (by decide +kernel), List.mem_of_getElem? (i := 1556) (by decide +kernel), List.mem_of_getElem? (i := 1557) (by decide +kernel)⟩
def lw_privs_6 : List (MethodName × Nat) := [(⟨"RoundRowsModel", "isName", "()Z"⟩, 60), (⟨"RoundRowsModel", "nameHere", "()I"⟩, 60), (⟨"RoundRowsModel", "isNamed", "(I)Z"⟩, 60), (⟨"RoundRowsModel", "readArchive", "(I)V"⟩, 60), (⟨"RoundRowsModel", "readForecast", "(I)V"⟩, 60), (⟨"RoundRowsModel", "readShow", "(I)V"⟩, 60), (⟨"RoundRowsModel", "readUnits", "(I)V"⟩, 60), (⟨"RoundRowsModel", "readUnit", "(I)Z"⟩, 60), (⟨"RoundRowsModel", "push", "(II)V"⟩, 60), (⟨"RoundRowsModel", "layWaiting", "(I)V"⟩, 60), (⟨"RoundRowsModel", "lay", "(II)V"⟩, 60), (⟨"RoundRowsModel", "between", "()I"⟩, 60), (⟨"RoundRowsModel", "canRead", "(I)Z"⟩, 60), (⟨"RoundRowsModel", "keepAct", "()V"⟩, 60), (⟨"RoundRowsModel", "give", "(IIII)V"⟩, 60), (⟨"RoundRowsModel", "goRead", "(I)I"⟩, 60)]
theorem lw_r6 : ∀ q ∈ lw_privs_6, lw_okq q := List.forall_mem_cons.mpr ⟨lw_p80, List.forall_mem_cons.mpr ⟨lw_p81, List.forall_mem_cons.mpr ⟨lw_p82, List.forall_mem_cons.mpr ⟨lw_p83, List.forall_mem_cons.mpr ⟨lw_p84, List.forall_mem_cons.mpr ⟨lw_p85, List.forall_mem_cons.mpr ⟨lw_p86, List.forall_mem_cons.mpr ⟨lw_p87, List.forall_mem_cons.mpr ⟨lw_p88, List.forall_mem_cons.mpr ⟨lw_p89, List.forall_mem_cons.mpr ⟨lw_p90, List.forall_mem_cons.mpr ⟨lw_p91, List.forall_mem_cons.mpr ⟨lw_p92, List.forall_mem_cons.mpr ⟨lw_p93, List.forall_mem_cons.mpr ⟨lw_p94, List.forall_mem_cons.mpr ⟨lw_p95, fun _ h => absurd h List.not_mem_nil⟩⟩⟩⟩⟩⟩⟩⟩⟩⟩⟩⟩⟩⟩⟩⟩
theorem lw_p96 : lw_okq (⟨"RoundRowsModel", "rateOf", "(IJI)J"⟩, 60) := ⟨⟨by decide +kernel, by decide +kernel⟩, List.mem_of_getElem? (i := 1185) (by decide +kernel), List.mem_of_getElem? (i := 1560) (by decide +kernel), List.mem_of_getElem? (i := 1561) (by decide +kernel)⟩
theorem lw_p97 : lw_okq (⟨"RoundRowsModel", "isNumber", "(IJ)Z"⟩, 60) := ⟨⟨by decide +kernel, by decide +kernel⟩, List.mem_of_getElem? (i := 1185) (by decide +kernel), List.mem_of_getElem? (i := 1564) (by decide +kernel), List.mem_of_getElem? (i := 1565) (by decide +kernel)⟩
theorem lw_p98 : lw_okq (⟨"RoundRowsModel", "closeStep", "()V"⟩, 60) := ⟨⟨by decide +kernel, by decide +kernel⟩, List.mem_of_getElem? (i := 1185) (by decide +kernel), List.mem_of_getElem? (i := 1575) (by decide +kernel), List.mem_of_getElem? (i := 1576) (by decide +kernel)⟩
theorem lw_p99 : lw_okq (⟨"RoundRowsModel", "reach", "(IJ)V"⟩, 60) := ⟨⟨by decide +kernel, by decide +kernel⟩, List.mem_of_getElem? (i := 1185) (by decide +kernel), List.mem_of_getElem? (i := 1580) (by decide +kernel), List.mem_of_getElem? (i := 1581) (by decide +kernel)⟩
theorem lw_p100 : lw_okq (⟨"RoundRowsModel", "archivesNow", "()I"⟩, 60) := ⟨⟨by decide +kernel, by decide +kernel⟩, List.mem_of_getElem? (i := 1185) (by decide +kernel), List.mem_of_getElem? (i := 1584) (by decide +kernel), List.mem_of_getElem? (i := 1585) (by decide +kernel)⟩
theorem lw_p101 : lw_okq (⟨"RoundRowsModel", "gather", "(IIJJ)V"⟩, 60) := ⟨⟨by decide +kernel, by decide +kernel⟩, List.mem_of_getElem? (i := 1185) (by decide +kernel), List.mem_of_getElem? (i := 1588) (by decide +kernel), List.mem_of_getElem? (i := 1589) (by decide +kernel)⟩
theorem lw_p102 : lw_okq (⟨"RoundRowsModel", "isFollowed", "(I)Z"⟩, 60) := ⟨⟨by decide +kernel, by decide +kernel⟩, List.mem_of_getElem? (i := 1185) (by decide +kernel), List.mem_of_getElem? (i := 1595) (by decide +kernel), List.mem_of_getElem? (i := 1596) (by decide +kernel)⟩
theorem lw_p103 : lw_okq (⟨"RoundRowsModel", "isMeasure", "(I)Z"⟩, 60) := ⟨⟨by decide +kernel, by decide +kernel⟩, List.mem_of_getElem? (i := 1185) (by decide +kernel), List.mem_of_getElem? (i := 1599) (by decide +kernel), List.mem_of_getElem? (i := 1600) (by decide +kernel)⟩
theorem lw_p104 : lw_okq (⟨"RoundRowsModel", "follow", "(IJ)V"⟩, 60) := ⟨⟨by decide +kernel, by decide +kernel⟩, List.mem_of_getElem? (i := 1185) (by decide +kernel), List.mem_of_getElem? (i := 1603) (by decide +kernel), List.mem_of_getElem? (i := 1604) (by decide +kernel)⟩
theorem lw_p105 : lw_okq (⟨"RoundRowsModel", "placeNow", "(IJ)I"⟩, 60) := ⟨⟨by decide +kernel, by decide +kernel⟩, List.mem_of_getElem? (i := 1185) (by decide +kernel), List.mem_of_getElem? (i := 1615) (by decide +kernel), List.mem_of_getElem? (i := 1616) (by decide +kernel)⟩
theorem lw_p106 : lw_okq (⟨"RoundRowsModel", "tells", "(II)J"⟩, 60) := ⟨⟨by decide +kernel, by decide +kernel⟩, List.mem_of_getElem? (i := 1185) (by decide +kernel), List.mem_of_getElem? (i := 1619) (by decide +kernel), List.mem_of_getElem? (i := 1620) (by decide +kernel)⟩
theorem lw_p107 : lw_okq (⟨"RoundRowsModel", "keepTold", "(IJZ)V"⟩, 60) := ⟨⟨by decide +kernel, by decide +kernel⟩, List.mem_of_getElem? (i := 1185) (by decide +kernel), List.mem_of_getElem? (i := 1623) (by decide +kernel), List.mem_of_getElem? (i := 1624) (by decide +kernel)⟩
theorem lw_p108 : lw_okq (⟨"RoundRowsModel", "learn", "(IIJJ)V"⟩, 60) := ⟨⟨by decide +kernel, by decide +kernel⟩, List.mem_of_getElem? (i := 1185) (by decide +kernel), List.mem_of_getElem? (i := 1628) (by decide +kernel), List.mem_of_getElem? (i := 1629) (by decide +kernel)⟩
theorem lw_p109 : lw_okq (⟨"RoundRowsModel", "closeRow", "(I)V"⟩, 60) := ⟨⟨by decide +kernel, by decide +kernel⟩, List.mem_of_getElem? (i := 1185) (by decide +kernel), List.mem_of_getElem? (i := 1636) (by decide +kernel), List.mem_of_getElem? (i := 1637) (by decide +kernel)⟩
theorem lw_p110 : lw_okq (⟨"RoundRowsModel", "rowsKept", "(I)I"⟩, 60) := ⟨⟨by decide +kernel, by decide +kernel⟩, List.mem_of_getElem? (i := 1185) (by decide +kernel), List.mem_of_getElem? (i := 1640) (by decide +kernel), List.mem_of_getElem? (i := 1641) (by decide +kernel)⟩
theorem lw_p111 : lw_okq (⟨"RoundRowsModel", "gatheredBy", "(II)J"⟩, 60) := ⟨⟨by decide +kernel, by decide +kernel⟩, List.mem_of_getElem? (i := 1185) (by decide +kernel), List.mem_of_getElem? (i := 1647) (by decide +kernel), List.mem_of_getElem? (i := 1648) (by decide +kernel)⟩
def lw_privs_7 : List (MethodName × Nat) := [(⟨"RoundRowsModel", "rateOf", "(IJI)J"⟩, 60), (⟨"RoundRowsModel", "isNumber", "(IJ)Z"⟩, 60), (⟨"RoundRowsModel", "closeStep", "()V"⟩, 60), (⟨"RoundRowsModel", "reach", "(IJ)V"⟩, 60), (⟨"RoundRowsModel", "archivesNow", "()I"⟩, 60), (⟨"RoundRowsModel", "gather", "(IIJJ)V"⟩, 60), (⟨"RoundRowsModel", "isFollowed", "(I)Z"⟩, 60), (⟨"RoundRowsModel", "isMeasure", "(I)Z"⟩, 60), (⟨"RoundRowsModel", "follow", "(IJ)V"⟩, 60), (⟨"RoundRowsModel", "placeNow", "(IJ)I"⟩, 60), (⟨"RoundRowsModel", "tells", "(II)J"⟩, 60), (⟨"RoundRowsModel", "keepTold", "(IJZ)V"⟩, 60), (⟨"RoundRowsModel", "learn", "(IIJJ)V"⟩, 60), (⟨"RoundRowsModel", "closeRow", "(I)V"⟩, 60), (⟨"RoundRowsModel", "rowsKept", "(I)I"⟩, 60), (⟨"RoundRowsModel", "gatheredBy", "(II)J"⟩, 60)]
theorem lw_r7 : ∀ q ∈ lw_privs_7, lw_okq q := List.forall_mem_cons.mpr ⟨lw_p96, List.forall_mem_cons.mpr ⟨lw_p97, List.forall_mem_cons.mpr ⟨lw_p98, List.forall_mem_cons.mpr ⟨lw_p99, List.forall_mem_cons.mpr ⟨lw_p100, List.forall_mem_cons.mpr ⟨lw_p101, List.forall_mem_cons.mpr ⟨lw_p102, List.forall_mem_cons.mpr ⟨lw_p103, List.forall_mem_cons.mpr ⟨lw_p104, List.forall_mem_cons.mpr ⟨lw_p105, List.forall_mem_cons.mpr ⟨lw_p106, List.forall_mem_cons.mpr ⟨lw_p107, List.forall_mem_cons.mpr ⟨lw_p108, List.forall_mem_cons.mpr ⟨lw_p109, List.forall_mem_cons.mpr ⟨lw_p110, List.forall_mem_cons.mpr ⟨lw_p111, fun _ h => absurd h List.not_mem_nil⟩⟩⟩⟩⟩⟩⟩⟩⟩⟩⟩⟩⟩⟩⟩⟩
theorem lw_p112 : lw_okq (⟨"RoundRowsModel", "canTurn", "(III)Z"⟩, 60) := ⟨⟨by decide +kernel, by decide +kernel⟩, List.mem_of_getElem? (i := 1185) (by decide +kernel), List.mem_of_getElem? (i := 1656) (by decide +kernel), List.mem_of_getElem? (i := 1657) (by decide +kernel)⟩
theorem lw_p113 : lw_okq (⟨"RoundRowsModel", "isArchive", "(I)Z"⟩, 60) := ⟨⟨by decide +kernel, by decide +kernel⟩, List.mem_of_getElem? (i := 1185) (by decide +kernel), List.mem_of_getElem? (i := 1677) (by decide +kernel), List.mem_of_getElem? (i := 1678) (by decide +kernel)⟩
theorem lw_p114 : lw_okq (⟨"RoundRowsModel", "overAt", "(I)I"⟩, 60) := ⟨⟨by decide +kernel, by decide +kernel⟩, List.mem_of_getElem? (i := 1185) (by decide +kernel), List.mem_of_getElem? (i := 1681) (by decide +kernel), List.mem_of_getElem? (i := 1682) (by decide +kernel)⟩
theorem lw_p115 : lw_okq (⟨"RoundRowsModel", "unitsOf", "(I)I"⟩, 60) := ⟨⟨by decide +kernel, by decide +kernel⟩, List.mem_of_getElem? (i := 1185) (by decide +kernel), List.mem_of_getElem? (i := 1685) (by decide +kernel), List.mem_of_getElem? (i := 1686) (by decide +kernel)⟩
theorem lw_p116 : lw_okq (⟨"RoundRowsModel", "isRow", "(III)Z"⟩, 60) := ⟨⟨by decide +kernel, by decide +kernel⟩, List.mem_of_getElem? (i := 1185) (by decide +kernel), List.mem_of_getElem? (i := 1693) (by decide +kernel), List.mem_of_getElem? (i := 1694) (by decide +kernel)⟩
theorem lw_p117 : lw_okq (⟨"RoundRowsModel", "isBoth", "(II)Z"⟩, 60) := ⟨⟨by decide +kernel, by decide +kernel⟩, List.mem_of_getElem? (i := 1185) (by decide +kernel), List.mem_of_getElem? (i := 1697) (by decide +kernel), List.mem_of_getElem? (i := 1698) (by decide +kernel)⟩
theorem lw_p118 : lw_okq (⟨"RoundRowsModel", "beginOf", "(II)I"⟩, 60) := ⟨⟨by decide +kernel, by decide +kernel⟩, List.mem_of_getElem? (i := 1185) (by decide +kernel), List.mem_of_getElem? (i := 1705) (by decide +kernel), List.mem_of_getElem? (i := 1706) (by decide +kernel)⟩
theorem lw_p119 : lw_okq (⟨"RoundRowsModel", "laySpan", "(IIII)V"⟩, 60) := ⟨⟨by decide +kernel, by decide +kernel⟩, List.mem_of_getElem? (i := 1185) (by decide +kernel), List.mem_of_getElem? (i := 1713) (by decide +kernel), List.mem_of_getElem? (i := 1714) (by decide +kernel)⟩
theorem lw_p120 : lw_okq (⟨"RoundRowsModel", "isWithin", "(IIII)Z"⟩, 60) := ⟨⟨by decide +kernel, by decide +kernel⟩, List.mem_of_getElem? (i := 1185) (by decide +kernel), List.mem_of_getElem? (i := 1717) (by decide +kernel), List.mem_of_getElem? (i := 1718) (by decide +kernel)⟩
theorem lw_p121 : lw_okq (⟨"RoundRowsModel", "knownRows", "(II)I"⟩, 60) := ⟨⟨by decide +kernel, by decide +kernel⟩, List.mem_of_getElem? (i := 1185) (by decide +kernel), List.mem_of_getElem? (i := 1730) (by decide +kernel), List.mem_of_getElem? (i := 1731) (by decide +kernel)⟩
theorem lw_p122 : lw_okq (⟨"RoundRowsModel", "noGreater", "(IIJ)I"⟩, 60) := ⟨⟨by decide +kernel, by decide +kernel⟩, List.mem_of_getElem? (i := 1185) (by decide +kernel), List.mem_of_getElem? (i := 1734) (by decide +kernel), List.mem_of_getElem? (i := 1735) (by decide +kernel)⟩
theorem lw_p123 : lw_okq (⟨"RoundRowsModel", "wayOf", "(III)I"⟩, 60) := ⟨⟨by decide +kernel, by decide +kernel⟩, List.mem_of_getElem? (i := 1185) (by decide +kernel), List.mem_of_getElem? (i := 1746) (by decide +kernel), List.mem_of_getElem? (i := 1747) (by decide +kernel)⟩
theorem lw_p124 : lw_okq (⟨"RoundRowsModel", "isBetter", "(III)Z"⟩, 60) := ⟨⟨by decide +kernel, by decide +kernel⟩, List.mem_of_getElem? (i := 1185) (by decide +kernel), List.mem_of_getElem? (i := 1766) (by decide +kernel), List.mem_of_getElem? (i := 1767) (by decide +kernel)⟩
theorem lw_p125 : lw_okq (⟨"RoundRowsModel", "eldestFrom", "(I)I"⟩, 60) := ⟨⟨by decide +kernel, by decide +kernel⟩, List.mem_of_getElem? (i := 1185) (by decide +kernel), List.mem_of_getElem? (i := 1770) (by decide +kernel), List.mem_of_getElem? (i := 1771) (by decide +kernel)⟩
theorem lw_p126 : lw_okq (⟨"RoundRowsModel", "oddFrom", "(III)I"⟩, 60) := ⟨⟨by decide +kernel, by decide +kernel⟩, List.mem_of_getElem? (i := 1185) (by decide +kernel), List.mem_of_getElem? (i := 1794) (by decide +kernel), List.mem_of_getElem? (i := 1795) (by decide +kernel)⟩
theorem lw_p127 : lw_okq (⟨"RoundRowsModel", "isShow", "(I)Z"⟩, 60) := ⟨⟨by decide +kernel, by decide +kernel⟩, List.mem_of_getElem? (i := 1185) (by decide +kernel), List.mem_of_getElem? (i := 1807) (by decide +kernel), List.mem_of_getElem? (i := 1808) (by decide +kernel)⟩
def lw_privs_8 : List (MethodName × Nat) := [(⟨"RoundRowsModel", "canTurn", "(III)Z"⟩, 60), (⟨"RoundRowsModel", "isArchive", "(I)Z"⟩, 60), (⟨"RoundRowsModel", "overAt", "(I)I"⟩, 60), (⟨"RoundRowsModel", "unitsOf", "(I)I"⟩, 60), (⟨"RoundRowsModel", "isRow", "(III)Z"⟩, 60), (⟨"RoundRowsModel", "isBoth", "(II)Z"⟩, 60), (⟨"RoundRowsModel", "beginOf", "(II)I"⟩, 60), (⟨"RoundRowsModel", "laySpan", "(IIII)V"⟩, 60), (⟨"RoundRowsModel", "isWithin", "(IIII)Z"⟩, 60), (⟨"RoundRowsModel", "knownRows", "(II)I"⟩, 60), (⟨"RoundRowsModel", "noGreater", "(IIJ)I"⟩, 60), (⟨"RoundRowsModel", "wayOf", "(III)I"⟩, 60), (⟨"RoundRowsModel", "isBetter", "(III)Z"⟩, 60), (⟨"RoundRowsModel", "eldestFrom", "(I)I"⟩, 60), (⟨"RoundRowsModel", "oddFrom", "(III)I"⟩, 60), (⟨"RoundRowsModel", "isShow", "(I)Z"⟩, 60)]
theorem lw_r8 : ∀ q ∈ lw_privs_8, lw_okq q := List.forall_mem_cons.mpr ⟨lw_p112, List.forall_mem_cons.mpr ⟨lw_p113, List.forall_mem_cons.mpr ⟨lw_p114, List.forall_mem_cons.mpr ⟨lw_p115, List.forall_mem_cons.mpr ⟨lw_p116, List.forall_mem_cons.mpr ⟨lw_p117, List.forall_mem_cons.mpr ⟨lw_p118, List.forall_mem_cons.mpr ⟨lw_p119, List.forall_mem_cons.mpr ⟨lw_p120, List.forall_mem_cons.mpr ⟨lw_p121, List.forall_mem_cons.mpr ⟨lw_p122, List.forall_mem_cons.mpr ⟨lw_p123, List.forall_mem_cons.mpr ⟨lw_p124, List.forall_mem_cons.mpr ⟨lw_p125, List.forall_mem_cons.mpr ⟨lw_p126, List.forall_mem_cons.mpr ⟨lw_p127, fun _ h => absurd h List.not_mem_nil⟩⟩⟩⟩⟩⟩⟩⟩⟩⟩⟩⟩⟩⟩⟩⟩
theorem lw_p128 : lw_okq (⟨"RoundRowsModel", "showOf", "(III)J"⟩, 60) := ⟨⟨by decide +kernel, by decide +kernel⟩, List.mem_of_getElem? (i := 1185) (by decide +kernel), List.mem_of_getElem? (i := 1811) (by decide +kernel), List.mem_of_getElem? (i := 1812) (by decide +kernel)⟩
theorem lw_p129 : lw_okq (⟨"RoundRowsModel", "unitAt", "(III)J"⟩, 60) := ⟨⟨by decide +kernel, by decide +kernel⟩, List.mem_of_getElem? (i := 1185) (by decide +kernel), List.mem_of_getElem? (i := 1818) (by decide +kernel), List.mem_of_getElem? (i := 1819) (by decide +kernel)⟩
theorem lw_p130 : lw_okq (⟨"RoundRowsModel", "leastIn", "(IIJJ)I"⟩, 60) := ⟨⟨by decide +kernel, by decide +kernel⟩, List.mem_of_getElem? (i := 1185) (by decide +kernel), List.mem_of_getElem? (i := 1834) (by decide +kernel), List.mem_of_getElem? (i := 1835) (by decide +kernel)⟩
theorem lw_p131 : lw_okq (⟨"RoundRowsModel", "isEnough", "(IIJ)Z"⟩, 60) := ⟨⟨by decide +kernel, by decide +kernel⟩, List.mem_of_getElem? (i := 1185) (by decide +kernel), List.mem_of_getElem? (i := 1838) (by decide +kernel), List.mem_of_getElem? (i := 1839) (by decide +kernel)⟩
theorem lw_p132 : lw_okq (⟨"RoundRowsModel", "isBeyond", "(IJ)Z"⟩, 60) := ⟨⟨by decide +kernel, by decide +kernel⟩, List.mem_of_getElem? (i := 1185) (by decide +kernel), List.mem_of_getElem? (i := 1846) (by decide +kernel), List.mem_of_getElem? (i := 1847) (by decide +kernel)⟩
theorem lw_p133 : lw_okq (⟨"RoundRowsModel", "swapAll", "()V"⟩, 60) := ⟨⟨by decide +kernel, by decide +kernel⟩, List.mem_of_getElem? (i := 1185) (by decide +kernel), List.mem_of_getElem? (i := 1854) (by decide +kernel), List.mem_of_getElem? (i := 1855) (by decide +kernel)⟩
theorem lw_p134 : lw_okq (⟨"RoundRowsModel", "followed", "()I"⟩, 60) := ⟨⟨by decide +kernel, by decide +kernel⟩, List.mem_of_getElem? (i := 1185) (by decide +kernel), List.mem_of_getElem? (i := 1874) (by decide +kernel), List.mem_of_getElem? (i := 1875) (by decide +kernel)⟩
def lw_privs_9 : List (MethodName × Nat) := [(⟨"RoundRowsModel", "showOf", "(III)J"⟩, 60), (⟨"RoundRowsModel", "unitAt", "(III)J"⟩, 60), (⟨"RoundRowsModel", "leastIn", "(IIJJ)I"⟩, 60), (⟨"RoundRowsModel", "isEnough", "(IIJ)Z"⟩, 60), (⟨"RoundRowsModel", "isBeyond", "(IJ)Z"⟩, 60), (⟨"RoundRowsModel", "swapAll", "()V"⟩, 60), (⟨"RoundRowsModel", "followed", "()I"⟩, 60)]
theorem lw_r9 : ∀ q ∈ lw_privs_9, lw_okq q := List.forall_mem_cons.mpr ⟨lw_p128, List.forall_mem_cons.mpr ⟨lw_p129, List.forall_mem_cons.mpr ⟨lw_p130, List.forall_mem_cons.mpr ⟨lw_p131, List.forall_mem_cons.mpr ⟨lw_p132, List.forall_mem_cons.mpr ⟨lw_p133, List.forall_mem_cons.mpr ⟨lw_p134, fun _ h => absurd h List.not_mem_nil⟩⟩⟩⟩⟩⟩⟩
def lw_privs : List (MethodName × Nat) := lw_privs_1 ++ (lw_privs_2 ++ (lw_privs_3 ++ (lw_privs_4 ++ (lw_privs_5 ++ (lw_privs_6 ++ (lw_privs_7 ++ (lw_privs_8 ++ (lw_privs_9))))))))
def lw_tbl : List Cond := k2_sels lw_privs ++ tables_1
theorem lw_privs_ok : ∀ q ∈ lw_privs, lw_okq q := by
  show ∀ q ∈ lw_privs_1 ++ (lw_privs_2 ++ (lw_privs_3 ++ (lw_privs_4 ++ (lw_privs_5 ++ (lw_privs_6 ++ (lw_privs_7 ++ (lw_privs_8 ++ (lw_privs_9)))))))), lw_okq q
  exact List.forall_mem_append.mpr ⟨lw_r1, List.forall_mem_append.mpr ⟨lw_r2, List.forall_mem_append.mpr ⟨lw_r3, List.forall_mem_append.mpr ⟨lw_r4, List.forall_mem_append.mpr ⟨lw_r5, List.forall_mem_append.mpr ⟨lw_r6, List.forall_mem_append.mpr ⟨lw_r7, List.forall_mem_append.mpr ⟨lw_r8, lw_r9⟩⟩⟩⟩⟩⟩⟩⟩
def RX0 : String := "RoundRows$ArchivePlan"
def TX0 : u_T := fun k => match k with
  | 0 => ("RoundRows$ArchivePlan", "how", "I", false)
  | 1 => ("RoundRows$ArchivePlan", "per", "I", false)
  | 2 => ("RoundRows$ArchivePlan", "rows", "I", false)
  | _ => ("RoundRows$ArchivePlan", "share", "I", false)
def tyX0 : Nat → FieldType := fun k => match k with
  | 0 => .int
  | 1 => .int
  | 2 => .int
  | _ => .int
abbrev wsX00 : List Cond := u_ws RX0 TX0 4
theorem nmX0 : ∀ a, a < 4 → ∀ b, b < 4 → a ≠ b → (TX0 a).2.1 ≠ (TX0 b).2.1 := by decide +kernel
theorem tyX0_ok : ∀ k, k < 4 → parseFieldDescriptor (TX0 k).2.2.1 = some (tyX0 k) := by decide +kernel
abbrev cX0_init : ByteArray := prog_2_method_1_code
def yX0_init : MethodName := ⟨RX0, "<init>", "()V"⟩
def RX1 : String := "RoundRows$Formulas"
def TX1 : u_T := fun k => match k with
  | 0 => ("RoundRows$Formulas", "shows", "I", false)
  | 1 => ("RoundRows$Formulas", "units", "I", false)
  | 2 => ("RoundRows$Formulas", "length", "I", false)
  | 3 => ("RoundRows$Formulas", "codes", "[I", true)
  | 4 => ("RoundRows$Formulas", "parts", "[I", true)
  | 5 => ("RoundRows$Formulas", "ends", "[I", true)
  | 6 => ("RoundRows$Formulas", "results", "[I", true)
  | 7 => ("RoundRows$Formulas", "stack", "[I", true)
  | _ => ("RoundRows$Formulas", "top", "I", false)
def tyX1 : Nat → FieldType := fun k => match k with
  | 0 => .int
  | 1 => .int
  | 2 => .int
  | 3 => .array .int
  | 4 => .array .int
  | 5 => .array .int
  | 6 => .array .int
  | 7 => .array .int
  | _ => .int
abbrev wsX10 : List Cond := u_ws RX1 TX1 9
theorem nmX1 : ∀ a, a < 9 → ∀ b, b < 9 → a ≠ b → (TX1 a).2.1 ≠ (TX1 b).2.1 := by decide +kernel
theorem tyX1_ok : ∀ k, k < 9 → parseFieldDescriptor (TX1 k).2.2.1 = some (tyX1 k) := by decide +kernel
abbrev cX1_init : ByteArray := prog_3_method_1_code
def yX1_init : MethodName := ⟨RX1, "<init>", "()V"⟩
abbrev cX1_clear : ByteArray := prog_3_method_2_code
def yX1_clear : MethodName := ⟨RX1, "clear", "()V"⟩
abbrev cX1_put : ByteArray := prog_3_method_3_code
def yX1_put : MethodName := ⟨RX1, "put", "(II)V"⟩
abbrev cX1_endShow : ByteArray := prog_3_method_4_code
def yX1_endShow : MethodName := ⟨RX1, "endShow", "()V"⟩
abbrev cX1_tell : ByteArray := prog_3_method_5_code
def yX1_tell : MethodName := ⟨RX1, "tell", "(ILRoundRows$Ring;I)I"⟩
abbrev cX1_run : ByteArray := prog_3_method_6_code
def yX1_run : MethodName := ⟨RX1, "run", "(IILRoundRows$Ring;I)V"⟩
abbrev cX1_push : ByteArray := prog_3_method_7_code
def yX1_push : MethodName := ⟨RX1, "push", "(I)V"⟩
abbrev cX1_pop : ByteArray := prog_3_method_8_code
def yX1_pop : MethodName := ⟨RX1, "pop", "()I"⟩
abbrev cX1_joined : ByteArray := prog_3_method_9_code
def yX1_joined : MethodName := ⟨RX1, "joined", "(IJJ)I"⟩
def RX2 : String := "RoundRows$MeasurePlan"
def TX2 : u_T := fun k => match k with
  | 0 => ("RoundRows$MeasurePlan", "sort", "I", false)
  | 1 => ("RoundRows$MeasurePlan", "widthOne", "I", false)
  | 2 => ("RoundRows$MeasurePlan", "widthTwo", "I", false)
  | 3 => ("RoundRows$MeasurePlan", "silence", "I", false)
  | 4 => ("RoundRows$MeasurePlan", "least", "I", false)
  | 5 => ("RoundRows$MeasurePlan", "most", "I", false)
  | 6 => ("RoundRows$MeasurePlan", "season", "I", false)
  | 7 => ("RoundRows$MeasurePlan", "levelWeight", "I", false)
  | 8 => ("RoundRows$MeasurePlan", "trendWeight", "I", false)
  | 9 => ("RoundRows$MeasurePlan", "swingWeight", "I", false)
  | _ => ("RoundRows$MeasurePlan", "band", "I", false)
def tyX2 : Nat → FieldType := fun k => match k with
  | 0 => .int
  | 1 => .int
  | 2 => .int
  | 3 => .int
  | 4 => .int
  | 5 => .int
  | 6 => .int
  | 7 => .int
  | 8 => .int
  | 9 => .int
  | _ => .int
abbrev wsX20 : List Cond := u_ws RX2 TX2 11
theorem nmX2 : ∀ a, a < 11 → ∀ b, b < 11 → a ≠ b → (TX2 a).2.1 ≠ (TX2 b).2.1 := by decide +kernel
theorem tyX2_ok : ∀ k, k < 11 → parseFieldDescriptor (TX2 k).2.2.1 = some (tyX2 k) := by decide +kernel
abbrev cX2_init : ByteArray := prog_4_method_1_code
def yX2_init : MethodName := ⟨RX2, "<init>", "()V"⟩
abbrev cX2_clear : ByteArray := prog_4_method_2_code
def yX2_clear : MethodName := ⟨RX2, "clear", "()V"⟩
abbrev cX2_numberMost : ByteArray := prog_4_method_3_code
def yX2_numberMost : MethodName := ⟨RX2, "numberMost", "()I"⟩
def RX3 : String := "RoundRows$Meter"
def TX3 : u_T := fun k => match k with
  | 0 => ("RoundRows$Meter", "silence", "I", false)
  | 1 => ("RoundRows$Meter", "least", "I", false)
  | 2 => ("RoundRows$Meter", "most", "I", false)
  | 3 => ("RoundRows$Meter", "last", "I", false)
  | 4 => ("RoundRows$Meter", "rate", "I", false)
  | 5 => ("RoundRows$Meter", "value", "I", false)
  | 6 => ("RoundRows$Meter", "units", "I", false)
  | 7 => ("RoundRows$Meter", "sum", "J", false)
  | 8 => ("RoundRows$Meter", "everGreatest", "I", false)
  | _ => ("RoundRows$Meter", "everLeast", "I", false)
def tyX3 : Nat → FieldType := fun k => match k with
  | 0 => .int
  | 1 => .int
  | 2 => .int
  | 3 => .int
  | 4 => .int
  | 5 => .int
  | 6 => .int
  | 7 => .long
  | 8 => .int
  | _ => .int
abbrev wsX30 : List Cond := u_ws RX3 TX3 10
theorem nmX3 : ∀ a, a < 10 → ∀ b, b < 10 → a ≠ b → (TX3 a).2.1 ≠ (TX3 b).2.1 := by decide +kernel
theorem tyX3_ok : ∀ k, k < 10 → parseFieldDescriptor (TX3 k).2.2.1 = some (tyX3 k) := by decide +kernel
abbrev cX3_init : ByteArray := prog_5_method_1_code
def yX3_init : MethodName := ⟨RX3, "<init>", "()V"⟩
abbrev cX3_begin : ByteArray := prog_5_method_2_code
def yX3_begin : MethodName := ⟨RX3, "begin", "(LRoundRows$MeasurePlan;)V"⟩
abbrev cX3_copy : ByteArray := prog_5_method_3_code
def yX3_copy : MethodName := ⟨RX3, "copy", "(LRoundRows$Meter;)V"⟩
abbrev cX3_canTurn : ByteArray := prog_5_method_4_code
def yX3_canTurn : MethodName := ⟨RX3, "canTurn", "(II)Z"⟩
abbrev cX3_bound : ByteArray := prog_5_method_5_code
def yX3_bound : MethodName := ⟨RX3, "bound", "(II)I"⟩
abbrev cX3_hear : ByteArray := prog_5_method_6_code
def yX3_hear : MethodName := ⟨RX3, "hear", "(LRoundRows$MeasurePlan;II)V"⟩
abbrev cX3_rateBy : ByteArray := prog_5_method_7_code
def yX3_rateBy : MethodName := ⟨RX3, "rateBy", "(LRoundRows$MeasurePlan;II)I"⟩
abbrev cX3_risen : ByteArray := prog_5_method_8_code
def yX3_risen : MethodName := ⟨RX3, "risen", "(LRoundRows$MeasurePlan;I)I"⟩
abbrev cX3_leastFit : ByteArray := prog_5_method_9_code
def yX3_leastFit : MethodName := ⟨RX3, "leastFit", "(LRoundRows$MeasurePlan;I)I"⟩
abbrev cX3_leastCount : ByteArray := prog_5_method_10_code
def yX3_leastCount : MethodName := ⟨RX3, "leastCount", "(LRoundRows$MeasurePlan;JI)I"⟩
abbrev cX3_leastWithin : ByteArray := prog_5_method_11_code
def yX3_leastWithin : MethodName := ⟨RX3, "leastWithin", "(IIIJJ)I"⟩
abbrev cX3_gather : ByteArray := prog_5_method_12_code
def yX3_gather : MethodName := ⟨RX3, "gather", "(I)V"⟩
abbrev cX3_endStep : ByteArray := prog_5_method_13_code
def yX3_endStep : MethodName := ⟨RX3, "endStep", "(I)V"⟩
def RX4 : String := "RoundRows$Outlook"
def TX4 : u_T := fun k => match k with
  | 0 => ("RoundRows$Outlook", "began", "Z", false)
  | 1 => ("RoundRows$Outlook", "level", "I", false)
  | 2 => ("RoundRows$Outlook", "trend", "I", false)
  | 3 => ("RoundRows$Outlook", "swing", "[I", true)
  | 4 => ("RoundRows$Outlook", "spread", "[I", true)
  | 5 => ("RoundRows$Outlook", "told", "[I", true)
  | 6 => ("RoundRows$Outlook", "odd", "[Z", true)
  | _ => ("RoundRows$Outlook", "tells", "I", false)
def tyX4 : Nat → FieldType := fun k => match k with
  | 0 => .boolean
  | 1 => .int
  | 2 => .int
  | 3 => .array .int
  | 4 => .array .int
  | 5 => .array .int
  | 6 => .array .boolean
  | _ => .int
abbrev wsX40 : List Cond := u_ws RX4 TX4 8
theorem nmX4 : ∀ a, a < 8 → ∀ b, b < 8 → a ≠ b → (TX4 a).2.1 ≠ (TX4 b).2.1 := by decide +kernel
theorem tyX4_ok : ∀ k, k < 8 → parseFieldDescriptor (TX4 k).2.2.1 = some (tyX4 k) := by decide +kernel
abbrev cX4_init : ByteArray := prog_6_method_1_code
def yX4_init : MethodName := ⟨RX4, "<init>", "()V"⟩
abbrev cX4_begin : ByteArray := prog_6_method_2_code
def yX4_begin : MethodName := ⟨RX4, "begin", "()V"⟩
abbrev cX4_copy : ByteArray := prog_6_method_3_code
def yX4_copy : MethodName := ⟨RX4, "copy", "(LRoundRows$Outlook;)V"⟩
abbrev cX4_follow : ByteArray := prog_6_method_4_code
def yX4_follow : MethodName := ⟨RX4, "follow", "(LRoundRows$MeasurePlan;II)V"⟩
abbrev cX4_mixed : ByteArray := prog_6_method_5_code
def yX4_mixed : MethodName := ⟨RX4, "mixed", "(IJJ)I"⟩
abbrev cX4_keep : ByteArray := prog_6_method_6_code
def yX4_keep : MethodName := ⟨RX4, "keep", "(IZ)V"⟩
abbrev cX4_tellAhead : ByteArray := prog_6_method_7_code
def yX4_tellAhead : MethodName := ⟨RX4, "tellAhead", "(II)I"⟩
abbrev cX4_kept : ByteArray := prog_6_method_8_code
def yX4_kept : MethodName := ⟨RX4, "kept", "()I"⟩
abbrev cX4_slotOf : ByteArray := prog_6_method_9_code
def yX4_slotOf : MethodName := ⟨RX4, "slotOf", "(I)I"⟩
abbrev cX4_toldOf : ByteArray := prog_6_method_10_code
def yX4_toldOf : MethodName := ⟨RX4, "toldOf", "(I)I"⟩
abbrev cX4_isOdd : ByteArray := prog_6_method_11_code
def yX4_isOdd : MethodName := ⟨RX4, "isOdd", "(I)Z"⟩
abbrev cX4_oddFrom : ByteArray := prog_6_method_12_code
def yX4_oddFrom : MethodName := ⟨RX4, "oddFrom", "(II)I"⟩
def RX5 : String := "RoundRows$Parser"
def TX5 : u_T := fun k => match k with
  | 0 => ("RoundRows$Parser", "tape", "LRoundRows$Tape;", false)
  | 1 => ("RoundRows$Parser", "plan", "LRoundRows$Plan;", false)
  | 2 => ("RoundRows$Parser", "token", "I", false)
  | 3 => ("RoundRows$Parser", "fault", "I", false)
  | 4 => ("RoundRows$Parser", "place", "I", false)
  | 5 => ("RoundRows$Parser", "nameTokens", "[I", true)
  | 6 => ("RoundRows$Parser", "nameBearers", "[I", true)
  | 7 => ("RoundRows$Parser", "names", "I", false)
  | 8 => ("RoundRows$Parser", "waiting", "[I", true)
  | _ => ("RoundRows$Parser", "waits", "I", false)
def tyX5 : Nat → FieldType := fun k => match k with
  | 0 => .object "RoundRows$Tape"
  | 1 => .object "RoundRows$Plan"
  | 2 => .int
  | 3 => .int
  | 4 => .int
  | 5 => .array .int
  | 6 => .array .int
  | 7 => .int
  | 8 => .array .int
  | _ => .int
abbrev wsX50 : List Cond := u_ws RX5 TX5 10
theorem nmX5 : ∀ a, a < 10 → ∀ b, b < 10 → a ≠ b → (TX5 a).2.1 ≠ (TX5 b).2.1 := by decide +kernel
theorem tyX5_ok : ∀ k, k < 10 → parseFieldDescriptor (TX5 k).2.2.1 = some (tyX5 k) := by decide +kernel
abbrev cX5_init : ByteArray := prog_7_method_1_code
def yX5_init : MethodName := ⟨RX5, "<init>", "()V"⟩
abbrev cX5_parse : ByteArray := prog_7_method_2_code
def yX5_parse : MethodName := ⟨RX5, "parse", "(LRoundRows$Tape;LRoundRows$Plan;)Z"⟩
abbrev cX5_kind : ByteArray := prog_7_method_3_code
def yX5_kind : MethodName := ⟨RX5, "kind", "()I"⟩
abbrev cX5_fail : ByteArray := prog_7_method_4_code
def yX5_fail : MethodName := ⟨RX5, "fail", "(I)Z"⟩
abbrev cX5_take : ByteArray := prog_7_method_5_code
def yX5_take : MethodName := ⟨RX5, "take", "(I)Z"⟩
abbrev cX5_takeNumber : ByteArray := prog_7_method_6_code
def yX5_takeNumber : MethodName := ⟨RX5, "takeNumber", "(II)I"⟩
abbrev cX5_stepLine : ByteArray := prog_7_method_7_code
def yX5_stepLine : MethodName := ⟨RX5, "stepLine", "()Z"⟩
abbrev cX5_measureLine : ByteArray := prog_7_method_8_code
def yX5_measureLine : MethodName := ⟨RX5, "measureLine", "()Z"⟩
abbrev cX5_sort : ByteArray := prog_7_method_9_code
def yX5_sort : MethodName := ⟨RX5, "sort", "(LRoundRows$MeasurePlan;)Z"⟩
abbrev cX5_widths : ByteArray := prog_7_method_10_code
def yX5_widths : MethodName := ⟨RX5, "widths", "(LRoundRows$MeasurePlan;)Z"⟩
abbrev cX5_silence : ByteArray := prog_7_method_11_code
def yX5_silence : MethodName := ⟨RX5, "silence", "(LRoundRows$MeasurePlan;)Z"⟩
abbrev cX5_bounds : ByteArray := prog_7_method_12_code
def yX5_bounds : MethodName := ⟨RX5, "bounds", "(LRoundRows$MeasurePlan;)Z"⟩
abbrev cX5_archiveLine : ByteArray := prog_7_method_13_code
def yX5_archiveLine : MethodName := ⟨RX5, "archiveLine", "()Z"⟩
abbrev cX5_howHere : ByteArray := prog_7_method_14_code
def yX5_howHere : MethodName := ⟨RX5, "howHere", "()I"⟩
abbrev cX5_forecastLine : ByteArray := prog_7_method_15_code
def yX5_forecastLine : MethodName := ⟨RX5, "forecastLine", "()Z"⟩
abbrev cX5_forecastNumbers : ByteArray := prog_7_method_16_code
def yX5_forecastNumbers : MethodName := ⟨RX5, "forecastNumbers", "(LRoundRows$MeasurePlan;)Z"⟩
abbrev cX5_showLine : ByteArray := prog_7_method_17_code
def yX5_showLine : MethodName := ⟨RX5, "showLine", "()Z"⟩
abbrev cX5_newName : ByteArray := prog_7_method_18_code
def yX5_newName : MethodName := ⟨RX5, "newName", "()Z"⟩
abbrev cX5_remember : ByteArray := prog_7_method_19_code
def yX5_remember : MethodName := ⟨RX5, "remember", "(II)V"⟩
abbrev cX5_bearerHere : ByteArray := prog_7_method_20_code
def yX5_bearerHere : MethodName := ⟨RX5, "bearerHere", "()I"⟩
abbrev cX5_formula : ByteArray := prog_7_method_21_code
def yX5_formula : MethodName := ⟨RX5, "formula", "()Z"⟩
abbrev cX5_unit : ByteArray := prog_7_method_22_code
def yX5_unit : MethodName := ⟨RX5, "unit", "(I)Z"⟩
abbrev cX5_await : ByteArray := prog_7_method_23_code
def yX5_await : MethodName := ⟨RX5, "await", "(I)V"⟩
abbrev cX5_release : ByteArray := prog_7_method_24_code
def yX5_release : MethodName := ⟨RX5, "release", "(I)V"⟩
abbrev cX5_rank : ByteArray := prog_7_method_25_code
def yX5_rank : MethodName := ⟨RX5, "rank", "(I)I"⟩
def RX6 : String := "RoundRows$Plan"
def TX6 : u_T := fun k => match k with
  | 0 => ("RoundRows$Plan", "step", "I", false)
  | 1 => ("RoundRows$Plan", "measureCount", "I", false)
  | 2 => ("RoundRows$Plan", "archiveCount", "I", false)
  | 3 => ("RoundRows$Plan", "measures", "[LRoundRows$MeasurePlan;", true)
  | 4 => ("RoundRows$Plan", "archives", "[LRoundRows$ArchivePlan;", true)
  | _ => ("RoundRows$Plan", "formulas", "LRoundRows$Formulas;", true)
def tyX6 : Nat → FieldType := fun k => match k with
  | 0 => .int
  | 1 => .int
  | 2 => .int
  | 3 => .array (.object "RoundRows$MeasurePlan")
  | 4 => .array (.object "RoundRows$ArchivePlan")
  | _ => .object "RoundRows$Formulas"
abbrev wsX60 : List Cond := u_ws RX6 TX6 6
theorem nmX6 : ∀ a, a < 6 → ∀ b, b < 6 → a ≠ b → (TX6 a).2.1 ≠ (TX6 b).2.1 := by decide +kernel
theorem tyX6_ok : ∀ k, k < 6 → parseFieldDescriptor (TX6 k).2.2.1 = some (tyX6 k) := by decide +kernel
abbrev cX6_init : ByteArray := prog_8_method_1_code
def yX6_init : MethodName := ⟨RX6, "<init>", "()V"⟩
abbrev cX6_clear : ByteArray := prog_8_method_2_code
def yX6_clear : MethodName := ⟨RX6, "clear", "()V"⟩
def RX7 : String := "RoundRows$Ring"
def TX7 : u_T := fun k => match k with
  | 0 => ("RoundRows$Ring", "cells", "[I", true)
  | _ => ("RoundRows$Ring", "parts", "[LRoundRows$Tally;", true)
def tyX7 : Nat → FieldType := fun k => match k with
  | 0 => .array .int
  | _ => .array (.object "RoundRows$Tally")
abbrev wsX70 : List Cond := u_ws RX7 TX7 2
theorem nmX7 : ∀ a, a < 2 → ∀ b, b < 2 → a ≠ b → (TX7 a).2.1 ≠ (TX7 b).2.1 := by decide +kernel
theorem tyX7_ok : ∀ k, k < 2 → parseFieldDescriptor (TX7 k).2.2.1 = some (tyX7 k) := by decide +kernel
abbrev cX7_init : ByteArray := prog_9_method_1_code
def yX7_init : MethodName := ⟨RX7, "<init>", "()V"⟩
abbrev cX7_clearParts : ByteArray := prog_9_method_2_code
def yX7_clearParts : MethodName := ⟨RX7, "clearParts", "()V"⟩
abbrev cX7_copy : ByteArray := prog_9_method_3_code
def yX7_copy : MethodName := ⟨RX7, "copy", "(LRoundRows$Ring;)V"⟩
abbrev cX7_rowOf : ByteArray := prog_9_method_4_code
def yX7_rowOf : MethodName := ⟨RX7, "rowOf", "(II)I"⟩
abbrev cX7_endRow : ByteArray := prog_9_method_5_code
def yX7_endRow : MethodName := ⟨RX7, "endRow", "(LRoundRows$ArchivePlan;I)V"⟩
def RX8 : String := "RoundRows$State"
def TX8 : u_T := fun k => match k with
  | 0 => ("RoundRows$State", "time", "I", false)
  | 1 => ("RoundRows$State", "readings", "I", false)
  | 2 => ("RoundRows$State", "meters", "[LRoundRows$Meter;", true)
  | 3 => ("RoundRows$State", "outlooks", "[LRoundRows$Outlook;", true)
  | _ => ("RoundRows$State", "rings", "[LRoundRows$Ring;", true)
def tyX8 : Nat → FieldType := fun k => match k with
  | 0 => .int
  | 1 => .int
  | 2 => .array (.object "RoundRows$Meter")
  | 3 => .array (.object "RoundRows$Outlook")
  | _ => .array (.object "RoundRows$Ring")
abbrev wsX80 : List Cond := u_ws RX8 TX8 5
theorem nmX8 : ∀ a, a < 5 → ∀ b, b < 5 → a ≠ b → (TX8 a).2.1 ≠ (TX8 b).2.1 := by decide +kernel
theorem tyX8_ok : ∀ k, k < 5 → parseFieldDescriptor (TX8 k).2.2.1 = some (tyX8 k) := by decide +kernel
abbrev cX8_init : ByteArray := prog_10_method_1_code
def yX8_init : MethodName := ⟨RX8, "<init>", "()V"⟩
abbrev cX8_begin : ByteArray := prog_10_method_2_code
def yX8_begin : MethodName := ⟨RX8, "begin", "(LRoundRows$Plan;)V"⟩
abbrev cX8_copy : ByteArray := prog_10_method_3_code
def yX8_copy : MethodName := ⟨RX8, "copy", "(LRoundRows$State;)V"⟩
abbrev cX8_pass : ByteArray := prog_10_method_4_code
def yX8_pass : MethodName := ⟨RX8, "pass", "(LRoundRows$Plan;I[I)I"⟩
abbrev cX8_endStep : ByteArray := prog_10_method_5_code
def yX8_endStep : MethodName := ⟨RX8, "endStep", "(LRoundRows$Plan;I)V"⟩
def RX9 : String := "RoundRows$Tally"
def TX9 : u_T := fun k => match k with
  | 0 => ("RoundRows$Tally", "sum", "J", false)
  | 1 => ("RoundRows$Tally", "weight", "I", false)
  | 2 => ("RoundRows$Tally", "known", "I", false)
  | 3 => ("RoundRows$Tally", "greatest", "I", false)
  | 4 => ("RoundRows$Tally", "least", "I", false)
  | _ => ("RoundRows$Tally", "latest", "I", false)
def tyX9 : Nat → FieldType := fun k => match k with
  | 0 => .long
  | 1 => .int
  | 2 => .int
  | 3 => .int
  | 4 => .int
  | _ => .int
abbrev wsX90 : List Cond := u_ws RX9 TX9 6
theorem nmX9 : ∀ a, a < 6 → ∀ b, b < 6 → a ≠ b → (TX9 a).2.1 ≠ (TX9 b).2.1 := by decide +kernel
theorem tyX9_ok : ∀ k, k < 6 → parseFieldDescriptor (TX9 k).2.2.1 = some (tyX9 k) := by decide +kernel
abbrev cX9_init : ByteArray := prog_11_method_1_code
def yX9_init : MethodName := ⟨RX9, "<init>", "()V"⟩
abbrev cX9_clear : ByteArray := prog_11_method_2_code
def yX9_clear : MethodName := ⟨RX9, "clear", "()V"⟩
abbrev cX9_copy : ByteArray := prog_11_method_3_code
def yX9_copy : MethodName := ⟨RX9, "copy", "(LRoundRows$Tally;)V"⟩
abbrev cX9_add : ByteArray := prog_11_method_4_code
def yX9_add : MethodName := ⟨RX9, "add", "(II)V"⟩
abbrev cX9_mean : ByteArray := prog_11_method_5_code
def yX9_mean : MethodName := ⟨RX9, "mean", "()I"⟩
abbrev cX9_by : ByteArray := prog_11_method_6_code
def yX9_by : MethodName := ⟨RX9, "by", "(I)I"⟩
def RX10 : String := "RoundRows$Tape"
def TX10 : u_T := fun k => match k with
  | 0 => ("RoundRows$Tape", "signs", "[C", true)
  | 1 => ("RoundRows$Tape", "length", "I", false)
  | 2 => ("RoundRows$Tape", "kinds", "[I", true)
  | 3 => ("RoundRows$Tape", "starts", "[I", true)
  | 4 => ("RoundRows$Tape", "stops", "[I", true)
  | _ => ("RoundRows$Tape", "tokens", "I", false)
def tyX10 : Nat → FieldType := fun k => match k with
  | 0 => .array .char
  | 1 => .int
  | 2 => .array .int
  | 3 => .array .int
  | 4 => .array .int
  | _ => .int
abbrev wsX100 : List Cond := u_ws RX10 TX10 6
theorem nmX10 : ∀ a, a < 6 → ∀ b, b < 6 → a ≠ b → (TX10 a).2.1 ≠ (TX10 b).2.1 := by decide +kernel
theorem tyX10_ok : ∀ k, k < 6 → parseFieldDescriptor (TX10 k).2.2.1 = some (tyX10 k) := by decide +kernel
abbrev cX10_init : ByteArray := prog_12_method_1_code
def yX10_init : MethodName := ⟨RX10, "<init>", "()V"⟩
abbrev cX10_put : ByteArray := prog_12_method_2_code
def yX10_put : MethodName := ⟨RX10, "put", "(I)V"⟩
abbrev cX10_scan : ByteArray := prog_12_method_3_code
def yX10_scan : MethodName := ⟨RX10, "scan", "()V"⟩
abbrev cX10_add : ByteArray := prog_12_method_4_code
def yX10_add : MethodName := ⟨RX10, "add", "(III)V"⟩
abbrev cX10_stopOf : ByteArray := prog_12_method_5_code
def yX10_stopOf : MethodName := ⟨RX10, "stopOf", "(I)I"⟩
abbrev cX10_kindOf : ByteArray := prog_12_method_6_code
def yX10_kindOf : MethodName := ⟨RX10, "kindOf", "(II)I"⟩
abbrev cX10_wordKind : ByteArray := prog_12_method_7_code
def yX10_wordKind : MethodName := ⟨RX10, "wordKind", "(II)I"⟩
abbrev cX10_isToken : ByteArray := prog_12_method_8_code
def yX10_isToken : MethodName := ⟨RX10, "isToken", "(I)Z"⟩
abbrev cX10_kindAt : ByteArray := prog_12_method_9_code
def yX10_kindAt : MethodName := ⟨RX10, "kindAt", "(I)I"⟩
abbrev cX10_placeOf : ByteArray := prog_12_method_10_code
def yX10_placeOf : MethodName := ⟨RX10, "placeOf", "(I)I"⟩
abbrev cX10_numberOf : ByteArray := prog_12_method_11_code
def yX10_numberOf : MethodName := ⟨RX10, "numberOf", "(I)I"⟩
abbrev cX10_sameWord : ByteArray := prog_12_method_12_code
def yX10_sameWord : MethodName := ⟨RX10, "sameWord", "(II)Z"⟩
abbrev cX10_isBlank : ByteArray := prog_12_method_13_code
def yX10_isBlank : MethodName := ⟨RX10, "isBlank", "(C)Z"⟩
abbrev cX10_isLetter : ByteArray := prog_12_method_14_code
def yX10_isLetter : MethodName := ⟨RX10, "isLetter", "(C)Z"⟩
abbrev cX10_isDigit : ByteArray := prog_12_method_15_code
def yX10_isDigit : MethodName := ⟨RX10, "isDigit", "(C)Z"⟩
def RX11 : String := "RoundRows"
def TX11 : u_T := fun k => match k with
  | 0 => ("RoundRows", "tape", "LRoundRows$Tape;", true)
  | 1 => ("RoundRows", "parser", "LRoundRows$Parser;", true)
  | 2 => ("RoundRows", "plan", "LRoundRows$Plan;", false)
  | 3 => ("RoundRows", "spare", "LRoundRows$Plan;", false)
  | 4 => ("RoundRows", "states", "[LRoundRows$State;", true)
  | 5 => ("RoundRows", "present", "I", false)
  | 6 => ("RoundRows", "undoable", "I", false)
  | 7 => ("RoundRows", "redoable", "I", false)
  | 8 => ("RoundRows", "boxes", "[LRoundRows$State;", true)
  | 9 => ("RoundRows", "boxFull", "[Z", true)
  | 10 => ("RoundRows", "fault", "I", false)
  | 11 => ("RoundRows", "faultPlace", "I", false)
  | 12 => ("RoundRows", "numbers", "[I", true)
  | _ => ("RoundRows", "tally", "LRoundRows$Tally;", true)
def tyX11 : Nat → FieldType := fun k => match k with
  | 0 => .object "RoundRows$Tape"
  | 1 => .object "RoundRows$Parser"
  | 2 => .object "RoundRows$Plan"
  | 3 => .object "RoundRows$Plan"
  | 4 => .array (.object "RoundRows$State")
  | 5 => .int
  | 6 => .int
  | 7 => .int
  | 8 => .array (.object "RoundRows$State")
  | 9 => .array .boolean
  | 10 => .int
  | 11 => .int
  | 12 => .array .int
  | _ => .object "RoundRows$Tally"
abbrev wsX110 : List Cond := u_ws RX11 TX11 14
theorem nmX11 : ∀ a, a < 14 → ∀ b, b < 14 → a ≠ b → (TX11 a).2.1 ≠ (TX11 b).2.1 := by decide +kernel
theorem tyX11_ok : ∀ k, k < 14 → parseFieldDescriptor (TX11 k).2.2.1 = some (tyX11 k) := by decide +kernel
abbrev cX11_init : ByteArray := prog_1_method_1_code
def yX11_init : MethodName := ⟨RX11, "<init>", "()V"⟩
abbrev cX11_feed : ByteArray := prog_1_method_2_code
def yX11_feed : MethodName := ⟨RX11, "feed", "(IIIII)I"⟩
abbrev cX11_end : ByteArray := prog_1_method_3_code
def yX11_end : MethodName := ⟨RX11, "end", "(I)I"⟩
abbrev cX11_store : ByteArray := prog_1_method_4_code
def yX11_store : MethodName := ⟨RX11, "store", "()I"⟩
abbrev cX11_fault : ByteArray := prog_1_method_5_code
def yX11_fault : MethodName := ⟨RX11, "fault", "(I)I"⟩
abbrev cX11_read : ByteArray := prog_1_method_6_code
def yX11_read : MethodName := ⟨RX11, "read", "(IIIII)I"⟩
abbrev cX11_turn : ByteArray := prog_1_method_7_code
def yX11_turn : MethodName := ⟨RX11, "turn", "(III)I"⟩
abbrev cX11_undo : ByteArray := prog_1_method_8_code
def yX11_undo : MethodName := ⟨RX11, "undo", "()Z"⟩
abbrev cX11_redo : ByteArray := prog_1_method_9_code
def yX11_redo : MethodName := ⟨RX11, "redo", "()Z"⟩
abbrev cX11_image : ByteArray := prog_1_method_10_code
def yX11_image : MethodName := ⟨RX11, "image", "(I)I"⟩
abbrev cX11_back : ByteArray := prog_1_method_11_code
def yX11_back : MethodName := ⟨RX11, "back", "(I)I"⟩
abbrev cX11_now : ByteArray := prog_1_method_12_code
def yX11_now : MethodName := ⟨RX11, "now", "()LRoundRows$State;"⟩
abbrev cX11_newAct : ByteArray := prog_1_method_13_code
def yX11_newAct : MethodName := ⟨RX11, "newAct", "()LRoundRows$State;"⟩
abbrev cX11_forgetActs : ByteArray := prog_1_method_14_code
def yX11_forgetActs : MethodName := ⟨RX11, "forgetActs", "()V"⟩
abbrev cX11_canPass : ByteArray := prog_1_method_15_code
def yX11_canPass : MethodName := ⟨RX11, "canPass", "(I)Z"⟩
abbrev cX11_measure : ByteArray := prog_1_method_16_code
def yX11_measure : MethodName := ⟨RX11, "measure", "(II)I"⟩
abbrev cX11_rate : ByteArray := prog_1_method_17_code
def yX11_rate : MethodName := ⟨RX11, "rate", "(I)I"⟩
abbrev cX11_value : ByteArray := prog_1_method_18_code
def yX11_value : MethodName := ⟨RX11, "value", "(I)I"⟩
abbrev cX11_would : ByteArray := prog_1_method_19_code
def yX11_would : MethodName := ⟨RX11, "would", "(IIII)I"⟩
abbrev cX11_fits : ByteArray := prog_1_method_20_code
def yX11_fits : MethodName := ⟨RX11, "fits", "(II)I"⟩
abbrev cX11_stepsBy : ByteArray := prog_1_method_21_code
def yX11_stepsBy : MethodName := ⟨RX11, "stepsBy", "(I)I"⟩
abbrev cX11_valueBy : ByteArray := prog_1_method_22_code
def yX11_valueBy : MethodName := ⟨RX11, "valueBy", "(III)I"⟩
abbrev cX11_archive : ByteArray := prog_1_method_23_code
def yX11_archive : MethodName := ⟨RX11, "archive", "(II)I"⟩
abbrev cX11_row : ByteArray := prog_1_method_24_code
def yX11_row : MethodName := ⟨RX11, "row", "(III)I"⟩
abbrev cX11_rowAt : ByteArray := prog_1_method_25_code
def yX11_rowAt : MethodName := ⟨RX11, "rowAt", "(II)I"⟩
abbrev cX11_over : ByteArray := prog_1_method_26_code
def yX11_over : MethodName := ⟨RX11, "over", "(IIIII)I"⟩
abbrev cX11_total : ByteArray := prog_1_method_27_code
def yX11_total : MethodName := ⟨RX11, "total", "(IIII)J"⟩
abbrev cX11_share : ByteArray := prog_1_method_28_code
def yX11_share : MethodName := ⟨RX11, "share", "(III)I"⟩
abbrev cX11_smooth : ByteArray := prog_1_method_29_code
def yX11_smooth : MethodName := ⟨RX11, "smooth", "(IIII)I"⟩
abbrev cX11_alike : ByteArray := prog_1_method_30_code
def yX11_alike : MethodName := ⟨RX11, "alike", "(III)I"⟩
abbrev cX11_left : ByteArray := prog_1_method_31_code
def yX11_left : MethodName := ⟨RX11, "left", "(I)I"⟩
abbrev cX11_gap : ByteArray := prog_1_method_32_code
def yX11_gap : MethodName := ⟨RX11, "gap", "(III)I"⟩
abbrev cX11_rise : ByteArray := prog_1_method_33_code
def yX11_rise : MethodName := ⟨RX11, "rise", "(II)I"⟩
abbrev cX11_best : ByteArray := prog_1_method_34_code
def yX11_best : MethodName := ⟨RX11, "best", "(II)I"⟩
abbrev cX11_law : ByteArray := prog_1_method_35_code
def yX11_law : MethodName := ⟨RX11, "law", "()I"⟩
abbrev cX11_tellsBetter : ByteArray := prog_1_method_36_code
def yX11_tellsBetter : MethodName := ⟨RX11, "tellsBetter", "(III)Z"⟩
abbrev cX11_rowsBeyond : ByteArray := prog_1_method_37_code
def yX11_rowsBeyond : MethodName := ⟨RX11, "rowsBeyond", "(II)I"⟩
abbrev cX11_tallyWithin : ByteArray := prog_1_method_38_code
def yX11_tallyWithin : MethodName := ⟨RX11, "tallyWithin", "(IIII)I"⟩
abbrev cX11_rowsUpTo : ByteArray := prog_1_method_39_code
def yX11_rowsUpTo : MethodName := ⟨RX11, "rowsUpTo", "(III)I"⟩
abbrev cX11_wayOf : ByteArray := prog_1_method_40_code
def yX11_wayOf : MethodName := ⟨RX11, "wayOf", "(III)I"⟩
abbrev cX11_rowTold : ByteArray := prog_1_method_41_code
def yX11_rowTold : MethodName := ⟨RX11, "rowTold", "(III)I"⟩
abbrev cX11_rowEnd : ByteArray := prog_1_method_42_code
def yX11_rowEnd : MethodName := ⟨RX11, "rowEnd", "(II)I"⟩
abbrev cX11_rowBegin : ByteArray := prog_1_method_43_code
def yX11_rowBegin : MethodName := ⟨RX11, "rowBegin", "(II)I"⟩
abbrev cX11_rowUnits : ByteArray := prog_1_method_44_code
def yX11_rowUnits : MethodName := ⟨RX11, "rowUnits", "(I)I"⟩
abbrev cX11_keptRows : ByteArray := prog_1_method_45_code
def yX11_keptRows : MethodName := ⟨RX11, "keptRows", "(I)I"⟩
abbrev cX11_rowsDone : ByteArray := prog_1_method_46_code
def yX11_rowsDone : MethodName := ⟨RX11, "rowsDone", "(I)I"⟩
abbrev cX11_stepsOver : ByteArray := prog_1_method_47_code
def yX11_stepsOver : MethodName := ⟨RX11, "stepsOver", "()I"⟩
abbrev cX11_forecast : ByteArray := prog_1_method_48_code
def yX11_forecast : MethodName := ⟨RX11, "forecast", "(II)I"⟩
abbrev cX11_place : ByteArray := prog_1_method_49_code
def yX11_place : MethodName := ⟨RX11, "place", "(III)I"⟩
abbrev cX11_told : ByteArray := prog_1_method_50_code
def yX11_told : MethodName := ⟨RX11, "told", "(III)I"⟩
abbrev cX11_odd : ByteArray := prog_1_method_51_code
def yX11_odd : MethodName := ⟨RX11, "odd", "(II)I"⟩
abbrev cX11_alarms : ByteArray := prog_1_method_52_code
def yX11_alarms : MethodName := ⟨RX11, "alarms", "(III)I"⟩
abbrev cX11_ahead : ByteArray := prog_1_method_53_code
def yX11_ahead : MethodName := ⟨RX11, "ahead", "(II)I"⟩
abbrev cX11_show : ByteArray := prog_1_method_54_code
def yX11_show : MethodName := ⟨RX11, "show", "(III)I"⟩
abbrev cX11_shows : ByteArray := prog_1_method_55_code
def yX11_shows : MethodName := ⟨RX11, "shows", "(III)I"⟩
abbrev cX11_showOf : ByteArray := prog_1_method_56_code
def yX11_showOf : MethodName := ⟨RX11, "showOf", "(III)I"⟩
abbrev cX11_about : ByteArray := prog_1_method_57_code
def yX11_about : MethodName := ⟨RX11, "about", "(I)I"⟩
abbrev cX11_forecastBits : ByteArray := prog_1_method_58_code
def yX11_forecastBits : MethodName := ⟨RX11, "forecastBits", "()I"⟩
abbrev cX11_isMeasure : ByteArray := prog_1_method_59_code
def yX11_isMeasure : MethodName := ⟨RX11, "isMeasure", "(I)Z"⟩
abbrev cX11_isArchive : ByteArray := prog_1_method_60_code
def yX11_isArchive : MethodName := ⟨RX11, "isArchive", "(I)Z"⟩
abbrev cX11_isShow : ByteArray := prog_1_method_61_code
def yX11_isShow : MethodName := ⟨RX11, "isShow", "(I)Z"⟩
abbrev cX11_isBox : ByteArray := prog_1_method_62_code
def yX11_isBox : MethodName := ⟨RX11, "isBox", "(I)Z"⟩
abbrev cX11_hasRows : ByteArray := prog_1_method_63_code
def yX11_hasRows : MethodName := ⟨RX11, "hasRows", "(II)Z"⟩
abbrev cX11_hasForecast : ByteArray := prog_1_method_64_code
def yX11_hasForecast : MethodName := ⟨RX11, "hasForecast", "(I)Z"⟩
abbrev cX11_held : ByteArray := prog_1_method_65_code
def yX11_held : MethodName := ⟨RX11, "held", "(J)I"⟩
abbrev cX11_quotient : ByteArray := prog_1_method_66_code
def yX11_quotient : MethodName := ⟨RX11, "quotient", "(JJ)J"⟩
abbrev cX11_quotient_ : ByteArray := prog_1_method_67_code
def yX11_quotient_ : MethodName := ⟨RX11, "quotient", "(II)I"⟩
abbrev cX11_remainder : ByteArray := prog_1_method_68_code
def yX11_remainder : MethodName := ⟨RX11, "remainder", "(II)I"⟩
abbrev cX11_valueOf : ByteArray := prog_1_method_69_code
def yX11_valueOf : MethodName := ⟨RX11, "valueOf", "(JII)I"⟩
def RX12 : String := "RoundRowsModel"
def TX12 : u_T := fun k => match k with
  | 0 => ("RoundRowsModel", "all", "[J", true)
  | 1 => ("RoundRowsModel", "step", "[I", true)
  | 2 => ("RoundRowsModel", "measures", "[I", true)
  | 3 => ("RoundRowsModel", "archives", "[I", true)
  | 4 => ("RoundRowsModel", "shows", "[I", true)
  | 5 => ("RoundRowsModel", "units", "[I", true)
  | 6 => ("RoundRowsModel", "coded", "[I", true)
  | 7 => ("RoundRowsModel", "sort", "[I", true)
  | 8 => ("RoundRowsModel", "first", "[I", true)
  | 9 => ("RoundRowsModel", "second", "[I", true)
  | 10 => ("RoundRowsModel", "silence", "[I", true)
  | 11 => ("RoundRowsModel", "least", "[I", true)
  | 12 => ("RoundRowsModel", "most", "[I", true)
  | 13 => ("RoundRowsModel", "how", "[I", true)
  | 14 => ("RoundRowsModel", "per", "[I", true)
  | 15 => ("RoundRowsModel", "long0", "[I", true)
  | 16 => ("RoundRowsModel", "share", "[I", true)
  | 17 => ("RoundRowsModel", "isForecast", "[Z", true)
  | 18 => ("RoundRowsModel", "season", "[I", true)
  | 19 => ("RoundRowsModel", "levelBy", "[I", true)
  | 20 => ("RoundRowsModel", "trendBy", "[I", true)
  | 21 => ("RoundRowsModel", "swingBy", "[I", true)
  | 22 => ("RoundRowsModel", "band", "[I", true)
  | 23 => ("RoundRowsModel", "code", "[I", true)
  | 24 => ("RoundRowsModel", "codeEnd", "[I", true)
  | 25 => ("RoundRowsModel", "nameAt", "[I", true)
  | 26 => ("RoundRowsModel", "nameLong", "[I", true)
  | 27 => ("RoundRowsModel", "named", "I", false)
  | 28 => ("RoundRowsModel", "bank", "I", false)
  | 29 => ("RoundRowsModel", "tape", "[B", true)
  | 30 => ("RoundRowsModel", "taped", "I", false)
  | 31 => ("RoundRowsModel", "size", "I", false)
  | 32 => ("RoundRowsModel", "next", "I", false)
  | 33 => ("RoundRowsModel", "at", "I", false)
  | 34 => ("RoundRowsModel", "token", "I", false)
  | 35 => ("RoundRowsModel", "number", "I", false)
  | 36 => ("RoundRowsModel", "word", "I", false)
  | 37 => ("RoundRowsModel", "found", "I", false)
  | 38 => ("RoundRowsModel", "foundAt", "I", false)
  | 39 => ("RoundRowsModel", "fault", "I", false)
  | 40 => ("RoundRowsModel", "faultAt", "I", false)
  | 41 => ("RoundRowsModel", "letters", "[B", true)
  | 42 => ("RoundRowsModel", "standsFor", "[I", true)
  | 43 => ("RoundRowsModel", "waits", "[I", true)
  | 44 => ("RoundRowsModel", "waiting", "I", false)
  | 45 => ("RoundRowsModel", "deep", "I", false)
  | 46 => ("RoundRowsModel", "given", "[I", true)
  | 47 => ("RoundRowsModel", "spanMany", "I", false)
  | 48 => ("RoundRowsModel", "spanKnown", "I", false)
  | 49 => ("RoundRowsModel", "spanSum", "J", false)
  | 50 => ("RoundRowsModel", "spanMost", "J", false)
  | 51 => ("RoundRowsModel", "spanLeast", "J", false)
  | 52 => ("RoundRowsModel", "stack", "[J", true)
  | 53 => ("RoundRowsModel", "showAt", "[J", true)
  | 54 => ("RoundRowsModel", "aside", "[J", true)
  | 55 => ("RoundRowsModel", "was", "[J", true)
  | 56 => ("RoundRowsModel", "boxAll", "[J", true)
  | 57 => ("RoundRowsModel", "isBoxed", "[Z", true)
  | 58 => ("RoundRowsModel", "acts", "I", false)
  | _ => ("RoundRowsModel", "undone", "I", false)
def tyX12 : Nat → FieldType := fun k => match k with
  | 0 => .array .long
  | 1 => .array .int
  | 2 => .array .int
  | 3 => .array .int
  | 4 => .array .int
  | 5 => .array .int
  | 6 => .array .int
  | 7 => .array .int
  | 8 => .array .int
  | 9 => .array .int
  | 10 => .array .int
  | 11 => .array .int
  | 12 => .array .int
  | 13 => .array .int
  | 14 => .array .int
  | 15 => .array .int
  | 16 => .array .int
  | 17 => .array .boolean
  | 18 => .array .int
  | 19 => .array .int
  | 20 => .array .int
  | 21 => .array .int
  | 22 => .array .int
  | 23 => .array .int
  | 24 => .array .int
  | 25 => .array .int
  | 26 => .array .int
  | 27 => .int
  | 28 => .int
  | 29 => .array .byte
  | 30 => .int
  | 31 => .int
  | 32 => .int
  | 33 => .int
  | 34 => .int
  | 35 => .int
  | 36 => .int
  | 37 => .int
  | 38 => .int
  | 39 => .int
  | 40 => .int
  | 41 => .array .byte
  | 42 => .array .int
  | 43 => .array .int
  | 44 => .int
  | 45 => .int
  | 46 => .array .int
  | 47 => .int
  | 48 => .int
  | 49 => .long
  | 50 => .long
  | 51 => .long
  | 52 => .array .long
  | 53 => .array .long
  | 54 => .array .long
  | 55 => .array .long
  | 56 => .array .long
  | 57 => .array .boolean
  | 58 => .int
  | _ => .int
abbrev wsX120 : List Cond := u_ws RX12 TX12 60
theorem nmX12 : ∀ a, a < 60 → ∀ b, b < 60 → a ≠ b → (TX12 a).2.1 ≠ (TX12 b).2.1 := by decide +kernel
theorem tyX12_ok : ∀ k, k < 60 → parseFieldDescriptor (TX12 k).2.2.1 = some (tyX12 k) := by decide +kernel
abbrev cX12_init : ByteArray := prog_14_method_1_code
def yX12_init : MethodName := ⟨RX12, "<init>", "()V"⟩
abbrev cX12_isIn : ByteArray := prog_14_method_2_code
def yX12_isIn : MethodName := ⟨RX12, "isIn", "(JJJ)Z"⟩
abbrev cX12_held : ByteArray := prog_14_method_3_code
def yX12_held : MethodName := ⟨RX12, "held", "(J)J"⟩
abbrev cX12_own : ByteArray := prog_14_method_4_code
def yX12_own : MethodName := ⟨RX12, "own", "(II)I"⟩
abbrev cX12_clearBank : ByteArray := prog_14_method_5_code
def yX12_clearBank : MethodName := ⟨RX12, "clearBank", "(I)V"⟩
abbrev cX12_feed : ByteArray := prog_14_method_6_code
def yX12_feed : MethodName := ⟨RX12, "feed", "(IIIII)I"⟩
abbrev cX12_end : ByteArray := prog_14_method_7_code
def yX12_end : MethodName := ⟨RX12, "end", "(I)I"⟩
abbrev cX12_signAt : ByteArray := prog_14_method_8_code
def yX12_signAt : MethodName := ⟨RX12, "signAt", "(I)I"⟩
abbrev cX12_isLetter : ByteArray := prog_14_method_9_code
def yX12_isLetter : MethodName := ⟨RX12, "isLetter", "(I)Z"⟩
abbrev cX12_isDigit : ByteArray := prog_14_method_10_code
def yX12_isDigit : MethodName := ⟨RX12, "isDigit", "(I)Z"⟩
abbrev cX12_isSign : ByteArray := prog_14_method_11_code
def yX12_isSign : MethodName := ⟨RX12, "isSign", "(I)Z"⟩
abbrev cX12_isBlank : ByteArray := prog_14_method_12_code
def yX12_isBlank : MethodName := ⟨RX12, "isBlank", "(I)Z"⟩
abbrev cX12_scan : ByteArray := prog_14_method_13_code
def yX12_scan : MethodName := ⟨RX12, "scan", "()V"⟩
abbrev cX12_scanWord : ByteArray := prog_14_method_14_code
def yX12_scanWord : MethodName := ⟨RX12, "scanWord", "()V"⟩
abbrev cX12_isSame : ByteArray := prog_14_method_15_code
def yX12_isSame : MethodName := ⟨RX12, "isSame", "(II)Z"⟩
abbrev cX12_scanNumber : ByteArray := prog_14_method_16_code
def yX12_scanNumber : MethodName := ⟨RX12, "scanNumber", "()V"⟩
abbrev cX12_fail : ByteArray := prog_14_method_17_code
def yX12_fail : MethodName := ⟨RX12, "fail", "(I)V"⟩
abbrev cX12_isAt : ByteArray := prog_14_method_18_code
def yX12_isAt : MethodName := ⟨RX12, "isAt", "(I)Z"⟩
abbrev cX12_isWord : ByteArray := prog_14_method_19_code
def yX12_isWord : MethodName := ⟨RX12, "isWord", "(I)Z"⟩
abbrev cX12_need : ByteArray := prog_14_method_20_code
def yX12_need : MethodName := ⟨RX12, "need", "(I)V"⟩
abbrev cX12_needWord : ByteArray := prog_14_method_21_code
def yX12_needWord : MethodName := ⟨RX12, "needWord", "(I)V"⟩
abbrev cX12_numeral : ByteArray := prog_14_method_22_code
def yX12_numeral : MethodName := ⟨RX12, "numeral", "(II)I"⟩
abbrev cX12_isName : ByteArray := prog_14_method_23_code
def yX12_isName : MethodName := ⟨RX12, "isName", "()Z"⟩
abbrev cX12_isNamed : ByteArray := prog_14_method_24_code
def yX12_isNamed : MethodName := ⟨RX12, "isNamed", "(I)Z"⟩
abbrev cX12_nameHere : ByteArray := prog_14_method_25_code
def yX12_nameHere : MethodName := ⟨RX12, "nameHere", "()I"⟩
abbrev cX12_newName : ByteArray := prog_14_method_26_code
def yX12_newName : MethodName := ⟨RX12, "newName", "(I)V"⟩
abbrev cX12_readAll : ByteArray := prog_14_method_27_code
def yX12_readAll : MethodName := ⟨RX12, "readAll", "(I)V"⟩
abbrev cX12_readLine : ByteArray := prog_14_method_28_code
def yX12_readLine : MethodName := ⟨RX12, "readLine", "(I)V"⟩
abbrev cX12_readMeasure : ByteArray := prog_14_method_29_code
def yX12_readMeasure : MethodName := ⟨RX12, "readMeasure", "(I)V"⟩
abbrev cX12_readArchive : ByteArray := prog_14_method_30_code
def yX12_readArchive : MethodName := ⟨RX12, "readArchive", "(I)V"⟩
abbrev cX12_readForecast : ByteArray := prog_14_method_31_code
def yX12_readForecast : MethodName := ⟨RX12, "readForecast", "(I)V"⟩
abbrev cX12_readShow : ByteArray := prog_14_method_32_code
def yX12_readShow : MethodName := ⟨RX12, "readShow", "(I)V"⟩
abbrev cX12_bindsBy : ByteArray := prog_14_method_33_code
def yX12_bindsBy : MethodName := ⟨RX12, "bindsBy", "(I)I"⟩
abbrev cX12_lay : ByteArray := prog_14_method_34_code
def yX12_lay : MethodName := ⟨RX12, "lay", "(II)V"⟩
abbrev cX12_layWaiting : ByteArray := prog_14_method_35_code
def yX12_layWaiting : MethodName := ⟨RX12, "layWaiting", "(I)V"⟩
abbrev cX12_push : ByteArray := prog_14_method_36_code
def yX12_push : MethodName := ⟨RX12, "push", "(II)V"⟩
abbrev cX12_readUnits : ByteArray := prog_14_method_37_code
def yX12_readUnits : MethodName := ⟨RX12, "readUnits", "(I)V"⟩
abbrev cX12_between : ByteArray := prog_14_method_38_code
def yX12_between : MethodName := ⟨RX12, "between", "()I"⟩
abbrev cX12_readUnit : ByteArray := prog_14_method_39_code
def yX12_readUnit : MethodName := ⟨RX12, "readUnit", "(I)Z"⟩
abbrev cX12_store : ByteArray := prog_14_method_40_code
def yX12_store : MethodName := ⟨RX12, "store", "()I"⟩
abbrev cX12_fault : ByteArray := prog_14_method_41_code
def yX12_fault : MethodName := ⟨RX12, "fault", "(I)I"⟩
abbrev cX12_many : ByteArray := prog_14_method_42_code
def yX12_many : MethodName := ⟨RX12, "many", "()I"⟩
abbrev cX12_archivesNow : ByteArray := prog_14_method_43_code
def yX12_archivesNow : MethodName := ⟨RX12, "archivesNow", "()I"⟩
abbrev cX12_isMeasure : ByteArray := prog_14_method_44_code
def yX12_isMeasure : MethodName := ⟨RX12, "isMeasure", "(I)Z"⟩
abbrev cX12_isArchive : ByteArray := prog_14_method_45_code
def yX12_isArchive : MethodName := ⟨RX12, "isArchive", "(I)Z"⟩
abbrev cX12_isBoth : ByteArray := prog_14_method_46_code
def yX12_isBoth : MethodName := ⟨RX12, "isBoth", "(II)Z"⟩
abbrev cX12_isFollowed : ByteArray := prog_14_method_47_code
def yX12_isFollowed : MethodName := ⟨RX12, "isFollowed", "(I)Z"⟩
abbrev cX12_atMeasure : ByteArray := prog_14_method_48_code
def yX12_atMeasure : MethodName := ⟨RX12, "atMeasure", "(II)I"⟩
abbrev cX12_atGather : ByteArray := prog_14_method_49_code
def yX12_atGather : MethodName := ⟨RX12, "atGather", "(III)I"⟩
abbrev cX12_atRow : ByteArray := prog_14_method_50_code
def yX12_atRow : MethodName := ⟨RX12, "atRow", "(III)I"⟩
abbrev cX12_atForecast : ByteArray := prog_14_method_51_code
def yX12_atForecast : MethodName := ⟨RX12, "atForecast", "(II)I"⟩
abbrev cX12_startAnew : ByteArray := prog_14_method_52_code
def yX12_startAnew : MethodName := ⟨RX12, "startAnew", "()V"⟩
abbrev cX12_width : ByteArray := prog_14_method_53_code
def yX12_width : MethodName := ⟨RX12, "width", "(I)J"⟩
abbrev cX12_isNumber : ByteArray := prog_14_method_54_code
def yX12_isNumber : MethodName := ⟨RX12, "isNumber", "(IJ)Z"⟩
abbrev cX12_wentOn : ByteArray := prog_14_method_55_code
def yX12_wentOn : MethodName := ⟨RX12, "wentOn", "(JJII)J"⟩
abbrev cX12_rateOf : ByteArray := prog_14_method_56_code
def yX12_rateOf : MethodName := ⟨RX12, "rateOf", "(IJI)J"⟩
abbrev cX12_canRead : ByteArray := prog_14_method_57_code
def yX12_canRead : MethodName := ⟨RX12, "canRead", "(I)Z"⟩
abbrev cX12_goRead : ByteArray := prog_14_method_58_code
def yX12_goRead : MethodName := ⟨RX12, "goRead", "(I)I"⟩
abbrev cX12_closeStep : ByteArray := prog_14_method_59_code
def yX12_closeStep : MethodName := ⟨RX12, "closeStep", "()V"⟩
abbrev cX12_reach : ByteArray := prog_14_method_60_code
def yX12_reach : MethodName := ⟨RX12, "reach", "(IJ)V"⟩
abbrev cX12_gather : ByteArray := prog_14_method_61_code
def yX12_gather : MethodName := ⟨RX12, "gather", "(IIJJ)V"⟩
abbrev cX12_gatheredBy : ByteArray := prog_14_method_62_code
def yX12_gatheredBy : MethodName := ⟨RX12, "gatheredBy", "(II)J"⟩
abbrev cX12_rowsKept : ByteArray := prog_14_method_63_code
def yX12_rowsKept : MethodName := ⟨RX12, "rowsKept", "(I)I"⟩
abbrev cX12_closeRow : ByteArray := prog_14_method_64_code
def yX12_closeRow : MethodName := ⟨RX12, "closeRow", "(I)V"⟩
abbrev cX12_placeNow : ByteArray := prog_14_method_65_code
def yX12_placeNow : MethodName := ⟨RX12, "placeNow", "(IJ)I"⟩
abbrev cX12_mixed : ByteArray := prog_14_method_66_code
def yX12_mixed : MethodName := ⟨RX12, "mixed", "(IJJ)J"⟩
abbrev cX12_tells : ByteArray := prog_14_method_67_code
def yX12_tells : MethodName := ⟨RX12, "tells", "(II)J"⟩
abbrev cX12_follow : ByteArray := prog_14_method_68_code
def yX12_follow : MethodName := ⟨RX12, "follow", "(IJ)V"⟩
abbrev cX12_keepTold : ByteArray := prog_14_method_69_code
def yX12_keepTold : MethodName := ⟨RX12, "keepTold", "(IJZ)V"⟩
abbrev cX12_learn : ByteArray := prog_14_method_70_code
def yX12_learn : MethodName := ⟨RX12, "learn", "(IIJJ)V"⟩
abbrev cX12_give : ByteArray := prog_14_method_71_code
def yX12_give : MethodName := ⟨RX12, "give", "(IIII)V"⟩
abbrev cX12_read : ByteArray := prog_14_method_72_code
def yX12_read : MethodName := ⟨RX12, "read", "(IIIII)I"⟩
abbrev cX12_canTurn : ByteArray := prog_14_method_73_code
def yX12_canTurn : MethodName := ⟨RX12, "canTurn", "(III)Z"⟩
abbrev cX12_turn : ByteArray := prog_14_method_74_code
def yX12_turn : MethodName := ⟨RX12, "turn", "(III)I"⟩
abbrev cX12_measure : ByteArray := prog_14_method_75_code
def yX12_measure : MethodName := ⟨RX12, "measure", "(II)I"⟩
abbrev cX12_rate : ByteArray := prog_14_method_76_code
def yX12_rate : MethodName := ⟨RX12, "rate", "(I)I"⟩
abbrev cX12_value : ByteArray := prog_14_method_77_code
def yX12_value : MethodName := ⟨RX12, "value", "(I)I"⟩
abbrev cX12_unitsOf : ByteArray := prog_14_method_78_code
def yX12_unitsOf : MethodName := ⟨RX12, "unitsOf", "(I)I"⟩
abbrev cX12_overAt : ByteArray := prog_14_method_79_code
def yX12_overAt : MethodName := ⟨RX12, "overAt", "(I)I"⟩
abbrev cX12_archive : ByteArray := prog_14_method_80_code
def yX12_archive : MethodName := ⟨RX12, "archive", "(II)I"⟩
abbrev cX12_isRow : ByteArray := prog_14_method_81_code
def yX12_isRow : MethodName := ⟨RX12, "isRow", "(III)Z"⟩
abbrev cX12_row : ByteArray := prog_14_method_82_code
def yX12_row : MethodName := ⟨RX12, "row", "(III)I"⟩
abbrev cX12_beginOf : ByteArray := prog_14_method_83_code
def yX12_beginOf : MethodName := ⟨RX12, "beginOf", "(II)I"⟩
abbrev cX12_rowAt : ByteArray := prog_14_method_84_code
def yX12_rowAt : MethodName := ⟨RX12, "rowAt", "(II)I"⟩
abbrev cX12_isWithin : ByteArray := prog_14_method_85_code
def yX12_isWithin : MethodName := ⟨RX12, "isWithin", "(IIII)Z"⟩
abbrev cX12_laySpan : ByteArray := prog_14_method_86_code
def yX12_laySpan : MethodName := ⟨RX12, "laySpan", "(IIII)V"⟩
abbrev cX12_over : ByteArray := prog_14_method_87_code
def yX12_over : MethodName := ⟨RX12, "over", "(IIIII)I"⟩
abbrev cX12_total : ByteArray := prog_14_method_88_code
def yX12_total : MethodName := ⟨RX12, "total", "(IIII)J"⟩
abbrev cX12_knownRows : ByteArray := prog_14_method_89_code
def yX12_knownRows : MethodName := ⟨RX12, "knownRows", "(II)I"⟩
abbrev cX12_noGreater : ByteArray := prog_14_method_90_code
def yX12_noGreater : MethodName := ⟨RX12, "noGreater", "(IIJ)I"⟩
abbrev cX12_share : ByteArray := prog_14_method_91_code
def yX12_share : MethodName := ⟨RX12, "share", "(III)I"⟩
abbrev cX12_smooth : ByteArray := prog_14_method_92_code
def yX12_smooth : MethodName := ⟨RX12, "smooth", "(IIII)I"⟩
abbrev cX12_wayOf : ByteArray := prog_14_method_93_code
def yX12_wayOf : MethodName := ⟨RX12, "wayOf", "(III)I"⟩
abbrev cX12_alike : ByteArray := prog_14_method_94_code
def yX12_alike : MethodName := ⟨RX12, "alike", "(III)I"⟩
abbrev cX12_left : ByteArray := prog_14_method_95_code
def yX12_left : MethodName := ⟨RX12, "left", "(I)I"⟩
abbrev cX12_gap : ByteArray := prog_14_method_96_code
def yX12_gap : MethodName := ⟨RX12, "gap", "(III)I"⟩
abbrev cX12_rise : ByteArray := prog_14_method_97_code
def yX12_rise : MethodName := ⟨RX12, "rise", "(II)I"⟩
abbrev cX12_eldestFrom : ByteArray := prog_14_method_98_code
def yX12_eldestFrom : MethodName := ⟨RX12, "eldestFrom", "(I)I"⟩
abbrev cX12_isBetter : ByteArray := prog_14_method_99_code
def yX12_isBetter : MethodName := ⟨RX12, "isBetter", "(III)Z"⟩
abbrev cX12_best : ByteArray := prog_14_method_100_code
def yX12_best : MethodName := ⟨RX12, "best", "(II)I"⟩
abbrev cX12_forecast : ByteArray := prog_14_method_101_code
def yX12_forecast : MethodName := ⟨RX12, "forecast", "(II)I"⟩
abbrev cX12_place : ByteArray := prog_14_method_102_code
def yX12_place : MethodName := ⟨RX12, "place", "(III)I"⟩
abbrev cX12_told : ByteArray := prog_14_method_103_code
def yX12_told : MethodName := ⟨RX12, "told", "(III)I"⟩
abbrev cX12_odd : ByteArray := prog_14_method_104_code
def yX12_odd : MethodName := ⟨RX12, "odd", "(II)I"⟩
abbrev cX12_oddFrom : ByteArray := prog_14_method_105_code
def yX12_oddFrom : MethodName := ⟨RX12, "oddFrom", "(III)I"⟩
abbrev cX12_alarms : ByteArray := prog_14_method_106_code
def yX12_alarms : MethodName := ⟨RX12, "alarms", "(III)I"⟩
abbrev cX12_ahead : ByteArray := prog_14_method_107_code
def yX12_ahead : MethodName := ⟨RX12, "ahead", "(II)I"⟩
abbrev cX12_madeOf : ByteArray := prog_14_method_108_code
def yX12_madeOf : MethodName := ⟨RX12, "madeOf", "(IJJ)J"⟩
abbrev cX12_unitAt : ByteArray := prog_14_method_109_code
def yX12_unitAt : MethodName := ⟨RX12, "unitAt", "(III)J"⟩
abbrev cX12_showOf : ByteArray := prog_14_method_110_code
def yX12_showOf : MethodName := ⟨RX12, "showOf", "(III)J"⟩
abbrev cX12_isShow : ByteArray := prog_14_method_111_code
def yX12_isShow : MethodName := ⟨RX12, "isShow", "(I)Z"⟩
abbrev cX12_show : ByteArray := prog_14_method_112_code
def yX12_show : MethodName := ⟨RX12, "show", "(III)I"⟩
abbrev cX12_shows : ByteArray := prog_14_method_113_code
def yX12_shows : MethodName := ⟨RX12, "shows", "(III)I"⟩
abbrev cX12_would : ByteArray := prog_14_method_114_code
def yX12_would : MethodName := ⟨RX12, "would", "(IIII)I"⟩
abbrev cX12_leastIn : ByteArray := prog_14_method_115_code
def yX12_leastIn : MethodName := ⟨RX12, "leastIn", "(IIJJ)I"⟩
abbrev cX12_isEnough : ByteArray := prog_14_method_116_code
def yX12_isEnough : MethodName := ⟨RX12, "isEnough", "(IIJ)Z"⟩
abbrev cX12_fits : ByteArray := prog_14_method_117_code
def yX12_fits : MethodName := ⟨RX12, "fits", "(II)I"⟩
abbrev cX12_law : ByteArray := prog_14_method_118_code
def yX12_law : MethodName := ⟨RX12, "law", "()I"⟩
abbrev cX12_isBeyond : ByteArray := prog_14_method_119_code
def yX12_isBeyond : MethodName := ⟨RX12, "isBeyond", "(IJ)Z"⟩
abbrev cX12_keepAct : ByteArray := prog_14_method_120_code
def yX12_keepAct : MethodName := ⟨RX12, "keepAct", "()V"⟩
abbrev cX12_swapAll : ByteArray := prog_14_method_121_code
def yX12_swapAll : MethodName := ⟨RX12, "swapAll", "()V"⟩
abbrev cX12_undo : ByteArray := prog_14_method_122_code
def yX12_undo : MethodName := ⟨RX12, "undo", "()Z"⟩
abbrev cX12_redo : ByteArray := prog_14_method_123_code
def yX12_redo : MethodName := ⟨RX12, "redo", "()Z"⟩
abbrev cX12_image : ByteArray := prog_14_method_124_code
def yX12_image : MethodName := ⟨RX12, "image", "(I)I"⟩
abbrev cX12_back : ByteArray := prog_14_method_125_code
def yX12_back : MethodName := ⟨RX12, "back", "(I)I"⟩
abbrev cX12_followed : ByteArray := prog_14_method_126_code
def yX12_followed : MethodName := ⟨RX12, "followed", "()I"⟩
abbrev cX12_about : ByteArray := prog_14_method_127_code
def yX12_about : MethodName := ⟨RX12, "about", "(I)I"⟩
def RJ9 : String := "java/lang/Math"
def TJ9 : u_T := fun k => match k with
  | _ => ("", "", "", false)
def tyJ9 : Nat → FieldType := fun k => match k with
  | _ => .int
abbrev wsJ90 : List Cond := u_ws RJ9 TJ9 0
theorem nmJ9 : ∀ a, a < 0 → ∀ b, b < 0 → a ≠ b → (TJ9 a).2.1 ≠ (TJ9 b).2.1 := by decide +kernel
theorem tyJ9_ok : ∀ k, k < 0 → parseFieldDescriptor (TJ9 k).2.2.1 = some (tyJ9 k) := by decide +kernel
abbrev cJ9_abs_067f4 : ByteArray := prog_15_method_61_code
def yJ9_abs_067f4 : MethodName := ⟨RJ9, "abs", "(J)J"⟩
abbrev cJ9_max_7cf53 : ByteArray := prog_15_method_65_code
def yJ9_max_7cf53 : MethodName := ⟨RJ9, "max", "(II)I"⟩
abbrev cJ9_max_f86c9 : ByteArray := prog_15_method_66_code
def yJ9_max_f86c9 : MethodName := ⟨RJ9, "max", "(JJ)J"⟩
abbrev cJ9_min_7cf53 : ByteArray := prog_15_method_69_code
def yJ9_min_7cf53 : MethodName := ⟨RJ9, "min", "(II)I"⟩
def RJ0 : String := "java/lang/String"
def TJ0 : u_T := fun k => match k with
  | _ => ("", "", "", false)
def tyJ0 : Nat → FieldType := fun k => match k with
  | _ => .int
abbrev wsJ00 : List Cond := u_ws RJ0 TJ0 0
theorem nmJ0 : ∀ a, a < 0 → ∀ b, b < 0 → a ≠ b → (TJ0 a).2.1 ≠ (TJ0 b).2.1 := by decide +kernel
theorem tyJ0_ok : ∀ k, k < 0 → parseFieldDescriptor (TJ0 k).2.2.1 = some (tyJ0 k) := by decide +kernel
abbrev cJ0_length_8abf5 : ByteArray := prog_16_method_54_code
def yJ0_length_8abf5 : MethodName := ⟨RJ0, "length", "()I"⟩
abbrev cJ0_charAt_5068e : ByteArray := prog_16_method_56_code
def yJ0_charAt_5068e : MethodName := ⟨RJ0, "charAt", "(I)C"⟩
abbrev cJ0_coder_7d493 : ByteArray := prog_16_method_152_code
def yJ0_coder_7d493 : MethodName := ⟨RJ0, "coder", "()B"⟩
abbrev cJ0_isLatin1_aae02 : ByteArray := prog_16_method_154_code
def yJ0_isLatin1_aae02 : MethodName := ⟨RJ0, "isLatin1", "()Z"⟩
abbrev cJ0_checkIndex_df160 : ByteArray := prog_16_method_155_code
def yJ0_checkIndex_df160 : MethodName := ⟨RJ0, "checkIndex", "(II)V"⟩
def RJ1 : String := "java/lang/StringLatin1"
def TJ1 : u_T := fun k => match k with
  | _ => ("", "", "", false)
def tyJ1 : Nat → FieldType := fun k => match k with
  | _ => .int
abbrev wsJ10 : List Cond := u_ws RJ1 TJ1 0
theorem nmJ1 : ∀ a, a < 0 → ∀ b, b < 0 → a ≠ b → (TJ1 a).2.1 ≠ (TJ1 b).2.1 := by decide +kernel
theorem tyJ1_ok : ∀ k, k < 0 → parseFieldDescriptor (TJ1 k).2.2.1 = some (tyJ1 k) := by decide +kernel
abbrev cJ1_charAt_3b067 : ByteArray := prog_17_method_2_code
def yJ1_charAt_3b067 : MethodName := ⟨RJ1, "charAt", "([BI)C"⟩
def RJ2 : String := "java/lang/StringUTF16"
def TJ2 : u_T := fun k => match k with
  | _ => ("", "", "", false)
def tyJ2 : Nat → FieldType := fun k => match k with
  | _ => .int
abbrev wsJ20 : List Cond := u_ws RJ2 TJ2 0
theorem nmJ2 : ∀ a, a < 0 → ∀ b, b < 0 → a ≠ b → (TJ2 a).2.1 ≠ (TJ2 b).2.1 := by decide +kernel
theorem tyJ2_ok : ∀ k, k < 0 → parseFieldDescriptor (TJ2 k).2.2.1 = some (tyJ2 k) := by decide +kernel
abbrev cJ2_getChar_3b067 : ByteArray := prog_18_method_5_code
def yJ2_getChar_3b067 : MethodName := ⟨RJ2, "getChar", "([BI)C"⟩
abbrev cJ2_length_9d52b : ByteArray := prog_18_method_6_code
def yJ2_length_9d52b : MethodName := ⟨RJ2, "length", "([B)I"⟩
abbrev cJ2_charAt_3b067 : ByteArray := prog_18_method_83_code
def yJ2_charAt_3b067 : MethodName := ⟨RJ2, "charAt", "([BI)C"⟩
abbrev cJ2_checkIndex_2214a : ByteArray := prog_18_method_91_code
def yJ2_checkIndex_2214a : MethodName := ⟨RJ2, "checkIndex", "(I[B)V"⟩
def RJ10 : String := "java/lang/System"
def TJ10 : u_T := fun k => match k with
  | _ => ("", "", "", false)
def tyJ10 : Nat → FieldType := fun k => match k with
  | _ => .int
abbrev wsJ100 : List Cond := u_ws RJ10 TJ10 0
theorem nmJ10 : ∀ a, a < 0 → ∀ b, b < 0 → a ≠ b → (TJ10 a).2.1 ≠ (TJ10 b).2.1 := by decide +kernel
theorem tyJ10_ok : ∀ k, k < 0 → parseFieldDescriptor (TJ10 k).2.2.1 = some (tyJ10 k) := by decide +kernel
def RJ3 : String := "jdk/internal/util/Preconditions"
def TJ3 : u_T := fun k => match k with
  | _ => ("", "", "", false)
def tyJ3 : Nat → FieldType := fun k => match k with
  | _ => .int
abbrev wsJ30 : List Cond := u_ws RJ3 TJ3 0
theorem nmJ3 : ∀ a, a < 0 → ∀ b, b < 0 → a ≠ b → (TJ3 a).2.1 ≠ (TJ3 b).2.1 := by decide +kernel
theorem tyJ3_ok : ∀ k, k < 0 → parseFieldDescriptor (TJ3 k).2.2.1 = some (tyJ3 k) := by decide +kernel
abbrev cJ3_checkIndex_8e157 : ByteArray := prog_20_method_11_code
def yJ3_checkIndex_8e157 : MethodName := ⟨RJ3, "checkIndex", "(IILjava/util/function/BiFunction;)I"⟩
def RL : String := "RoundRowsLaw"
abbrev cL_law : ByteArray := code
def yL_law : MethodName := ⟨RL, "law", "([I)Z"⟩
abbrev vwCl : List vw_C := [(RX0, TX0, 4), (RX1, TX1, 9), (RX2, TX2, 11), (RX3, TX3, 10), (RX4, TX4, 8), (RX5, TX5, 10), (RX6, TX6, 6), (RX7, TX7, 2), (RX8, TX8, 5), (RX9, TX9, 6), (RX10, TX10, 6), (RX11, TX11, 14), (RX12, TX12, 60)]

section
-- ===== PART A: goes FIRST, ahead of the names: the tables' words, and 'selects' of the private methods out of them =====
/-- a private method of a class that the tables say can be made, by its rows of tables_1 -/
def lw_okq (q : MethodName × Nat) : Prop := (q.1.cls ≠ "java/lang/invoke/MethodHandle" ∧ q.1.cls ≠ "java/lang/invoke/VarHandle") ∧ Cond.instantiable q.1.cls q.2 ∈ tables_1 ∧ Cond.privateMethod q.1 ∈ tables_1 ∧ Cond.instanceMethod q.1 ∈ tables_1
theorem lw_p0 : lw_okq (⟨"TextPipeline$Table", "fillFixedProperties", "()V"⟩, 7) := ⟨⟨by decide +kernel, by decide +kernel⟩, List.mem_of_getElem? (i := 27) (by decide +kernel), List.mem_of_getElem? (i := 37) (by decide +kernel), List.mem_of_getElem? (i := 38) (by decide +kernel)⟩
theorem lw_p1 : lw_okq (⟨"TextPipeline$Table", "fillPartings", "()V"⟩, 7) := ⟨⟨by decide +kernel, by decide +kernel⟩, List.mem_of_getElem? (i := 27) (by decide +kernel), List.mem_of_getElem? (i := 41) (by decide +kernel), List.mem_of_getElem? (i := 42) (by decide +kernel)⟩
theorem lw_p2 : lw_okq (⟨"TextPipeline$Table", "fillSyllable", "(II)V"⟩, 7) := ⟨⟨by decide +kernel, by decide +kernel⟩, List.mem_of_getElem? (i := 27) (by decide +kernel), List.mem_of_getElem? (i := 45) (by decide +kernel), List.mem_of_getElem? (i := 46) (by decide +kernel)⟩
theorem lw_p3 : lw_okq (⟨"TextPipeline$Table", "partAll", "()V"⟩, 7) := ⟨⟨by decide +kernel, by decide +kernel⟩, List.mem_of_getElem? (i := 27) (by decide +kernel), List.mem_of_getElem? (i := 49) (by decide +kernel), List.mem_of_getElem? (i := 50) (by decide +kernel)⟩
theorem lw_p4 : lw_okq (⟨"TextPipeline$Table", "addPart", "(II)V"⟩, 7) := ⟨⟨by decide +kernel, by decide +kernel⟩, List.mem_of_getElem? (i := 27) (by decide +kernel), List.mem_of_getElem? (i := 53) (by decide +kernel), List.mem_of_getElem? (i := 54) (by decide +kernel)⟩
theorem lw_p5 : lw_okq (⟨"TextPipeline$Table", "addPartsOf", "(II)V"⟩, 7) := ⟨⟨by decide +kernel, by decide +kernel⟩, List.mem_of_getElem? (i := 27) (by decide +kernel), List.mem_of_getElem? (i := 57) (by decide +kernel), List.mem_of_getElem? (i := 58) (by decide +kernel)⟩
theorem lw_p6 : lw_okq (⟨"TextPipeline", "fillOwnKey", "()V"⟩, 9) := ⟨⟨by decide +kernel, by decide +kernel⟩, List.mem_of_getElem? (i := 19) (by decide +kernel), List.mem_of_getElem? (i := 226) (by decide +kernel), List.mem_of_getElem? (i := 227) (by decide +kernel)⟩
theorem lw_p7 : lw_okq (⟨"java/lang/Throwable", "fillInStackTrace", "(I)Ljava/lang/Throwable;"⟩, 6) := ⟨⟨by decide +kernel, by decide +kernel⟩, List.mem_of_getElem? (i := 319) (by decide +kernel), List.mem_of_getElem? (i := 317) (by decide +kernel), List.mem_of_getElem? (i := 318) (by decide +kernel)⟩
theorem lw_p8 : lw_okq (⟨"TextPipeline", "requireCharacter", "(I)V"⟩, 9) := ⟨⟨by decide +kernel, by decide +kernel⟩, List.mem_of_getElem? (i := 19) (by decide +kernel), List.mem_of_getElem? (i := 434) (by decide +kernel), List.mem_of_getElem? (i := 435) (by decide +kernel)⟩
theorem lw_p9 : lw_okq (⟨"TextPipeline", "requirePlace", "(I)V"⟩, 9) := ⟨⟨by decide +kernel, by decide +kernel⟩, List.mem_of_getElem? (i := 19) (by decide +kernel), List.mem_of_getElem? (i := 462) (by decide +kernel), List.mem_of_getElem? (i := 463) (by decide +kernel)⟩
theorem lw_p10 : lw_okq (⟨"TextPipeline$Lines", "findKinds", "(LTextPipeline$Table;LTextPipeline$Row;)V"⟩, 1) := ⟨⟨by decide +kernel, by decide +kernel⟩, List.mem_of_getElem? (i := 103) (by decide +kernel), List.mem_of_getElem? (i := 479) (by decide +kernel), List.mem_of_getElem? (i := 480) (by decide +kernel)⟩
theorem lw_p11 : lw_okq (⟨"TextPipeline$Lines", "kindOverSpaces", "(I)I"⟩, 1) := ⟨⟨by decide +kernel, by decide +kernel⟩, List.mem_of_getElem? (i := 103) (by decide +kernel), List.mem_of_getElem? (i := 491) (by decide +kernel), List.mem_of_getElem? (i := 492) (by decide +kernel)⟩
theorem lw_p12 : lw_okq (⟨"TextPipeline$Sides", "takeKinds", "(LTextPipeline$Table;LTextPipeline$Row;I)V"⟩, 3) := ⟨⟨by decide +kernel, by decide +kernel⟩, List.mem_of_getElem? (i := 113) (by decide +kernel), List.mem_of_getElem? (i := 530) (by decide +kernel), List.mem_of_getElem? (i := 531) (by decide +kernel)⟩
theorem lw_p13 : lw_okq (⟨"TextPipeline$Sides", "takeFromFront", "(I)V"⟩, 3) := ⟨⟨by decide +kernel, by decide +kernel⟩, List.mem_of_getElem? (i := 113) (by decide +kernel), List.mem_of_getElem? (i := 534) (by decide +kernel), List.mem_of_getElem? (i := 535) (by decide +kernel)⟩
theorem lw_p14 : lw_okq (⟨"TextPipeline$Sides", "changeArabs", "(I)V"⟩, 3) := ⟨⟨by decide +kernel, by decide +kernel⟩, List.mem_of_getElem? (i := 113) (by decide +kernel), List.mem_of_getElem? (i := 538) (by decide +kernel), List.mem_of_getElem? (i := 539) (by decide +kernel)⟩
theorem lw_p15 : lw_okq (⟨"TextPipeline$Sides", "joinNumbers", "(I)V"⟩, 3) := ⟨⟨by decide +kernel, by decide +kernel⟩, List.mem_of_getElem? (i := 113) (by decide +kernel), List.mem_of_getElem? (i := 542) (by decide +kernel), List.mem_of_getElem? (i := 543) (by decide +kernel)⟩
def lw_privs_1 : List (MethodName × Nat) := [(⟨"TextPipeline$Table", "fillFixedProperties", "()V"⟩, 7), (⟨"TextPipeline$Table", "fillPartings", "()V"⟩, 7), (⟨"TextPipeline$Table", "fillSyllable", "(II)V"⟩, 7), (⟨"TextPipeline$Table", "partAll", "()V"⟩, 7), (⟨"TextPipeline$Table", "addPart", "(II)V"⟩, 7), (⟨"TextPipeline$Table", "addPartsOf", "(II)V"⟩, 7), (⟨"TextPipeline", "fillOwnKey", "()V"⟩, 9), (⟨"java/lang/Throwable", "fillInStackTrace", "(I)Ljava/lang/Throwable;"⟩, 6), (⟨"TextPipeline", "requireCharacter", "(I)V"⟩, 9), (⟨"TextPipeline", "requirePlace", "(I)V"⟩, 9), (⟨"TextPipeline$Lines", "findKinds", "(LTextPipeline$Table;LTextPipeline$Row;)V"⟩, 1), (⟨"TextPipeline$Lines", "kindOverSpaces", "(I)I"⟩, 1), (⟨"TextPipeline$Sides", "takeKinds", "(LTextPipeline$Table;LTextPipeline$Row;I)V"⟩, 3), (⟨"TextPipeline$Sides", "takeFromFront", "(I)V"⟩, 3), (⟨"TextPipeline$Sides", "changeArabs", "(I)V"⟩, 3), (⟨"TextPipeline$Sides", "joinNumbers", "(I)V"⟩, 3)]
theorem lw_r1 : ∀ q ∈ lw_privs_1, lw_okq q := List.forall_mem_cons.mpr ⟨lw_p0, List.forall_mem_cons.mpr ⟨lw_p1, List.forall_mem_cons.mpr ⟨lw_p2, List.forall_mem_cons.mpr ⟨lw_p3, List.forall_mem_cons.mpr ⟨lw_p4, List.forall_mem_cons.mpr ⟨lw_p5, List.forall_mem_cons.mpr ⟨lw_p6, List.forall_mem_cons.mpr ⟨lw_p7, List.forall_mem_cons.mpr ⟨lw_p8, List.forall_mem_cons.mpr ⟨lw_p9, List.forall_mem_cons.mpr ⟨lw_p10, List.forall_mem_cons.mpr ⟨lw_p11, List.forall_mem_cons.mpr ⟨lw_p12, List.forall_mem_cons.mpr ⟨lw_p13, List.forall_mem_cons.mpr ⟨lw_p14, List.forall_mem_cons.mpr ⟨lw_p15, fun _ h => absurd h List.not_mem_nil⟩⟩⟩⟩⟩⟩⟩⟩⟩⟩⟩⟩⟩⟩⟩⟩
theorem lw_p16 : lw_okq (⟨"TextPipeline$Sides", "changeUnits", "(I)V"⟩, 3) := ⟨⟨by decide +kernel, by decide +kernel⟩, List.mem_of_getElem? (i := 113) (by decide +kernel), List.mem_of_getElem? (i := 546) (by decide +kernel), List.mem_of_getElem? (i := 547) (by decide +kernel)⟩
theorem lw_p17 : lw_okq (⟨"TextPipeline$Sides", "fillKinds", "(III)V"⟩, 3) := ⟨⟨by decide +kernel, by decide +kernel⟩, List.mem_of_getElem? (i := 113) (by decide +kernel), List.mem_of_getElem? (i := 550) (by decide +kernel), List.mem_of_getElem? (i := 551) (by decide +kernel)⟩
theorem lw_p18 : lw_okq (⟨"TextPipeline$Sides", "changeLeftNumbers", "(I)V"⟩, 3) := ⟨⟨by decide +kernel, by decide +kernel⟩, List.mem_of_getElem? (i := 113) (by decide +kernel), List.mem_of_getElem? (i := 554) (by decide +kernel), List.mem_of_getElem? (i := 555) (by decide +kernel)⟩
theorem lw_p19 : lw_okq (⟨"TextPipeline$Sides", "changeNeutrals", "(I)V"⟩, 3) := ⟨⟨by decide +kernel, by decide +kernel⟩, List.mem_of_getElem? (i := 113) (by decide +kernel), List.mem_of_getElem? (i := 558) (by decide +kernel), List.mem_of_getElem? (i := 559) (by decide +kernel)⟩
theorem lw_p20 : lw_okq (⟨"TextPipeline$Sides", "kindBetween", "(II)I"⟩, 3) := ⟨⟨by decide +kernel, by decide +kernel⟩, List.mem_of_getElem? (i := 113) (by decide +kernel), List.mem_of_getElem? (i := 565) (by decide +kernel), List.mem_of_getElem? (i := 566) (by decide +kernel)⟩
theorem lw_p21 : lw_okq (⟨"TextPipeline$Sides", "resetGaps", "(LTextPipeline$Table;LTextPipeline$Row;I)V"⟩, 3) := ⟨⟨by decide +kernel, by decide +kernel⟩, List.mem_of_getElem? (i := 113) (by decide +kernel), List.mem_of_getElem? (i := 575) (by decide +kernel), List.mem_of_getElem? (i := 576) (by decide +kernel)⟩
theorem lw_p22 : lw_okq (⟨"TextPipeline$Sides", "turnRows", "(II)V"⟩, 3) := ⟨⟨by decide +kernel, by decide +kernel⟩, List.mem_of_getElem? (i := 113) (by decide +kernel), List.mem_of_getElem? (i := 594) (by decide +kernel), List.mem_of_getElem? (i := 595) (by decide +kernel)⟩
theorem lw_p23 : lw_okq (⟨"TextPipeline$Sides", "turnRound", "(II)V"⟩, 3) := ⟨⟨by decide +kernel, by decide +kernel⟩, List.mem_of_getElem? (i := 113) (by decide +kernel), List.mem_of_getElem? (i := 598) (by decide +kernel), List.mem_of_getElem? (i := 599) (by decide +kernel)⟩
theorem lw_p24 : lw_okq (⟨"TextPipelineModel", "isShort", "()Z"⟩, 24) := ⟨⟨by decide +kernel, by decide +kernel⟩, List.mem_of_getElem? (i := 646) (by decide +kernel), List.mem_of_getElem? (i := 737) (by decide +kernel), List.mem_of_getElem? (i := 738) (by decide +kernel)⟩
theorem lw_p25 : lw_okq (⟨"TextPipelineModel", "noPlace", "(II)Z"⟩, 24) := ⟨⟨by decide +kernel, by decide +kernel⟩, List.mem_of_getElem? (i := 646) (by decide +kernel), List.mem_of_getElem? (i := 753) (by decide +kernel), List.mem_of_getElem? (i := 754) (by decide +kernel)⟩
theorem lw_p26 : lw_okq (⟨"TextPipelineModel", "partText", "()V"⟩, 24) := ⟨⟨by decide +kernel, by decide +kernel⟩, List.mem_of_getElem? (i := 646) (by decide +kernel), List.mem_of_getElem? (i := 761) (by decide +kernel), List.mem_of_getElem? (i := 762) (by decide +kernel)⟩
theorem lw_p27 : lw_okq (⟨"TextPipelineModel", "putParts", "(I)V"⟩, 24) := ⟨⟨by decide +kernel, by decide +kernel⟩, List.mem_of_getElem? (i := 646) (by decide +kernel), List.mem_of_getElem? (i := 765) (by decide +kernel), List.mem_of_getElem? (i := 766) (by decide +kernel)⟩
theorem lw_p28 : lw_okq (⟨"TextPipelineModel", "put", "(I)V"⟩, 24) := ⟨⟨by decide +kernel, by decide +kernel⟩, List.mem_of_getElem? (i := 646) (by decide +kernel), List.mem_of_getElem? (i := 769) (by decide +kernel), List.mem_of_getElem? (i := 770) (by decide +kernel)⟩
theorem lw_p29 : lw_okq (⟨"TextPipelineModel", "rankForm", "()V"⟩, 24) := ⟨⟨by decide +kernel, by decide +kernel⟩, List.mem_of_getElem? (i := 646) (by decide +kernel), List.mem_of_getElem? (i := 773) (by decide +kernel), List.mem_of_getElem? (i := 774) (by decide +kernel)⟩
theorem lw_p30 : lw_okq (⟨"TextPipelineModel", "rank", "(I)I"⟩, 24) := ⟨⟨by decide +kernel, by decide +kernel⟩, List.mem_of_getElem? (i := 646) (by decide +kernel), List.mem_of_getElem? (i := 777) (by decide +kernel), List.mem_of_getElem? (i := 778) (by decide +kernel)⟩
theorem lw_p31 : lw_okq (⟨"TextPipelineModel", "property", "(II)I"⟩, 24) := ⟨⟨by decide +kernel, by decide +kernel⟩, List.mem_of_getElem? (i := 646) (by decide +kernel), List.mem_of_getElem? (i := 781) (by decide +kernel), List.mem_of_getElem? (i := 782) (by decide +kernel)⟩
def lw_privs_2 : List (MethodName × Nat) := [(⟨"TextPipeline$Sides", "changeUnits", "(I)V"⟩, 3), (⟨"TextPipeline$Sides", "fillKinds", "(III)V"⟩, 3), (⟨"TextPipeline$Sides", "changeLeftNumbers", "(I)V"⟩, 3), (⟨"TextPipeline$Sides", "changeNeutrals", "(I)V"⟩, 3), (⟨"TextPipeline$Sides", "kindBetween", "(II)I"⟩, 3), (⟨"TextPipeline$Sides", "resetGaps", "(LTextPipeline$Table;LTextPipeline$Row;I)V"⟩, 3), (⟨"TextPipeline$Sides", "turnRows", "(II)V"⟩, 3), (⟨"TextPipeline$Sides", "turnRound", "(II)V"⟩, 3), (⟨"TextPipelineModel", "isShort", "()Z"⟩, 24), (⟨"TextPipelineModel", "noPlace", "(II)Z"⟩, 24), (⟨"TextPipelineModel", "partText", "()V"⟩, 24), (⟨"TextPipelineModel", "putParts", "(I)V"⟩, 24), (⟨"TextPipelineModel", "put", "(I)V"⟩, 24), (⟨"TextPipelineModel", "rankForm", "()V"⟩, 24), (⟨"TextPipelineModel", "rank", "(I)I"⟩, 24), (⟨"TextPipelineModel", "property", "(II)I"⟩, 24)]
theorem lw_r2 : ∀ q ∈ lw_privs_2, lw_okq q := List.forall_mem_cons.mpr ⟨lw_p16, List.forall_mem_cons.mpr ⟨lw_p17, List.forall_mem_cons.mpr ⟨lw_p18, List.forall_mem_cons.mpr ⟨lw_p19, List.forall_mem_cons.mpr ⟨lw_p20, List.forall_mem_cons.mpr ⟨lw_p21, List.forall_mem_cons.mpr ⟨lw_p22, List.forall_mem_cons.mpr ⟨lw_p23, List.forall_mem_cons.mpr ⟨lw_p24, List.forall_mem_cons.mpr ⟨lw_p25, List.forall_mem_cons.mpr ⟨lw_p26, List.forall_mem_cons.mpr ⟨lw_p27, List.forall_mem_cons.mpr ⟨lw_p28, List.forall_mem_cons.mpr ⟨lw_p29, List.forall_mem_cons.mpr ⟨lw_p30, List.forall_mem_cons.mpr ⟨lw_p31, fun _ h => absurd h List.not_mem_nil⟩⟩⟩⟩⟩⟩⟩⟩⟩⟩⟩⟩⟩⟩⟩⟩
theorem lw_p32 : lw_okq (⟨"TextPipelineModel", "joinForm", "()V"⟩, 24) := ⟨⟨by decide +kernel, by decide +kernel⟩, List.mem_of_getElem? (i := 646) (by decide +kernel), List.mem_of_getElem? (i := 785) (by decide +kernel), List.mem_of_getElem? (i := 786) (by decide +kernel)⟩
theorem lw_p33 : lw_okq (⟨"TextPipelineModel", "starter", "(I)I"⟩, 24) := ⟨⟨by decide +kernel, by decide +kernel⟩, List.mem_of_getElem? (i := 646) (by decide +kernel), List.mem_of_getElem? (i := 789) (by decide +kernel), List.mem_of_getElem? (i := 790) (by decide +kernel)⟩
theorem lw_p34 : lw_okq (⟨"TextPipelineModel", "joins", "(II)I"⟩, 24) := ⟨⟨by decide +kernel, by decide +kernel⟩, List.mem_of_getElem? (i := 646) (by decide +kernel), List.mem_of_getElem? (i := 793) (by decide +kernel), List.mem_of_getElem? (i := 794) (by decide +kernel)⟩
theorem lw_p35 : lw_okq (⟨"TextPipelineModel", "isLead", "(I)Z"⟩, 24) := ⟨⟨by decide +kernel, by decide +kernel⟩, List.mem_of_getElem? (i := 646) (by decide +kernel), List.mem_of_getElem? (i := 797) (by decide +kernel), List.mem_of_getElem? (i := 798) (by decide +kernel)⟩
theorem lw_p36 : lw_okq (⟨"TextPipelineModel", "isVowel", "(I)Z"⟩, 24) := ⟨⟨by decide +kernel, by decide +kernel⟩, List.mem_of_getElem? (i := 646) (by decide +kernel), List.mem_of_getElem? (i := 801) (by decide +kernel), List.mem_of_getElem? (i := 802) (by decide +kernel)⟩
theorem lw_p37 : lw_okq (⟨"TextPipelineModel", "isOpen", "(I)Z"⟩, 24) := ⟨⟨by decide +kernel, by decide +kernel⟩, List.mem_of_getElem? (i := 646) (by decide +kernel), List.mem_of_getElem? (i := 805) (by decide +kernel), List.mem_of_getElem? (i := 806) (by decide +kernel)⟩
theorem lw_p38 : lw_okq (⟨"TextPipelineModel", "isTail", "(I)Z"⟩, 24) := ⟨⟨by decide +kernel, by decide +kernel⟩, List.mem_of_getElem? (i := 646) (by decide +kernel), List.mem_of_getElem? (i := 809) (by decide +kernel), List.mem_of_getElem? (i := 810) (by decide +kernel)⟩
theorem lw_p39 : lw_okq (⟨"TextPipelineModel", "isFree", "(II)Z"⟩, 24) := ⟨⟨by decide +kernel, by decide +kernel⟩, List.mem_of_getElem? (i := 646) (by decide +kernel), List.mem_of_getElem? (i := 813) (by decide +kernel), List.mem_of_getElem? (i := 814) (by decide +kernel)⟩
theorem lw_p40 : lw_okq (⟨"TextPipelineModel", "ends", "(I)Z"⟩, 24) := ⟨⟨by decide +kernel, by decide +kernel⟩, List.mem_of_getElem? (i := 646) (by decide +kernel), List.mem_of_getElem? (i := 821) (by decide +kernel), List.mem_of_getElem? (i := 822) (by decide +kernel)⟩
theorem lw_p41 : lw_okq (⟨"TextPipelineModel", "clusterOf", "(I)I"⟩, 24) := ⟨⟨by decide +kernel, by decide +kernel⟩, List.mem_of_getElem? (i := 646) (by decide +kernel), List.mem_of_getElem? (i := 825) (by decide +kernel), List.mem_of_getElem? (i := 826) (by decide +kernel)⟩
theorem lw_p42 : lw_okq (⟨"TextPipelineModel", "syllabic", "(II)Z"⟩, 24) := ⟨⟨by decide +kernel, by decide +kernel⟩, List.mem_of_getElem? (i := 646) (by decide +kernel), List.mem_of_getElem? (i := 829) (by decide +kernel), List.mem_of_getElem? (i := 830) (by decide +kernel)⟩
theorem lw_p43 : lw_okq (⟨"TextPipelineModel", "isClosed", "(I)Z"⟩, 24) := ⟨⟨by decide +kernel, by decide +kernel⟩, List.mem_of_getElem? (i := 646) (by decide +kernel), List.mem_of_getElem? (i := 833) (by decide +kernel), List.mem_of_getElem? (i := 834) (by decide +kernel)⟩
theorem lw_p44 : lw_okq (⟨"TextPipelineModel", "pictureBefore", "(I)Z"⟩, 24) := ⟨⟨by decide +kernel, by decide +kernel⟩, List.mem_of_getElem? (i := 646) (by decide +kernel), List.mem_of_getElem? (i := 837) (by decide +kernel), List.mem_of_getElem? (i := 838) (by decide +kernel)⟩
theorem lw_p45 : lw_okq (⟨"TextPipelineModel", "oddRegions", "(I)Z"⟩, 24) := ⟨⟨by decide +kernel, by decide +kernel⟩, List.mem_of_getElem? (i := 646) (by decide +kernel), List.mem_of_getElem? (i := 841) (by decide +kernel), List.mem_of_getElem? (i := 842) (by decide +kernel)⟩
theorem lw_p46 : lw_okq (⟨"TextPipelineModel", "classLines", "()V"⟩, 24) := ⟨⟨by decide +kernel, by decide +kernel⟩, List.mem_of_getElem? (i := 646) (by decide +kernel), List.mem_of_getElem? (i := 853) (by decide +kernel), List.mem_of_getElem? (i := 854) (by decide +kernel)⟩
theorem lw_p47 : lw_okq (⟨"TextPipelineModel", "overSpaces", "(I)I"⟩, 24) := ⟨⟨by decide +kernel, by decide +kernel⟩, List.mem_of_getElem? (i := 646) (by decide +kernel), List.mem_of_getElem? (i := 857) (by decide +kernel), List.mem_of_getElem? (i := 858) (by decide +kernel)⟩
def lw_privs_3 : List (MethodName × Nat) := [(⟨"TextPipelineModel", "joinForm", "()V"⟩, 24), (⟨"TextPipelineModel", "starter", "(I)I"⟩, 24), (⟨"TextPipelineModel", "joins", "(II)I"⟩, 24), (⟨"TextPipelineModel", "isLead", "(I)Z"⟩, 24), (⟨"TextPipelineModel", "isVowel", "(I)Z"⟩, 24), (⟨"TextPipelineModel", "isOpen", "(I)Z"⟩, 24), (⟨"TextPipelineModel", "isTail", "(I)Z"⟩, 24), (⟨"TextPipelineModel", "isFree", "(II)Z"⟩, 24), (⟨"TextPipelineModel", "ends", "(I)Z"⟩, 24), (⟨"TextPipelineModel", "clusterOf", "(I)I"⟩, 24), (⟨"TextPipelineModel", "syllabic", "(II)Z"⟩, 24), (⟨"TextPipelineModel", "isClosed", "(I)Z"⟩, 24), (⟨"TextPipelineModel", "pictureBefore", "(I)Z"⟩, 24), (⟨"TextPipelineModel", "oddRegions", "(I)Z"⟩, 24), (⟨"TextPipelineModel", "classLines", "()V"⟩, 24), (⟨"TextPipelineModel", "overSpaces", "(I)I"⟩, 24)]
theorem lw_r3 : ∀ q ∈ lw_privs_3, lw_okq q := List.forall_mem_cons.mpr ⟨lw_p32, List.forall_mem_cons.mpr ⟨lw_p33, List.forall_mem_cons.mpr ⟨lw_p34, List.forall_mem_cons.mpr ⟨lw_p35, List.forall_mem_cons.mpr ⟨lw_p36, List.forall_mem_cons.mpr ⟨lw_p37, List.forall_mem_cons.mpr ⟨lw_p38, List.forall_mem_cons.mpr ⟨lw_p39, List.forall_mem_cons.mpr ⟨lw_p40, List.forall_mem_cons.mpr ⟨lw_p41, List.forall_mem_cons.mpr ⟨lw_p42, List.forall_mem_cons.mpr ⟨lw_p43, List.forall_mem_cons.mpr ⟨lw_p44, List.forall_mem_cons.mpr ⟨lw_p45, List.forall_mem_cons.mpr ⟨lw_p46, List.forall_mem_cons.mpr ⟨lw_p47, fun _ h => absurd h List.not_mem_nil⟩⟩⟩⟩⟩⟩⟩⟩⟩⟩⟩⟩⟩⟩⟩⟩
theorem lw_p48 : lw_okq (⟨"TextPipelineModel", "may", "(II)Z"⟩, 24) := ⟨⟨by decide +kernel, by decide +kernel⟩, List.mem_of_getElem? (i := 646) (by decide +kernel), List.mem_of_getElem? (i := 861) (by decide +kernel), List.mem_of_getElem? (i := 862) (by decide +kernel)⟩
theorem lw_p49 : lw_okq (⟨"TextPipelineModel", "findLevels", "(I)V"⟩, 24) := ⟨⟨by decide +kernel, by decide +kernel⟩, List.mem_of_getElem? (i := 646) (by decide +kernel), List.mem_of_getElem? (i := 869) (by decide +kernel), List.mem_of_getElem? (i := 870) (by decide +kernel)⟩
theorem lw_p50 : lw_okq (⟨"TextPipelineModel", "baseOf", "(I)I"⟩, 24) := ⟨⟨by decide +kernel, by decide +kernel⟩, List.mem_of_getElem? (i := 646) (by decide +kernel), List.mem_of_getElem? (i := 873) (by decide +kernel), List.mem_of_getElem? (i := 874) (by decide +kernel)⟩
theorem lw_p51 : lw_okq (⟨"TextPipelineModel", "sideOf", "(I)I"⟩, 24) := ⟨⟨by decide +kernel, by decide +kernel⟩, List.mem_of_getElem? (i := 646) (by decide +kernel), List.mem_of_getElem? (i := 877) (by decide +kernel), List.mem_of_getElem? (i := 878) (by decide +kernel)⟩
theorem lw_p52 : lw_okq (⟨"TextPipelineModel", "weaken", "()V"⟩, 24) := ⟨⟨by decide +kernel, by decide +kernel⟩, List.mem_of_getElem? (i := 646) (by decide +kernel), List.mem_of_getElem? (i := 881) (by decide +kernel), List.mem_of_getElem? (i := 882) (by decide +kernel)⟩
theorem lw_p53 : lw_okq (⟨"TextPipelineModel", "nearest", "(I)I"⟩, 24) := ⟨⟨by decide +kernel, by decide +kernel⟩, List.mem_of_getElem? (i := 646) (by decide +kernel), List.mem_of_getElem? (i := 885) (by decide +kernel), List.mem_of_getElem? (i := 886) (by decide +kernel)⟩
theorem lw_p54 : lw_okq (⟨"TextPipelineModel", "units", "()V"⟩, 24) := ⟨⟨by decide +kernel, by decide +kernel⟩, List.mem_of_getElem? (i := 646) (by decide +kernel), List.mem_of_getElem? (i := 889) (by decide +kernel), List.mem_of_getElem? (i := 890) (by decide +kernel)⟩
theorem lw_p55 : lw_okq (⟨"TextPipelineModel", "neutrals", "(I)V"⟩, 24) := ⟨⟨by decide +kernel, by decide +kernel⟩, List.mem_of_getElem? (i := 646) (by decide +kernel), List.mem_of_getElem? (i := 893) (by decide +kernel), List.mem_of_getElem? (i := 894) (by decide +kernel)⟩
theorem lw_p56 : lw_okq (⟨"TextPipelineModel", "neutral", "(I)Z"⟩, 24) := ⟨⟨by decide +kernel, by decide +kernel⟩, List.mem_of_getElem? (i := 646) (by decide +kernel), List.mem_of_getElem? (i := 897) (by decide +kernel), List.mem_of_getElem? (i := 898) (by decide +kernel)⟩
theorem lw_p57 : lw_okq (⟨"TextPipelineModel", "turnRound", "(II)V"⟩, 24) := ⟨⟨by decide +kernel, by decide +kernel⟩, List.mem_of_getElem? (i := 646) (by decide +kernel), List.mem_of_getElem? (i := 905) (by decide +kernel), List.mem_of_getElem? (i := 906) (by decide +kernel)⟩
theorem lw_p58 : lw_okq (⟨"TextPipelineModel", "findKey", "()V"⟩, 24) := ⟨⟨by decide +kernel, by decide +kernel⟩, List.mem_of_getElem? (i := 646) (by decide +kernel), List.mem_of_getElem? (i := 913) (by decide +kernel), List.mem_of_getElem? (i := 914) (by decide +kernel)⟩
theorem lw_p59 : lw_okq (⟨"TextPipelineModel", "weight", "(II)I"⟩, 24) := ⟨⟨by decide +kernel, by decide +kernel⟩, List.mem_of_getElem? (i := 646) (by decide +kernel), List.mem_of_getElem? (i := 917) (by decide +kernel), List.mem_of_getElem? (i := 918) (by decide +kernel)⟩
theorem lw_p60 : lw_okq (⟨"TextPipelineModel", "noSlot", "(I)Z"⟩, 24) := ⟨⟨by decide +kernel, by decide +kernel⟩, List.mem_of_getElem? (i := 646) (by decide +kernel), List.mem_of_getElem? (i := 929) (by decide +kernel), List.mem_of_getElem? (i := 930) (by decide +kernel)⟩
theorem lw_p61 : lw_okq (⟨"TextPipelineModel", "partKept", "(I)V"⟩, 24) := ⟨⟨by decide +kernel, by decide +kernel⟩, List.mem_of_getElem? (i := 646) (by decide +kernel), List.mem_of_getElem? (i := 937) (by decide +kernel), List.mem_of_getElem? (i := 938) (by decide +kernel)⟩
def lw_privs_4 : List (MethodName × Nat) := [(⟨"TextPipelineModel", "may", "(II)Z"⟩, 24), (⟨"TextPipelineModel", "findLevels", "(I)V"⟩, 24), (⟨"TextPipelineModel", "baseOf", "(I)I"⟩, 24), (⟨"TextPipelineModel", "sideOf", "(I)I"⟩, 24), (⟨"TextPipelineModel", "weaken", "()V"⟩, 24), (⟨"TextPipelineModel", "nearest", "(I)I"⟩, 24), (⟨"TextPipelineModel", "units", "()V"⟩, 24), (⟨"TextPipelineModel", "neutrals", "(I)V"⟩, 24), (⟨"TextPipelineModel", "neutral", "(I)Z"⟩, 24), (⟨"TextPipelineModel", "turnRound", "(II)V"⟩, 24), (⟨"TextPipelineModel", "findKey", "()V"⟩, 24), (⟨"TextPipelineModel", "weight", "(II)I"⟩, 24), (⟨"TextPipelineModel", "noSlot", "(I)Z"⟩, 24), (⟨"TextPipelineModel", "partKept", "(I)V"⟩, 24)]
theorem lw_r4 : ∀ q ∈ lw_privs_4, lw_okq q := List.forall_mem_cons.mpr ⟨lw_p48, List.forall_mem_cons.mpr ⟨lw_p49, List.forall_mem_cons.mpr ⟨lw_p50, List.forall_mem_cons.mpr ⟨lw_p51, List.forall_mem_cons.mpr ⟨lw_p52, List.forall_mem_cons.mpr ⟨lw_p53, List.forall_mem_cons.mpr ⟨lw_p54, List.forall_mem_cons.mpr ⟨lw_p55, List.forall_mem_cons.mpr ⟨lw_p56, List.forall_mem_cons.mpr ⟨lw_p57, List.forall_mem_cons.mpr ⟨lw_p58, List.forall_mem_cons.mpr ⟨lw_p59, List.forall_mem_cons.mpr ⟨lw_p60, List.forall_mem_cons.mpr ⟨lw_p61, fun _ h => absurd h List.not_mem_nil⟩⟩⟩⟩⟩⟩⟩⟩⟩⟩⟩⟩⟩⟩
def lw_privs : List (MethodName × Nat) := lw_privs_1 ++ (lw_privs_2 ++ (lw_privs_3 ++ (lw_privs_4)))
def lw_tbl : List Cond := k2_sels lw_privs ++ tables_1
theorem lw_privs_ok : ∀ q ∈ lw_privs, lw_okq q := by
  show ∀ q ∈ lw_privs_1 ++ (lw_privs_2 ++ (lw_privs_3 ++ (lw_privs_4))), lw_okq q
  exact List.forall_mem_append.mpr ⟨lw_r1, List.forall_mem_append.mpr ⟨lw_r2, List.forall_mem_append.mpr ⟨lw_r3, lw_r4⟩⟩⟩
end
section
/-- the words that a warm machine keeps, of all that the tables say -/
def WS0 : List Cond := lw_tbl.filter goodWord
theorem ws0_t {i : Nat} {w : Cond} (h : tables_1[i]? = some w) (g : goodWord w = true) : w ∈ WS0 := List.mem_filter.mpr ⟨List.mem_append_right _ (List.mem_of_getElem? h), g⟩
theorem ws0_s {i : Nat} {q : MethodName × Nat} (h : lw_privs[i]? = some q) (g : goodWord (.selects q.1.cls q.1 q.1) = true) : Cond.selects q.1.cls q.1 q.1 ∈ WS0 := List.mem_filter.mpr ⟨List.mem_append_left _ (List.mem_map.mpr ⟨q, List.mem_of_getElem? h, rfl⟩), g⟩
theorem ws0_good : ∀ w ∈ WS0, goodWord w = true := fun w h => (List.mem_filter.mp h).2
theorem q0 : (Jvm.Cond.initialized "TextPipelineLaw") ∈ WS0 := ws0_t (i := 0) (by decide +kernel) (by decide +kernel)
theorem q1 : (Jvm.Cond.initialized "TextPipeline") ∈ WS0 := ws0_t (i := 1) (by decide +kernel) (by decide +kernel)
theorem q2 : (Jvm.Cond.initialized "TextPipeline$Table") ∈ WS0 := ws0_t (i := 2) (by decide +kernel) (by decide +kernel)
theorem q3 : (Jvm.Cond.initialized "TextPipeline$Row") ∈ WS0 := ws0_t (i := 3) (by decide +kernel) (by decide +kernel)
theorem q4 : (Jvm.Cond.initialized "TextPipeline$Lines") ∈ WS0 := ws0_t (i := 4) (by decide +kernel) (by decide +kernel)
theorem q5 : (Jvm.Cond.initialized "TextPipeline$Sides") ∈ WS0 := ws0_t (i := 5) (by decide +kernel) (by decide +kernel)
theorem q6 : (Jvm.Cond.initialized "TextPipelineModel") ∈ WS0 := ws0_t (i := 6) (by decide +kernel) (by decide +kernel)
theorem q7 : (Jvm.Cond.initialized "java/lang/Throwable") ∈ WS0 := ws0_t (i := 7) (by decide +kernel) (by decide +kernel)
theorem q8 : (Jvm.Cond.initialized "java/lang/Exception") ∈ WS0 := ws0_t (i := 8) (by decide +kernel) (by decide +kernel)
theorem q9 : (Jvm.Cond.initialized "java/lang/RuntimeException") ∈ WS0 := ws0_t (i := 9) (by decide +kernel) (by decide +kernel)
theorem q10 : (Jvm.Cond.initialized "java/lang/IllegalArgumentException") ∈ WS0 := ws0_t (i := 10) (by decide +kernel) (by decide +kernel)
theorem q11 : (Jvm.Cond.initialized "java/lang/IllegalStateException") ∈ WS0 := ws0_t (i := 11) (by decide +kernel) (by decide +kernel)
theorem q12 : (Jvm.Cond.initialized "java/lang/Math") ∈ WS0 := ws0_t (i := 12) (by decide +kernel) (by decide +kernel)
theorem q13 : (Jvm.Cond.initialized "TextPipeline$Forms") ∈ WS0 := ws0_t (i := 13) (by decide +kernel) (by decide +kernel)
theorem q14 : (Jvm.Cond.initialized "java/lang/IndexOutOfBoundsException") ∈ WS0 := ws0_t (i := 14) (by decide +kernel) (by decide +kernel)
theorem q15 : (Jvm.Cond.initialized "TextPipeline$Clusters") ∈ WS0 := ws0_t (i := 15) (by decide +kernel) (by decide +kernel)
theorem q16 : (Jvm.Cond.initialized "TextPipeline$Keys") ∈ WS0 := ws0_t (i := 16) (by decide +kernel) (by decide +kernel)
theorem q17 : (Jvm.Cond.initialized "java/lang/Integer") ∈ WS0 := ws0_t (i := 17) (by decide +kernel) (by decide +kernel)
theorem q18 : (Jvm.Cond.classLink "TextPipelineLaw" (8 : Nat) "TextPipeline") ∈ WS0 := ws0_t (i := 18) (by decide +kernel) (by decide +kernel)
theorem q19 : (Jvm.Cond.instantiable "TextPipeline" (9 : Nat)) ∈ WS0 := ws0_t (i := 19) (by decide +kernel) (by decide +kernel)
theorem q20 : (Jvm.Cond.methodLink "TextPipelineLaw" (61 : Nat) ({ cls := "TextPipeline", name := "<init>", desc := "()V" } : Jvm.MethodName)) ∈ WS0 := ws0_t (i := 20) (by decide +kernel) (by decide +kernel)
theorem q21 : (Jvm.Cond.instanceMethod ({ cls := "TextPipeline", name := "<init>", desc := "()V" } : Jvm.MethodName)) ∈ WS0 := ws0_t (i := 21) (by decide +kernel) (by decide +kernel)
theorem q22 : (Jvm.Cond.code ({ cls := "TextPipeline", name := "<init>", desc := "()V" } : Jvm.MethodName) prog_1_method_1_code (2 : Nat) (Option.none : Option Jvm.ClassFile.FieldType)) ∈ WS0 := ws0_t (i := 22) (by decide +kernel) (by decide +kernel)
theorem q23 : (Jvm.Cond.methodLink "TextPipeline" (1 : Nat) ({ cls := "java/lang/Object", name := "<init>", desc := "()V" } : Jvm.MethodName)) ∈ WS0 := ws0_t (i := 23) (by decide +kernel) (by decide +kernel)
theorem q24 : (Jvm.Cond.instanceMethod ({ cls := "java/lang/Object", name := "<init>", desc := "()V" } : Jvm.MethodName)) ∈ WS0 := ws0_t (i := 24) (by decide +kernel) (by decide +kernel)
theorem q25 : (Jvm.Cond.code ({ cls := "java/lang/Object", name := "<init>", desc := "()V" } : Jvm.MethodName) object_method_1_code (1 : Nat) (Option.none : Option Jvm.ClassFile.FieldType)) ∈ WS0 := ws0_t (i := 25) (by decide +kernel) (by decide +kernel)
theorem q26 : (Jvm.Cond.classLink "TextPipeline" (7 : Nat) "TextPipeline$Table") ∈ WS0 := ws0_t (i := 26) (by decide +kernel) (by decide +kernel)
theorem q27 : (Jvm.Cond.instantiable "TextPipeline$Table" (7 : Nat)) ∈ WS0 := ws0_t (i := 27) (by decide +kernel) (by decide +kernel)
theorem q28 : (Jvm.Cond.methodLink "TextPipeline" (9 : Nat) ({ cls := "TextPipeline$Table", name := "<init>", desc := "()V" } : Jvm.MethodName)) ∈ WS0 := ws0_t (i := 28) (by decide +kernel) (by decide +kernel)
theorem q29 : (Jvm.Cond.instanceMethod ({ cls := "TextPipeline$Table", name := "<init>", desc := "()V" } : Jvm.MethodName)) ∈ WS0 := ws0_t (i := 29) (by decide +kernel) (by decide +kernel)
theorem q30 : (Jvm.Cond.code ({ cls := "TextPipeline$Table", name := "<init>", desc := "()V" } : Jvm.MethodName) prog_8_method_1_code (1 : Nat) (Option.none : Option Jvm.ClassFile.FieldType)) ∈ WS0 := ws0_t (i := 30) (by decide +kernel) (by decide +kernel)
theorem q31 : (Jvm.Cond.methodLink "TextPipeline$Table" (1 : Nat) ({ cls := "java/lang/Object", name := "<init>", desc := "()V" } : Jvm.MethodName)) ∈ WS0 := ws0_t (i := 31) (by decide +kernel) (by decide +kernel)
theorem q32 : (Jvm.Cond.fieldLink "TextPipeline$Table" (7 : Nat) "TextPipeline$Table" "GREATEST" "[I") ∈ WS0 := ws0_t (i := 32) (by decide +kernel) (by decide +kernel)
theorem q34 : (Jvm.Cond.classLink "TextPipeline$Table" (13 : Nat) "[[I") ∈ WS0 := ws0_t (i := 34) (by decide +kernel) (by decide +kernel)
theorem q36 : (Jvm.Cond.methodLink "TextPipeline$Table" (37 : Nat) ({ cls := "TextPipeline$Table", name := "fillFixedProperties", desc := "()V" } : Jvm.MethodName)) ∈ WS0 := ws0_t (i := 36) (by decide +kernel) (by decide +kernel)
theorem q38 : (Jvm.Cond.instanceMethod ({ cls := "TextPipeline$Table", name := "fillFixedProperties", desc := "()V" } : Jvm.MethodName)) ∈ WS0 := ws0_t (i := 38) (by decide +kernel) (by decide +kernel)
theorem q39 : (Jvm.Cond.code ({ cls := "TextPipeline$Table", name := "fillFixedProperties", desc := "()V" } : Jvm.MethodName) prog_8_method_21_code (3 : Nat) (Option.none : Option Jvm.ClassFile.FieldType)) ∈ WS0 := ws0_t (i := 39) (by decide +kernel) (by decide +kernel)
theorem q40 : (Jvm.Cond.methodLink "TextPipeline$Table" (40 : Nat) ({ cls := "TextPipeline$Table", name := "fillPartings", desc := "()V" } : Jvm.MethodName)) ∈ WS0 := ws0_t (i := 40) (by decide +kernel) (by decide +kernel)
theorem q42 : (Jvm.Cond.instanceMethod ({ cls := "TextPipeline$Table", name := "fillPartings", desc := "()V" } : Jvm.MethodName)) ∈ WS0 := ws0_t (i := 42) (by decide +kernel) (by decide +kernel)
theorem q43 : (Jvm.Cond.code ({ cls := "TextPipeline$Table", name := "fillPartings", desc := "()V" } : Jvm.MethodName) prog_8_method_22_code (2 : Nat) (Option.none : Option Jvm.ClassFile.FieldType)) ∈ WS0 := ws0_t (i := 43) (by decide +kernel) (by decide +kernel)
theorem q44 : (Jvm.Cond.methodLink "TextPipeline$Table" (53 : Nat) ({ cls := "TextPipeline$Table", name := "fillSyllable", desc := "(II)V" } : Jvm.MethodName)) ∈ WS0 := ws0_t (i := 44) (by decide +kernel) (by decide +kernel)
theorem q46 : (Jvm.Cond.instanceMethod ({ cls := "TextPipeline$Table", name := "fillSyllable", desc := "(II)V" } : Jvm.MethodName)) ∈ WS0 := ws0_t (i := 46) (by decide +kernel) (by decide +kernel)
theorem q47 : (Jvm.Cond.code ({ cls := "TextPipeline$Table", name := "fillSyllable", desc := "(II)V" } : Jvm.MethodName) prog_8_method_23_code (4 : Nat) (Option.none : Option Jvm.ClassFile.FieldType)) ∈ WS0 := ws0_t (i := 47) (by decide +kernel) (by decide +kernel)
theorem q48 : (Jvm.Cond.methodLink "TextPipeline$Table" (43 : Nat) ({ cls := "TextPipeline$Table", name := "partAll", desc := "()V" } : Jvm.MethodName)) ∈ WS0 := ws0_t (i := 48) (by decide +kernel) (by decide +kernel)
theorem q50 : (Jvm.Cond.instanceMethod ({ cls := "TextPipeline$Table", name := "partAll", desc := "()V" } : Jvm.MethodName)) ∈ WS0 := ws0_t (i := 50) (by decide +kernel) (by decide +kernel)
theorem q51 : (Jvm.Cond.code ({ cls := "TextPipeline$Table", name := "partAll", desc := "()V" } : Jvm.MethodName) prog_8_method_24_code (2 : Nat) (Option.none : Option Jvm.ClassFile.FieldType)) ∈ WS0 := ws0_t (i := 51) (by decide +kernel) (by decide +kernel)
theorem q52 : (Jvm.Cond.methodLink "TextPipeline$Table" (57 : Nat) ({ cls := "TextPipeline$Table", name := "addPart", desc := "(II)V" } : Jvm.MethodName)) ∈ WS0 := ws0_t (i := 52) (by decide +kernel) (by decide +kernel)
theorem q54 : (Jvm.Cond.instanceMethod ({ cls := "TextPipeline$Table", name := "addPart", desc := "(II)V" } : Jvm.MethodName)) ∈ WS0 := ws0_t (i := 54) (by decide +kernel) (by decide +kernel)
theorem q55 : (Jvm.Cond.code ({ cls := "TextPipeline$Table", name := "addPart", desc := "(II)V" } : Jvm.MethodName) prog_8_method_26_code (3 : Nat) (Option.none : Option Jvm.ClassFile.FieldType)) ∈ WS0 := ws0_t (i := 55) (by decide +kernel) (by decide +kernel)
theorem q56 : (Jvm.Cond.methodLink "TextPipeline$Table" (60 : Nat) ({ cls := "TextPipeline$Table", name := "addPartsOf", desc := "(II)V" } : Jvm.MethodName)) ∈ WS0 := ws0_t (i := 56) (by decide +kernel) (by decide +kernel)
theorem q58 : (Jvm.Cond.instanceMethod ({ cls := "TextPipeline$Table", name := "addPartsOf", desc := "(II)V" } : Jvm.MethodName)) ∈ WS0 := ws0_t (i := 58) (by decide +kernel) (by decide +kernel)
theorem q59 : (Jvm.Cond.code ({ cls := "TextPipeline$Table", name := "addPartsOf", desc := "(II)V" } : Jvm.MethodName) prog_8_method_25_code (4 : Nat) (Option.none : Option Jvm.ClassFile.FieldType)) ∈ WS0 := ws0_t (i := 59) (by decide +kernel) (by decide +kernel)
theorem q60 : (Jvm.Cond.methodLink "TextPipeline$Table" (63 : Nat) ({ cls := "TextPipeline$Table", name := "partOf", desc := "(II)I" } : Jvm.MethodName)) ∈ WS0 := ws0_t (i := 60) (by decide +kernel) (by decide +kernel)
theorem q61 : (Jvm.Cond.instanceMethod ({ cls := "TextPipeline$Table", name := "partOf", desc := "(II)I" } : Jvm.MethodName)) ∈ WS0 := ws0_t (i := 61) (by decide +kernel) (by decide +kernel)
theorem q62 : (Jvm.Cond.selects "TextPipeline$Table" ({ cls := "TextPipeline$Table", name := "partOf", desc := "(II)I" } : Jvm.MethodName) ({ cls := "TextPipeline$Table", name := "partOf", desc := "(II)I" } : Jvm.MethodName)) ∈ WS0 := ws0_t (i := 62) (by decide +kernel) (by decide +kernel)
theorem q63 : (Jvm.Cond.code ({ cls := "TextPipeline$Table", name := "partOf", desc := "(II)I" } : Jvm.MethodName) prog_8_method_19_code (3 : Nat) (Option.some Jvm.ClassFile.FieldType.int)) ∈ WS0 := ws0_t (i := 63) (by decide +kernel) (by decide +kernel)
theorem q64 : (Jvm.Cond.fieldLink "TextPipeline$Table" (15 : Nat) "TextPipeline$Table" "properties" "[[I") ∈ WS0 := ws0_t (i := 64) (by decide +kernel) (by decide +kernel)
theorem q65 : (Jvm.Cond.fieldLink "TextPipeline$Table" (18 : Nat) "TextPipeline$Table" "firstPart" "[I") ∈ WS0 := ws0_t (i := 65) (by decide +kernel) (by decide +kernel)
theorem q66 : (Jvm.Cond.fieldLink "TextPipeline$Table" (21 : Nat) "TextPipeline$Table" "secondPart" "[I") ∈ WS0 := ws0_t (i := 66) (by decide +kernel) (by decide +kernel)
theorem q67 : (Jvm.Cond.fieldLink "TextPipeline$Table" (24 : Nat) "TextPipeline$Table" "excluded" "[Z") ∈ WS0 := ws0_t (i := 67) (by decide +kernel) (by decide +kernel)
theorem q68 : (Jvm.Cond.fieldLink "TextPipeline$Table" (28 : Nat) "TextPipeline$Table" "parts" "[I") ∈ WS0 := ws0_t (i := 68) (by decide +kernel) (by decide +kernel)
theorem q69 : (Jvm.Cond.fieldLink "TextPipeline$Table" (31 : Nat) "TextPipeline$Table" "partCount" "[I") ∈ WS0 := ws0_t (i := 69) (by decide +kernel) (by decide +kernel)
theorem q70 : (Jvm.Cond.fieldLink "TextPipeline$Table" (34 : Nat) "TextPipeline$Table" "triedCount" "[I") ∈ WS0 := ws0_t (i := 70) (by decide +kernel) (by decide +kernel)
theorem q71 : (Jvm.Cond.laysFinal "TextPipeline$Table" "TextPipeline$Table" "properties" "[[I") ∈ WS0 := ws0_t (i := 71) (by decide +kernel) (by decide +kernel)
theorem q73 : (Jvm.Cond.laysFinal "TextPipeline$Table" "TextPipeline$Table" "firstPart" "[I") ∈ WS0 := ws0_t (i := 73) (by decide +kernel) (by decide +kernel)
theorem q75 : (Jvm.Cond.laysFinal "TextPipeline$Table" "TextPipeline$Table" "secondPart" "[I") ∈ WS0 := ws0_t (i := 75) (by decide +kernel) (by decide +kernel)
theorem q77 : (Jvm.Cond.laysFinal "TextPipeline$Table" "TextPipeline$Table" "excluded" "[Z") ∈ WS0 := ws0_t (i := 77) (by decide +kernel) (by decide +kernel)
theorem q79 : (Jvm.Cond.laysFinal "TextPipeline$Table" "TextPipeline$Table" "parts" "[I") ∈ WS0 := ws0_t (i := 79) (by decide +kernel) (by decide +kernel)
theorem q81 : (Jvm.Cond.laysFinal "TextPipeline$Table" "TextPipeline$Table" "partCount" "[I") ∈ WS0 := ws0_t (i := 81) (by decide +kernel) (by decide +kernel)
theorem q83 : (Jvm.Cond.laysFinal "TextPipeline$Table" "TextPipeline$Table" "triedCount" "[I") ∈ WS0 := ws0_t (i := 83) (by decide +kernel) (by decide +kernel)
theorem q86 : (Jvm.Cond.arrayClass Jvm.ClassFile.FieldType.int) ∈ WS0 := ws0_t (i := 86) (by decide +kernel) (by decide +kernel)
theorem q87 : (Jvm.Cond.arrayClass Jvm.ClassFile.FieldType.boolean) ∈ WS0 := ws0_t (i := 87) (by decide +kernel) (by decide +kernel)
theorem q88 : (Jvm.Cond.classLink "TextPipeline" (16 : Nat) "TextPipeline$Row") ∈ WS0 := ws0_t (i := 88) (by decide +kernel) (by decide +kernel)
theorem q89 : (Jvm.Cond.instantiable "TextPipeline$Row" (2 : Nat)) ∈ WS0 := ws0_t (i := 89) (by decide +kernel) (by decide +kernel)
theorem q90 : (Jvm.Cond.methodLink "TextPipeline" (18 : Nat) ({ cls := "TextPipeline$Row", name := "<init>", desc := "(I)V" } : Jvm.MethodName)) ∈ WS0 := ws0_t (i := 90) (by decide +kernel) (by decide +kernel)
theorem q91 : (Jvm.Cond.instanceMethod ({ cls := "TextPipeline$Row", name := "<init>", desc := "(I)V" } : Jvm.MethodName)) ∈ WS0 := ws0_t (i := 91) (by decide +kernel) (by decide +kernel)
theorem q92 : (Jvm.Cond.code ({ cls := "TextPipeline$Row", name := "<init>", desc := "(I)V" } : Jvm.MethodName) prog_6_method_1_code (2 : Nat) (Option.none : Option Jvm.ClassFile.FieldType)) ∈ WS0 := ws0_t (i := 92) (by decide +kernel) (by decide +kernel)
theorem q93 : (Jvm.Cond.methodLink "TextPipeline$Row" (1 : Nat) ({ cls := "java/lang/Object", name := "<init>", desc := "()V" } : Jvm.MethodName)) ∈ WS0 := ws0_t (i := 93) (by decide +kernel) (by decide +kernel)
theorem q94 : (Jvm.Cond.fieldLink "TextPipeline$Row" (7 : Nat) "TextPipeline$Row" "items" "[I") ∈ WS0 := ws0_t (i := 94) (by decide +kernel) (by decide +kernel)
theorem q95 : (Jvm.Cond.fieldLink "TextPipeline$Row" (13 : Nat) "TextPipeline$Row" "size" "I") ∈ WS0 := ws0_t (i := 95) (by decide +kernel) (by decide +kernel)
theorem q96 : (Jvm.Cond.laysFinal "TextPipeline$Row" "TextPipeline$Row" "items" "[I") ∈ WS0 := ws0_t (i := 96) (by decide +kernel) (by decide +kernel)
theorem q98 : (Jvm.Cond.lays "TextPipeline$Row" "TextPipeline$Row" "size" "I") ∈ WS0 := ws0_t (i := 98) (by decide +kernel) (by decide +kernel)
theorem q102 : (Jvm.Cond.classLink "TextPipeline" (45 : Nat) "TextPipeline$Lines") ∈ WS0 := ws0_t (i := 102) (by decide +kernel) (by decide +kernel)
theorem q103 : (Jvm.Cond.instantiable "TextPipeline$Lines" (1 : Nat)) ∈ WS0 := ws0_t (i := 103) (by decide +kernel) (by decide +kernel)
theorem q104 : (Jvm.Cond.methodLink "TextPipeline" (47 : Nat) ({ cls := "TextPipeline$Lines", name := "<init>", desc := "()V" } : Jvm.MethodName)) ∈ WS0 := ws0_t (i := 104) (by decide +kernel) (by decide +kernel)
theorem q105 : (Jvm.Cond.instanceMethod ({ cls := "TextPipeline$Lines", name := "<init>", desc := "()V" } : Jvm.MethodName)) ∈ WS0 := ws0_t (i := 105) (by decide +kernel) (by decide +kernel)
theorem q106 : (Jvm.Cond.code ({ cls := "TextPipeline$Lines", name := "<init>", desc := "()V" } : Jvm.MethodName) prog_5_method_1_code (1 : Nat) (Option.none : Option Jvm.ClassFile.FieldType)) ∈ WS0 := ws0_t (i := 106) (by decide +kernel) (by decide +kernel)
theorem q107 : (Jvm.Cond.methodLink "TextPipeline$Lines" (3 : Nat) ({ cls := "java/lang/Object", name := "<init>", desc := "()V" } : Jvm.MethodName)) ∈ WS0 := ws0_t (i := 107) (by decide +kernel) (by decide +kernel)
theorem q108 : (Jvm.Cond.fieldLink "TextPipeline$Lines" (9 : Nat) "TextPipeline$Lines" "kinds" "[I") ∈ WS0 := ws0_t (i := 108) (by decide +kernel) (by decide +kernel)
theorem q109 : (Jvm.Cond.laysFinal "TextPipeline$Lines" "TextPipeline$Lines" "kinds" "[I") ∈ WS0 := ws0_t (i := 109) (by decide +kernel) (by decide +kernel)
theorem q112 : (Jvm.Cond.classLink "TextPipeline" (52 : Nat) "TextPipeline$Sides") ∈ WS0 := ws0_t (i := 112) (by decide +kernel) (by decide +kernel)
theorem q113 : (Jvm.Cond.instantiable "TextPipeline$Sides" (3 : Nat)) ∈ WS0 := ws0_t (i := 113) (by decide +kernel) (by decide +kernel)
theorem q114 : (Jvm.Cond.methodLink "TextPipeline" (54 : Nat) ({ cls := "TextPipeline$Sides", name := "<init>", desc := "()V" } : Jvm.MethodName)) ∈ WS0 := ws0_t (i := 114) (by decide +kernel) (by decide +kernel)
theorem q115 : (Jvm.Cond.instanceMethod ({ cls := "TextPipeline$Sides", name := "<init>", desc := "()V" } : Jvm.MethodName)) ∈ WS0 := ws0_t (i := 115) (by decide +kernel) (by decide +kernel)
theorem q116 : (Jvm.Cond.code ({ cls := "TextPipeline$Sides", name := "<init>", desc := "()V" } : Jvm.MethodName) prog_7_method_1_code (1 : Nat) (Option.none : Option Jvm.ClassFile.FieldType)) ∈ WS0 := ws0_t (i := 116) (by decide +kernel) (by decide +kernel)
theorem q117 : (Jvm.Cond.methodLink "TextPipeline$Sides" (3 : Nat) ({ cls := "java/lang/Object", name := "<init>", desc := "()V" } : Jvm.MethodName)) ∈ WS0 := ws0_t (i := 117) (by decide +kernel) (by decide +kernel)
theorem q118 : (Jvm.Cond.fieldLink "TextPipeline$Sides" (9 : Nat) "TextPipeline$Sides" "kinds" "[I") ∈ WS0 := ws0_t (i := 118) (by decide +kernel) (by decide +kernel)
theorem q119 : (Jvm.Cond.fieldLink "TextPipeline$Sides" (15 : Nat) "TextPipeline$Sides" "levels" "[I") ∈ WS0 := ws0_t (i := 119) (by decide +kernel) (by decide +kernel)
theorem q120 : (Jvm.Cond.fieldLink "TextPipeline$Sides" (18 : Nat) "TextPipeline$Sides" "places" "[I") ∈ WS0 := ws0_t (i := 120) (by decide +kernel) (by decide +kernel)
theorem q121 : (Jvm.Cond.laysFinal "TextPipeline$Sides" "TextPipeline$Sides" "kinds" "[I") ∈ WS0 := ws0_t (i := 121) (by decide +kernel) (by decide +kernel)
theorem q123 : (Jvm.Cond.laysFinal "TextPipeline$Sides" "TextPipeline$Sides" "levels" "[I") ∈ WS0 := ws0_t (i := 123) (by decide +kernel) (by decide +kernel)
theorem q125 : (Jvm.Cond.laysFinal "TextPipeline$Sides" "TextPipeline$Sides" "places" "[I") ∈ WS0 := ws0_t (i := 125) (by decide +kernel) (by decide +kernel)
theorem q128 : (Jvm.Cond.fieldLink "TextPipeline" (10 : Nat) "TextPipeline" "table" "LTextPipeline$Table;") ∈ WS0 := ws0_t (i := 128) (by decide +kernel) (by decide +kernel)
theorem q129 : (Jvm.Cond.fieldLink "TextPipeline" (21 : Nat) "TextPipeline" "text" "LTextPipeline$Row;") ∈ WS0 := ws0_t (i := 129) (by decide +kernel) (by decide +kernel)
theorem q130 : (Jvm.Cond.fieldLink "TextPipeline" (25 : Nat) "TextPipeline" "kept" "[LTextPipeline$Row;") ∈ WS0 := ws0_t (i := 130) (by decide +kernel) (by decide +kernel)
theorem q131 : (Jvm.Cond.fieldLink "TextPipeline" (31 : Nat) "TextPipeline" "form" "LTextPipeline$Row;") ∈ WS0 := ws0_t (i := 131) (by decide +kernel) (by decide +kernel)
theorem q132 : (Jvm.Cond.fieldLink "TextPipeline" (34 : Nat) "TextPipeline" "keptForm" "LTextPipeline$Row;") ∈ WS0 := ws0_t (i := 132) (by decide +kernel) (by decide +kernel)
theorem q133 : (Jvm.Cond.fieldLink "TextPipeline" (39 : Nat) "TextPipeline" "numbers" "LTextPipeline$Row;") ∈ WS0 := ws0_t (i := 133) (by decide +kernel) (by decide +kernel)
theorem q134 : (Jvm.Cond.fieldLink "TextPipeline" (42 : Nat) "TextPipeline" "keptNumbers" "LTextPipeline$Row;") ∈ WS0 := ws0_t (i := 134) (by decide +kernel) (by decide +kernel)
theorem q135 : (Jvm.Cond.fieldLink "TextPipeline" (48 : Nat) "TextPipeline" "lines" "LTextPipeline$Lines;") ∈ WS0 := ws0_t (i := 135) (by decide +kernel) (by decide +kernel)
theorem q136 : (Jvm.Cond.fieldLink "TextPipeline" (55 : Nat) "TextPipeline" "sides" "LTextPipeline$Sides;") ∈ WS0 := ws0_t (i := 136) (by decide +kernel) (by decide +kernel)
theorem q137 : (Jvm.Cond.laysFinal "TextPipeline" "TextPipeline" "table" "LTextPipeline$Table;") ∈ WS0 := ws0_t (i := 137) (by decide +kernel) (by decide +kernel)
theorem q139 : (Jvm.Cond.laysFinal "TextPipeline" "TextPipeline" "text" "LTextPipeline$Row;") ∈ WS0 := ws0_t (i := 139) (by decide +kernel) (by decide +kernel)
theorem q141 : (Jvm.Cond.laysFinal "TextPipeline" "TextPipeline" "kept" "[LTextPipeline$Row;") ∈ WS0 := ws0_t (i := 141) (by decide +kernel) (by decide +kernel)
theorem q143 : (Jvm.Cond.laysFinal "TextPipeline" "TextPipeline" "form" "LTextPipeline$Row;") ∈ WS0 := ws0_t (i := 143) (by decide +kernel) (by decide +kernel)
theorem q145 : (Jvm.Cond.laysFinal "TextPipeline" "TextPipeline" "keptForm" "LTextPipeline$Row;") ∈ WS0 := ws0_t (i := 145) (by decide +kernel) (by decide +kernel)
theorem q147 : (Jvm.Cond.laysFinal "TextPipeline" "TextPipeline" "numbers" "LTextPipeline$Row;") ∈ WS0 := ws0_t (i := 147) (by decide +kernel) (by decide +kernel)
theorem q149 : (Jvm.Cond.laysFinal "TextPipeline" "TextPipeline" "keptNumbers" "LTextPipeline$Row;") ∈ WS0 := ws0_t (i := 149) (by decide +kernel) (by decide +kernel)
theorem q151 : (Jvm.Cond.laysFinal "TextPipeline" "TextPipeline" "lines" "LTextPipeline$Lines;") ∈ WS0 := ws0_t (i := 151) (by decide +kernel) (by decide +kernel)
theorem q153 : (Jvm.Cond.laysFinal "TextPipeline" "TextPipeline" "sides" "LTextPipeline$Sides;") ∈ WS0 := ws0_t (i := 153) (by decide +kernel) (by decide +kernel)
theorem q156 : (Jvm.Cond.methodLink "TextPipelineLaw" (83 : Nat) ({ cls := "TextPipeline", name := "wipe", desc := "()V" } : Jvm.MethodName)) ∈ WS0 := ws0_t (i := 156) (by decide +kernel) (by decide +kernel)
theorem q157 : (Jvm.Cond.instanceMethod ({ cls := "TextPipeline", name := "wipe", desc := "()V" } : Jvm.MethodName)) ∈ WS0 := ws0_t (i := 157) (by decide +kernel) (by decide +kernel)
theorem q158 : (Jvm.Cond.selects "TextPipeline" ({ cls := "TextPipeline", name := "wipe", desc := "()V" } : Jvm.MethodName) ({ cls := "TextPipeline", name := "wipe", desc := "()V" } : Jvm.MethodName)) ∈ WS0 := ws0_t (i := 158) (by decide +kernel) (by decide +kernel)
theorem q159 : (Jvm.Cond.code ({ cls := "TextPipeline", name := "wipe", desc := "()V" } : Jvm.MethodName) prog_1_method_5_code (1 : Nat) (Option.none : Option Jvm.ClassFile.FieldType)) ∈ WS0 := ws0_t (i := 159) (by decide +kernel) (by decide +kernel)
theorem q160 : (Jvm.Cond.methodLink "TextPipeline" (107 : Nat) ({ cls := "TextPipeline$Row", name := "cutTo", desc := "(I)V" } : Jvm.MethodName)) ∈ WS0 := ws0_t (i := 160) (by decide +kernel) (by decide +kernel)
theorem q161 : (Jvm.Cond.instanceMethod ({ cls := "TextPipeline$Row", name := "cutTo", desc := "(I)V" } : Jvm.MethodName)) ∈ WS0 := ws0_t (i := 161) (by decide +kernel) (by decide +kernel)
theorem q162 : (Jvm.Cond.selects "TextPipeline$Row" ({ cls := "TextPipeline$Row", name := "cutTo", desc := "(I)V" } : Jvm.MethodName) ({ cls := "TextPipeline$Row", name := "cutTo", desc := "(I)V" } : Jvm.MethodName)) ∈ WS0 := ws0_t (i := 162) (by decide +kernel) (by decide +kernel)
theorem q163 : (Jvm.Cond.code ({ cls := "TextPipeline$Row", name := "cutTo", desc := "(I)V" } : Jvm.MethodName) prog_6_method_7_code (2 : Nat) (Option.none : Option Jvm.ClassFile.FieldType)) ∈ WS0 := ws0_t (i := 163) (by decide +kernel) (by decide +kernel)
theorem q164 : (Jvm.Cond.methodLink "TextPipeline$Row" (21 : Nat) ({ cls := "java/lang/Math", name := "max", desc := "(II)I" } : Jvm.MethodName)) ∈ WS0 := ws0_t (i := 164) (by decide +kernel) (by decide +kernel)
theorem q165 : (Jvm.Cond.static ({ cls := "java/lang/Math", name := "max", desc := "(II)I" } : Jvm.MethodName)) ∈ WS0 := ws0_t (i := 165) (by decide +kernel) (by decide +kernel)
theorem q166 : (Jvm.Cond.code ({ cls := "java/lang/Math", name := "max", desc := "(II)I" } : Jvm.MethodName) prog_16_method_65_code (2 : Nat) (Option.some Jvm.ClassFile.FieldType.int)) ∈ WS0 := ws0_t (i := 166) (by decide +kernel) (by decide +kernel)
theorem q167 : (Jvm.Cond.methodLink "TextPipeline$Row" (27 : Nat) ({ cls := "java/lang/Math", name := "min", desc := "(II)I" } : Jvm.MethodName)) ∈ WS0 := ws0_t (i := 167) (by decide +kernel) (by decide +kernel)
theorem q168 : (Jvm.Cond.static ({ cls := "java/lang/Math", name := "min", desc := "(II)I" } : Jvm.MethodName)) ∈ WS0 := ws0_t (i := 168) (by decide +kernel) (by decide +kernel)
theorem q169 : (Jvm.Cond.code ({ cls := "java/lang/Math", name := "min", desc := "(II)I" } : Jvm.MethodName) prog_16_method_69_code (2 : Nat) (Option.some Jvm.ClassFile.FieldType.int)) ∈ WS0 := ws0_t (i := 169) (by decide +kernel) (by decide +kernel)
theorem q170 : (Jvm.Cond.methodLink "TextPipelineLaw" (97 : Nat) ({ cls := "TextPipeline", name := "clusters", desc := "()I" } : Jvm.MethodName)) ∈ WS0 := ws0_t (i := 170) (by decide +kernel) (by decide +kernel)
theorem q171 : (Jvm.Cond.instanceMethod ({ cls := "TextPipeline", name := "clusters", desc := "()I" } : Jvm.MethodName)) ∈ WS0 := ws0_t (i := 171) (by decide +kernel) (by decide +kernel)
theorem q172 : (Jvm.Cond.selects "TextPipeline" ({ cls := "TextPipeline", name := "clusters", desc := "()I" } : Jvm.MethodName) ({ cls := "TextPipeline", name := "clusters", desc := "()I" } : Jvm.MethodName)) ∈ WS0 := ws0_t (i := 172) (by decide +kernel) (by decide +kernel)
theorem q173 : (Jvm.Cond.code ({ cls := "TextPipeline", name := "clusters", desc := "()I" } : Jvm.MethodName) prog_1_method_9_code (3 : Nat) (Option.some Jvm.ClassFile.FieldType.int)) ∈ WS0 := ws0_t (i := 173) (by decide +kernel) (by decide +kernel)
theorem q174 : (Jvm.Cond.methodLink "TextPipeline" (98 : Nat) ({ cls := "TextPipeline$Row", name := "size", desc := "()I" } : Jvm.MethodName)) ∈ WS0 := ws0_t (i := 174) (by decide +kernel) (by decide +kernel)
theorem q175 : (Jvm.Cond.instanceMethod ({ cls := "TextPipeline$Row", name := "size", desc := "()I" } : Jvm.MethodName)) ∈ WS0 := ws0_t (i := 175) (by decide +kernel) (by decide +kernel)
theorem q176 : (Jvm.Cond.selects "TextPipeline$Row" ({ cls := "TextPipeline$Row", name := "size", desc := "()I" } : Jvm.MethodName) ({ cls := "TextPipeline$Row", name := "size", desc := "()I" } : Jvm.MethodName)) ∈ WS0 := ws0_t (i := 176) (by decide +kernel) (by decide +kernel)
theorem q177 : (Jvm.Cond.code ({ cls := "TextPipeline$Row", name := "size", desc := "()I" } : Jvm.MethodName) prog_6_method_2_code (1 : Nat) (Option.some Jvm.ClassFile.FieldType.int)) ∈ WS0 := ws0_t (i := 177) (by decide +kernel) (by decide +kernel)
theorem q178 : (Jvm.Cond.methodLink "TextPipeline" (134 : Nat) ({ cls := "TextPipeline$Clusters", name := "endsBefore", desc := "(LTextPipeline$Table;LTextPipeline$Row;I)Z" } : Jvm.MethodName)) ∈ WS0 := ws0_t (i := 178) (by decide +kernel) (by decide +kernel)
theorem q179 : (Jvm.Cond.static ({ cls := "TextPipeline$Clusters", name := "endsBefore", desc := "(LTextPipeline$Table;LTextPipeline$Row;I)Z" } : Jvm.MethodName)) ∈ WS0 := ws0_t (i := 179) (by decide +kernel) (by decide +kernel)
theorem q180 : (Jvm.Cond.code ({ cls := "TextPipeline$Clusters", name := "endsBefore", desc := "(LTextPipeline$Table;LTextPipeline$Row;I)Z" } : Jvm.MethodName) prog_2_method_2_code (5 : Nat) (Option.some Jvm.ClassFile.FieldType.boolean)) ∈ WS0 := ws0_t (i := 180) (by decide +kernel) (by decide +kernel)
theorem q181 : (Jvm.Cond.methodLink "TextPipeline$Clusters" (7 : Nat) ({ cls := "TextPipeline$Row", name := "size", desc := "()I" } : Jvm.MethodName)) ∈ WS0 := ws0_t (i := 181) (by decide +kernel) (by decide +kernel)
theorem q182 : (Jvm.Cond.methodLink "TextPipeline$Clusters" (13 : Nat) ({ cls := "TextPipeline$Row", name := "item", desc := "(I)I" } : Jvm.MethodName)) ∈ WS0 := ws0_t (i := 182) (by decide +kernel) (by decide +kernel)
theorem q183 : (Jvm.Cond.instanceMethod ({ cls := "TextPipeline$Row", name := "item", desc := "(I)I" } : Jvm.MethodName)) ∈ WS0 := ws0_t (i := 183) (by decide +kernel) (by decide +kernel)
theorem q184 : (Jvm.Cond.selects "TextPipeline$Row" ({ cls := "TextPipeline$Row", name := "item", desc := "(I)I" } : Jvm.MethodName) ({ cls := "TextPipeline$Row", name := "item", desc := "(I)I" } : Jvm.MethodName)) ∈ WS0 := ws0_t (i := 184) (by decide +kernel) (by decide +kernel)
theorem q185 : (Jvm.Cond.code ({ cls := "TextPipeline$Row", name := "item", desc := "(I)I" } : Jvm.MethodName) prog_6_method_3_code (2 : Nat) (Option.some Jvm.ClassFile.FieldType.int)) ∈ WS0 := ws0_t (i := 185) (by decide +kernel) (by decide +kernel)
theorem q186 : (Jvm.Cond.methodLink "TextPipeline$Clusters" (17 : Nat) ({ cls := "TextPipeline$Table", name := "clusterClass", desc := "(I)I" } : Jvm.MethodName)) ∈ WS0 := ws0_t (i := 186) (by decide +kernel) (by decide +kernel)
theorem q187 : (Jvm.Cond.instanceMethod ({ cls := "TextPipeline$Table", name := "clusterClass", desc := "(I)I" } : Jvm.MethodName)) ∈ WS0 := ws0_t (i := 187) (by decide +kernel) (by decide +kernel)
theorem q188 : (Jvm.Cond.selects "TextPipeline$Table" ({ cls := "TextPipeline$Table", name := "clusterClass", desc := "(I)I" } : Jvm.MethodName) ({ cls := "TextPipeline$Table", name := "clusterClass", desc := "(I)I" } : Jvm.MethodName)) ∈ WS0 := ws0_t (i := 188) (by decide +kernel) (by decide +kernel)
theorem q189 : (Jvm.Cond.code ({ cls := "TextPipeline$Table", name := "clusterClass", desc := "(I)I" } : Jvm.MethodName) prog_8_method_14_code (2 : Nat) (Option.some Jvm.ClassFile.FieldType.int)) ∈ WS0 := ws0_t (i := 189) (by decide +kernel) (by decide +kernel)
theorem q190 : (Jvm.Cond.methodLink "TextPipeline$Clusters" (24 : Nat) ({ cls := "TextPipeline$Clusters", name := "standsAlone", desc := "(I)Z" } : Jvm.MethodName)) ∈ WS0 := ws0_t (i := 190) (by decide +kernel) (by decide +kernel)
theorem q191 : (Jvm.Cond.static ({ cls := "TextPipeline$Clusters", name := "standsAlone", desc := "(I)Z" } : Jvm.MethodName)) ∈ WS0 := ws0_t (i := 191) (by decide +kernel) (by decide +kernel)
theorem q192 : (Jvm.Cond.code ({ cls := "TextPipeline$Clusters", name := "standsAlone", desc := "(I)Z" } : Jvm.MethodName) prog_2_method_3_code (1 : Nat) (Option.some Jvm.ClassFile.FieldType.boolean)) ∈ WS0 := ws0_t (i := 192) (by decide +kernel) (by decide +kernel)
theorem q193 : (Jvm.Cond.methodLink "TextPipeline$Clusters" (28 : Nat) ({ cls := "TextPipeline$Clusters", name := "staysInSyllable", desc := "(II)Z" } : Jvm.MethodName)) ∈ WS0 := ws0_t (i := 193) (by decide +kernel) (by decide +kernel)
theorem q194 : (Jvm.Cond.static ({ cls := "TextPipeline$Clusters", name := "staysInSyllable", desc := "(II)Z" } : Jvm.MethodName)) ∈ WS0 := ws0_t (i := 194) (by decide +kernel) (by decide +kernel)
theorem q195 : (Jvm.Cond.code ({ cls := "TextPipeline$Clusters", name := "staysInSyllable", desc := "(II)Z" } : Jvm.MethodName) prog_2_method_4_code (2 : Nat) (Option.some Jvm.ClassFile.FieldType.boolean)) ∈ WS0 := ws0_t (i := 195) (by decide +kernel) (by decide +kernel)
theorem q196 : (Jvm.Cond.methodLink "TextPipeline$Clusters" (42 : Nat) ({ cls := "TextPipeline$Table", name := "isLead", desc := "(I)Z" } : Jvm.MethodName)) ∈ WS0 := ws0_t (i := 196) (by decide +kernel) (by decide +kernel)
theorem q197 : (Jvm.Cond.static ({ cls := "TextPipeline$Table", name := "isLead", desc := "(I)Z" } : Jvm.MethodName)) ∈ WS0 := ws0_t (i := 197) (by decide +kernel) (by decide +kernel)
theorem q198 : (Jvm.Cond.code ({ cls := "TextPipeline$Table", name := "isLead", desc := "(I)Z" } : Jvm.MethodName) prog_8_method_5_code (1 : Nat) (Option.some Jvm.ClassFile.FieldType.boolean)) ∈ WS0 := ws0_t (i := 198) (by decide +kernel) (by decide +kernel)
theorem q199 : (Jvm.Cond.methodLink "TextPipeline$Clusters" (45 : Nat) ({ cls := "TextPipeline$Table", name := "isVowel", desc := "(I)Z" } : Jvm.MethodName)) ∈ WS0 := ws0_t (i := 199) (by decide +kernel) (by decide +kernel)
theorem q200 : (Jvm.Cond.static ({ cls := "TextPipeline$Table", name := "isVowel", desc := "(I)Z" } : Jvm.MethodName)) ∈ WS0 := ws0_t (i := 200) (by decide +kernel) (by decide +kernel)
theorem q201 : (Jvm.Cond.code ({ cls := "TextPipeline$Table", name := "isVowel", desc := "(I)Z" } : Jvm.MethodName) prog_8_method_6_code (1 : Nat) (Option.some Jvm.ClassFile.FieldType.boolean)) ∈ WS0 := ws0_t (i := 201) (by decide +kernel) (by decide +kernel)
theorem q202 : (Jvm.Cond.methodLink "TextPipeline$Clusters" (48 : Nat) ({ cls := "TextPipeline$Table", name := "isSyllable", desc := "(I)Z" } : Jvm.MethodName)) ∈ WS0 := ws0_t (i := 202) (by decide +kernel) (by decide +kernel)
theorem q203 : (Jvm.Cond.static ({ cls := "TextPipeline$Table", name := "isSyllable", desc := "(I)Z" } : Jvm.MethodName)) ∈ WS0 := ws0_t (i := 203) (by decide +kernel) (by decide +kernel)
theorem q204 : (Jvm.Cond.code ({ cls := "TextPipeline$Table", name := "isSyllable", desc := "(I)Z" } : Jvm.MethodName) prog_8_method_8_code (1 : Nat) (Option.some Jvm.ClassFile.FieldType.boolean)) ∈ WS0 := ws0_t (i := 204) (by decide +kernel) (by decide +kernel)
theorem q205 : (Jvm.Cond.methodLink "TextPipeline$Clusters" (51 : Nat) ({ cls := "TextPipeline$Table", name := "hasTail", desc := "(I)Z" } : Jvm.MethodName)) ∈ WS0 := ws0_t (i := 205) (by decide +kernel) (by decide +kernel)
theorem q206 : (Jvm.Cond.static ({ cls := "TextPipeline$Table", name := "hasTail", desc := "(I)Z" } : Jvm.MethodName)) ∈ WS0 := ws0_t (i := 206) (by decide +kernel) (by decide +kernel)
theorem q207 : (Jvm.Cond.code ({ cls := "TextPipeline$Table", name := "hasTail", desc := "(I)Z" } : Jvm.MethodName) prog_8_method_9_code (1 : Nat) (Option.some Jvm.ClassFile.FieldType.boolean)) ∈ WS0 := ws0_t (i := 207) (by decide +kernel) (by decide +kernel)
theorem q208 : (Jvm.Cond.methodLink "TextPipeline$Table" (50 : Nat) ({ cls := "TextPipeline$Table", name := "isSyllable", desc := "(I)Z" } : Jvm.MethodName)) ∈ WS0 := ws0_t (i := 208) (by decide +kernel) (by decide +kernel)
theorem q209 : (Jvm.Cond.methodLink "TextPipeline$Clusters" (54 : Nat) ({ cls := "TextPipeline$Table", name := "isTail", desc := "(I)Z" } : Jvm.MethodName)) ∈ WS0 := ws0_t (i := 209) (by decide +kernel) (by decide +kernel)
theorem q210 : (Jvm.Cond.static ({ cls := "TextPipeline$Table", name := "isTail", desc := "(I)Z" } : Jvm.MethodName)) ∈ WS0 := ws0_t (i := 210) (by decide +kernel) (by decide +kernel)
theorem q211 : (Jvm.Cond.code ({ cls := "TextPipeline$Table", name := "isTail", desc := "(I)Z" } : Jvm.MethodName) prog_8_method_7_code (1 : Nat) (Option.some Jvm.ClassFile.FieldType.boolean)) ∈ WS0 := ws0_t (i := 211) (by decide +kernel) (by decide +kernel)
theorem q212 : (Jvm.Cond.methodLink "TextPipeline$Clusters" (32 : Nat) ({ cls := "TextPipeline$Clusters", name := "isAttached", desc := "(II)Z" } : Jvm.MethodName)) ∈ WS0 := ws0_t (i := 212) (by decide +kernel) (by decide +kernel)
theorem q213 : (Jvm.Cond.static ({ cls := "TextPipeline$Clusters", name := "isAttached", desc := "(II)Z" } : Jvm.MethodName)) ∈ WS0 := ws0_t (i := 213) (by decide +kernel) (by decide +kernel)
theorem q214 : (Jvm.Cond.code ({ cls := "TextPipeline$Clusters", name := "isAttached", desc := "(II)Z" } : Jvm.MethodName) prog_2_method_5_code (2 : Nat) (Option.some Jvm.ClassFile.FieldType.boolean)) ∈ WS0 := ws0_t (i := 214) (by decide +kernel) (by decide +kernel)
theorem q215 : (Jvm.Cond.methodLink "TextPipeline$Clusters" (35 : Nat) ({ cls := "TextPipeline$Clusters", name := "isJoinedPicture", desc := "(LTextPipeline$Table;LTextPipeline$Row;I)Z" } : Jvm.MethodName)) ∈ WS0 := ws0_t (i := 215) (by decide +kernel) (by decide +kernel)
theorem q216 : (Jvm.Cond.static ({ cls := "TextPipeline$Clusters", name := "isJoinedPicture", desc := "(LTextPipeline$Table;LTextPipeline$Row;I)Z" } : Jvm.MethodName)) ∈ WS0 := ws0_t (i := 216) (by decide +kernel) (by decide +kernel)
theorem q217 : (Jvm.Cond.code ({ cls := "TextPipeline$Clusters", name := "isJoinedPicture", desc := "(LTextPipeline$Table;LTextPipeline$Row;I)Z" } : Jvm.MethodName) prog_2_method_6_code (4 : Nat) (Option.some Jvm.ClassFile.FieldType.boolean)) ∈ WS0 := ws0_t (i := 217) (by decide +kernel) (by decide +kernel)
theorem q218 : (Jvm.Cond.methodLink "TextPipeline$Clusters" (39 : Nat) ({ cls := "TextPipeline$Clusters", name := "isSecondRegion", desc := "(LTextPipeline$Table;LTextPipeline$Row;I)Z" } : Jvm.MethodName)) ∈ WS0 := ws0_t (i := 218) (by decide +kernel) (by decide +kernel)
theorem q219 : (Jvm.Cond.static ({ cls := "TextPipeline$Clusters", name := "isSecondRegion", desc := "(LTextPipeline$Table;LTextPipeline$Row;I)Z" } : Jvm.MethodName)) ∈ WS0 := ws0_t (i := 219) (by decide +kernel) (by decide +kernel)
theorem q220 : (Jvm.Cond.code ({ cls := "TextPipeline$Clusters", name := "isSecondRegion", desc := "(LTextPipeline$Table;LTextPipeline$Row;I)Z" } : Jvm.MethodName) prog_2_method_7_code (4 : Nat) (Option.some Jvm.ClassFile.FieldType.boolean)) ∈ WS0 := ws0_t (i := 220) (by decide +kernel) (by decide +kernel)
theorem q221 : (Jvm.Cond.methodLink "TextPipelineLaw" (111 : Nat) ({ cls := "TextPipeline", name := "key", desc := "()I" } : Jvm.MethodName)) ∈ WS0 := ws0_t (i := 221) (by decide +kernel) (by decide +kernel)
theorem q222 : (Jvm.Cond.instanceMethod ({ cls := "TextPipeline", name := "key", desc := "()I" } : Jvm.MethodName)) ∈ WS0 := ws0_t (i := 222) (by decide +kernel) (by decide +kernel)
theorem q223 : (Jvm.Cond.selects "TextPipeline" ({ cls := "TextPipeline", name := "key", desc := "()I" } : Jvm.MethodName) ({ cls := "TextPipeline", name := "key", desc := "()I" } : Jvm.MethodName)) ∈ WS0 := ws0_t (i := 223) (by decide +kernel) (by decide +kernel)
theorem q224 : (Jvm.Cond.code ({ cls := "TextPipeline", name := "key", desc := "()I" } : Jvm.MethodName) prog_1_method_13_code (1 : Nat) (Option.some Jvm.ClassFile.FieldType.int)) ∈ WS0 := ws0_t (i := 224) (by decide +kernel) (by decide +kernel)
theorem q225 : (Jvm.Cond.methodLink "TextPipeline" (157 : Nat) ({ cls := "TextPipeline", name := "fillOwnKey", desc := "()V" } : Jvm.MethodName)) ∈ WS0 := ws0_t (i := 225) (by decide +kernel) (by decide +kernel)
theorem q227 : (Jvm.Cond.instanceMethod ({ cls := "TextPipeline", name := "fillOwnKey", desc := "()V" } : Jvm.MethodName)) ∈ WS0 := ws0_t (i := 227) (by decide +kernel) (by decide +kernel)
theorem q228 : (Jvm.Cond.code ({ cls := "TextPipeline", name := "fillOwnKey", desc := "()V" } : Jvm.MethodName) prog_1_method_18_code (1 : Nat) (Option.none : Option Jvm.ClassFile.FieldType)) ∈ WS0 := ws0_t (i := 228) (by decide +kernel) (by decide +kernel)
theorem q229 : (Jvm.Cond.methodLink "TextPipeline" (110 : Nat) ({ cls := "TextPipeline$Forms", name := "fillParted", desc := "(LTextPipeline$Table;LTextPipeline$Row;LTextPipeline$Row;)V" } : Jvm.MethodName)) ∈ WS0 := ws0_t (i := 229) (by decide +kernel) (by decide +kernel)
theorem q230 : (Jvm.Cond.static ({ cls := "TextPipeline$Forms", name := "fillParted", desc := "(LTextPipeline$Table;LTextPipeline$Row;LTextPipeline$Row;)V" } : Jvm.MethodName)) ∈ WS0 := ws0_t (i := 230) (by decide +kernel) (by decide +kernel)
theorem q231 : (Jvm.Cond.code ({ cls := "TextPipeline$Forms", name := "fillParted", desc := "(LTextPipeline$Table;LTextPipeline$Row;LTextPipeline$Row;)V" } : Jvm.MethodName) prog_3_method_2_code (6 : Nat) (Option.none : Option Jvm.ClassFile.FieldType)) ∈ WS0 := ws0_t (i := 231) (by decide +kernel) (by decide +kernel)
theorem q232 : (Jvm.Cond.methodLink "TextPipeline$Forms" (11 : Nat) ({ cls := "TextPipeline$Row", name := "cutTo", desc := "(I)V" } : Jvm.MethodName)) ∈ WS0 := ws0_t (i := 232) (by decide +kernel) (by decide +kernel)
theorem q233 : (Jvm.Cond.methodLink "TextPipeline$Forms" (17 : Nat) ({ cls := "TextPipeline$Row", name := "size", desc := "()I" } : Jvm.MethodName)) ∈ WS0 := ws0_t (i := 233) (by decide +kernel) (by decide +kernel)
theorem q234 : (Jvm.Cond.methodLink "TextPipeline$Forms" (21 : Nat) ({ cls := "TextPipeline$Row", name := "item", desc := "(I)I" } : Jvm.MethodName)) ∈ WS0 := ws0_t (i := 234) (by decide +kernel) (by decide +kernel)
theorem q235 : (Jvm.Cond.methodLink "TextPipeline$Forms" (25 : Nat) ({ cls := "TextPipeline$Table", name := "partsOf", desc := "(I)I" } : Jvm.MethodName)) ∈ WS0 := ws0_t (i := 235) (by decide +kernel) (by decide +kernel)
theorem q236 : (Jvm.Cond.instanceMethod ({ cls := "TextPipeline$Table", name := "partsOf", desc := "(I)I" } : Jvm.MethodName)) ∈ WS0 := ws0_t (i := 236) (by decide +kernel) (by decide +kernel)
theorem q237 : (Jvm.Cond.selects "TextPipeline$Table" ({ cls := "TextPipeline$Table", name := "partsOf", desc := "(I)I" } : Jvm.MethodName) ({ cls := "TextPipeline$Table", name := "partsOf", desc := "(I)I" } : Jvm.MethodName)) ∈ WS0 := ws0_t (i := 237) (by decide +kernel) (by decide +kernel)
theorem q238 : (Jvm.Cond.code ({ cls := "TextPipeline$Table", name := "partsOf", desc := "(I)I" } : Jvm.MethodName) prog_8_method_18_code (2 : Nat) (Option.some Jvm.ClassFile.FieldType.int)) ∈ WS0 := ws0_t (i := 238) (by decide +kernel) (by decide +kernel)
theorem q239 : (Jvm.Cond.methodLink "TextPipeline$Forms" (28 : Nat) ({ cls := "TextPipeline$Table", name := "partOf", desc := "(II)I" } : Jvm.MethodName)) ∈ WS0 := ws0_t (i := 239) (by decide +kernel) (by decide +kernel)
theorem q240 : (Jvm.Cond.methodLink "TextPipeline$Forms" (32 : Nat) ({ cls := "TextPipeline$Forms", name := "insertByRank", desc := "(LTextPipeline$Table;LTextPipeline$Row;I)V" } : Jvm.MethodName)) ∈ WS0 := ws0_t (i := 240) (by decide +kernel) (by decide +kernel)
theorem q241 : (Jvm.Cond.static ({ cls := "TextPipeline$Forms", name := "insertByRank", desc := "(LTextPipeline$Table;LTextPipeline$Row;I)V" } : Jvm.MethodName)) ∈ WS0 := ws0_t (i := 241) (by decide +kernel) (by decide +kernel)
theorem q242 : (Jvm.Cond.code ({ cls := "TextPipeline$Forms", name := "insertByRank", desc := "(LTextPipeline$Table;LTextPipeline$Row;I)V" } : Jvm.MethodName) prog_3_method_4_code (5 : Nat) (Option.none : Option Jvm.ClassFile.FieldType)) ∈ WS0 := ws0_t (i := 242) (by decide +kernel) (by decide +kernel)
theorem q243 : (Jvm.Cond.methodLink "TextPipeline$Forms" (38 : Nat) ({ cls := "TextPipeline$Table", name := "rank", desc := "(I)I" } : Jvm.MethodName)) ∈ WS0 := ws0_t (i := 243) (by decide +kernel) (by decide +kernel)
theorem q244 : (Jvm.Cond.instanceMethod ({ cls := "TextPipeline$Table", name := "rank", desc := "(I)I" } : Jvm.MethodName)) ∈ WS0 := ws0_t (i := 244) (by decide +kernel) (by decide +kernel)
theorem q245 : (Jvm.Cond.selects "TextPipeline$Table" ({ cls := "TextPipeline$Table", name := "rank", desc := "(I)I" } : Jvm.MethodName) ({ cls := "TextPipeline$Table", name := "rank", desc := "(I)I" } : Jvm.MethodName)) ∈ WS0 := ws0_t (i := 245) (by decide +kernel) (by decide +kernel)
theorem q246 : (Jvm.Cond.code ({ cls := "TextPipeline$Table", name := "rank", desc := "(I)I" } : Jvm.MethodName) prog_8_method_13_code (2 : Nat) (Option.some Jvm.ClassFile.FieldType.int)) ∈ WS0 := ws0_t (i := 246) (by decide +kernel) (by decide +kernel)
theorem q247 : (Jvm.Cond.methodLink "TextPipeline$Forms" (52 : Nat) ({ cls := "TextPipeline$Row", name := "insert", desc := "(II)V" } : Jvm.MethodName)) ∈ WS0 := ws0_t (i := 247) (by decide +kernel) (by decide +kernel)
theorem q248 : (Jvm.Cond.instanceMethod ({ cls := "TextPipeline$Row", name := "insert", desc := "(II)V" } : Jvm.MethodName)) ∈ WS0 := ws0_t (i := 248) (by decide +kernel) (by decide +kernel)
theorem q249 : (Jvm.Cond.selects "TextPipeline$Row" ({ cls := "TextPipeline$Row", name := "insert", desc := "(II)V" } : Jvm.MethodName) ({ cls := "TextPipeline$Row", name := "insert", desc := "(II)V" } : Jvm.MethodName)) ∈ WS0 := ws0_t (i := 249) (by decide +kernel) (by decide +kernel)
theorem q250 : (Jvm.Cond.code ({ cls := "TextPipeline$Row", name := "insert", desc := "(II)V" } : Jvm.MethodName) prog_6_method_6_code (4 : Nat) (Option.none : Option Jvm.ClassFile.FieldType)) ∈ WS0 := ws0_t (i := 250) (by decide +kernel) (by decide +kernel)
theorem q251 : (Jvm.Cond.methodLink "TextPipeline" (168 : Nat) ({ cls := "TextPipeline$Keys", name := "fill", desc := "(LTextPipeline$Table;LTextPipeline$Row;LTextPipeline$Row;)V" } : Jvm.MethodName)) ∈ WS0 := ws0_t (i := 251) (by decide +kernel) (by decide +kernel)
theorem q252 : (Jvm.Cond.static ({ cls := "TextPipeline$Keys", name := "fill", desc := "(LTextPipeline$Table;LTextPipeline$Row;LTextPipeline$Row;)V" } : Jvm.MethodName)) ∈ WS0 := ws0_t (i := 252) (by decide +kernel) (by decide +kernel)
theorem q253 : (Jvm.Cond.code ({ cls := "TextPipeline$Keys", name := "fill", desc := "(LTextPipeline$Table;LTextPipeline$Row;LTextPipeline$Row;)V" } : Jvm.MethodName) prog_4_method_2_code (6 : Nat) (Option.none : Option Jvm.ClassFile.FieldType)) ∈ WS0 := ws0_t (i := 253) (by decide +kernel) (by decide +kernel)
theorem q254 : (Jvm.Cond.methodLink "TextPipeline$Keys" (11 : Nat) ({ cls := "TextPipeline$Row", name := "cutTo", desc := "(I)V" } : Jvm.MethodName)) ∈ WS0 := ws0_t (i := 254) (by decide +kernel) (by decide +kernel)
theorem q255 : (Jvm.Cond.methodLink "TextPipeline$Keys" (17 : Nat) ({ cls := "TextPipeline$Row", name := "add", desc := "(I)V" } : Jvm.MethodName)) ∈ WS0 := ws0_t (i := 255) (by decide +kernel) (by decide +kernel)
theorem q256 : (Jvm.Cond.instanceMethod ({ cls := "TextPipeline$Row", name := "add", desc := "(I)V" } : Jvm.MethodName)) ∈ WS0 := ws0_t (i := 256) (by decide +kernel) (by decide +kernel)
theorem q257 : (Jvm.Cond.selects "TextPipeline$Row" ({ cls := "TextPipeline$Row", name := "add", desc := "(I)V" } : Jvm.MethodName) ({ cls := "TextPipeline$Row", name := "add", desc := "(I)V" } : Jvm.MethodName)) ∈ WS0 := ws0_t (i := 257) (by decide +kernel) (by decide +kernel)
theorem q258 : (Jvm.Cond.code ({ cls := "TextPipeline$Row", name := "add", desc := "(I)V" } : Jvm.MethodName) prog_6_method_5_code (2 : Nat) (Option.none : Option Jvm.ClassFile.FieldType)) ∈ WS0 := ws0_t (i := 258) (by decide +kernel) (by decide +kernel)
theorem q259 : (Jvm.Cond.methodLink "TextPipeline$Row" (17 : Nat) ({ cls := "TextPipeline$Row", name := "insert", desc := "(II)V" } : Jvm.MethodName)) ∈ WS0 := ws0_t (i := 259) (by decide +kernel) (by decide +kernel)
theorem q260 : (Jvm.Cond.methodLink "TextPipeline$Keys" (20 : Nat) ({ cls := "TextPipeline$Row", name := "size", desc := "()I" } : Jvm.MethodName)) ∈ WS0 := ws0_t (i := 260) (by decide +kernel) (by decide +kernel)
theorem q261 : (Jvm.Cond.methodLink "TextPipeline$Keys" (24 : Nat) ({ cls := "TextPipeline$Row", name := "item", desc := "(I)I" } : Jvm.MethodName)) ∈ WS0 := ws0_t (i := 261) (by decide +kernel) (by decide +kernel)
theorem q262 : (Jvm.Cond.methodLink "TextPipeline$Keys" (28 : Nat) ({ cls := "TextPipeline$Table", name := "weight", desc := "(II)I" } : Jvm.MethodName)) ∈ WS0 := ws0_t (i := 262) (by decide +kernel) (by decide +kernel)
theorem q263 : (Jvm.Cond.instanceMethod ({ cls := "TextPipeline$Table", name := "weight", desc := "(II)I" } : Jvm.MethodName)) ∈ WS0 := ws0_t (i := 263) (by decide +kernel) (by decide +kernel)
theorem q264 : (Jvm.Cond.selects "TextPipeline$Table" ({ cls := "TextPipeline$Table", name := "weight", desc := "(II)I" } : Jvm.MethodName) ({ cls := "TextPipeline$Table", name := "weight", desc := "(II)I" } : Jvm.MethodName)) ∈ WS0 := ws0_t (i := 264) (by decide +kernel) (by decide +kernel)
theorem q265 : (Jvm.Cond.code ({ cls := "TextPipeline$Table", name := "weight", desc := "(II)I" } : Jvm.MethodName) prog_8_method_17_code (3 : Nat) (Option.some Jvm.ClassFile.FieldType.int)) ∈ WS0 := ws0_t (i := 265) (by decide +kernel) (by decide +kernel)
theorem q266 : (Jvm.Cond.methodLink "TextPipelineLaw" (65 : Nat) ({ cls := "TextPipelineLaw", name := "set", desc := "(LTextPipeline;III)I" } : Jvm.MethodName)) ∈ WS0 := ws0_t (i := 266) (by decide +kernel) (by decide +kernel)
theorem q267 : (Jvm.Cond.static ({ cls := "TextPipelineLaw", name := "set", desc := "(LTextPipeline;III)I" } : Jvm.MethodName)) ∈ WS0 := ws0_t (i := 267) (by decide +kernel) (by decide +kernel)
theorem q269 : (Jvm.Cond.classLink "TextPipelineLaw" (13 : Nat) "java/lang/IllegalArgumentException") ∈ WS0 := ws0_t (i := 269) (by decide +kernel) (by decide +kernel)
theorem q270 : (Jvm.Cond.methodLink "TextPipelineLaw" (7 : Nat) ({ cls := "TextPipeline", name := "set", desc := "(III)V" } : Jvm.MethodName)) ∈ WS0 := ws0_t (i := 270) (by decide +kernel) (by decide +kernel)
theorem q271 : (Jvm.Cond.instanceMethod ({ cls := "TextPipeline", name := "set", desc := "(III)V" } : Jvm.MethodName)) ∈ WS0 := ws0_t (i := 271) (by decide +kernel) (by decide +kernel)
theorem q272 : (Jvm.Cond.selects "TextPipeline" ({ cls := "TextPipeline", name := "set", desc := "(III)V" } : Jvm.MethodName) ({ cls := "TextPipeline", name := "set", desc := "(III)V" } : Jvm.MethodName)) ∈ WS0 := ws0_t (i := 272) (by decide +kernel) (by decide +kernel)
theorem q273 : (Jvm.Cond.code ({ cls := "TextPipeline", name := "set", desc := "(III)V" } : Jvm.MethodName) prog_1_method_2_code (4 : Nat) (Option.none : Option Jvm.ClassFile.FieldType)) ∈ WS0 := ws0_t (i := 273) (by decide +kernel) (by decide +kernel)
theorem q274 : (Jvm.Cond.methodLink "TextPipeline" (59 : Nat) ({ cls := "TextPipeline$Table", name := "isSettable", desc := "(I)Z" } : Jvm.MethodName)) ∈ WS0 := ws0_t (i := 274) (by decide +kernel) (by decide +kernel)
theorem q275 : (Jvm.Cond.static ({ cls := "TextPipeline$Table", name := "isSettable", desc := "(I)Z" } : Jvm.MethodName)) ∈ WS0 := ws0_t (i := 275) (by decide +kernel) (by decide +kernel)
theorem q276 : (Jvm.Cond.code ({ cls := "TextPipeline$Table", name := "isSettable", desc := "(I)Z" } : Jvm.MethodName) prog_8_method_2_code (1 : Nat) (Option.some Jvm.ClassFile.FieldType.boolean)) ∈ WS0 := ws0_t (i := 276) (by decide +kernel) (by decide +kernel)
theorem q277 : (Jvm.Cond.methodLink "TextPipeline" (63 : Nat) ({ cls := "TextPipeline$Table", name := "isInRange", desc := "(II)Z" } : Jvm.MethodName)) ∈ WS0 := ws0_t (i := 277) (by decide +kernel) (by decide +kernel)
theorem q278 : (Jvm.Cond.static ({ cls := "TextPipeline$Table", name := "isInRange", desc := "(II)Z" } : Jvm.MethodName)) ∈ WS0 := ws0_t (i := 278) (by decide +kernel) (by decide +kernel)
theorem q279 : (Jvm.Cond.code ({ cls := "TextPipeline$Table", name := "isInRange", desc := "(II)Z" } : Jvm.MethodName) prog_8_method_3_code (2 : Nat) (Option.some Jvm.ClassFile.FieldType.boolean)) ∈ WS0 := ws0_t (i := 279) (by decide +kernel) (by decide +kernel)
theorem q280 : (Jvm.Cond.classLink "TextPipeline" (67 : Nat) "java/lang/IllegalArgumentException") ∈ WS0 := ws0_t (i := 280) (by decide +kernel) (by decide +kernel)
theorem q281 : (Jvm.Cond.instantiable "java/lang/IllegalArgumentException" (6 : Nat)) ∈ WS0 := ws0_t (i := 281) (by decide +kernel) (by decide +kernel)
theorem q289 : (Jvm.Cond.selects "java/lang/IllegalArgumentException" ({ cls := "java/lang/Throwable", name := "fillInStackTrace", desc := "(I)Ljava/lang/Throwable;" } : Jvm.MethodName) ({ cls := "java/lang/Throwable", name := "fillInStackTrace", desc := "(I)Ljava/lang/Throwable;" } : Jvm.MethodName)) ∈ WS0 := ws0_t (i := 289) (by decide +kernel) (by decide +kernel)
theorem q290 : (Jvm.Cond.selects "java/lang/IllegalArgumentException" ({ cls := "java/lang/Throwable", name := "fillInStackTrace", desc := "()Ljava/lang/Throwable;" } : Jvm.MethodName) ({ cls := "java/lang/Throwable", name := "fillInStackTrace", desc := "()Ljava/lang/Throwable;" } : Jvm.MethodName)) ∈ WS0 := ws0_t (i := 290) (by decide +kernel) (by decide +kernel)
theorem q291 : (Jvm.Cond.lays "java/lang/IllegalArgumentException" "java/lang/Throwable" "cause" "Ljava/lang/Throwable;") ∈ WS0 := ws0_t (i := 291) (by decide +kernel) (by decide +kernel)
theorem q292 : (Jvm.Cond.lays "java/lang/Throwable" "java/lang/Throwable" "cause" "Ljava/lang/Throwable;") ∈ WS0 := ws0_t (i := 292) (by decide +kernel) (by decide +kernel)
theorem q293 : (Jvm.Cond.lays "java/lang/IllegalArgumentException" "java/lang/Throwable" "stackTrace" "[Ljava/lang/StackTraceElement;") ∈ WS0 := ws0_t (i := 293) (by decide +kernel) (by decide +kernel)
theorem q294 : (Jvm.Cond.lays "java/lang/Throwable" "java/lang/Throwable" "stackTrace" "[Ljava/lang/StackTraceElement;") ∈ WS0 := ws0_t (i := 294) (by decide +kernel) (by decide +kernel)
theorem q295 : (Jvm.Cond.lays "java/lang/IllegalArgumentException" "java/lang/Throwable" "suppressedExceptions" "Ljava/util/List;") ∈ WS0 := ws0_t (i := 295) (by decide +kernel) (by decide +kernel)
theorem q296 : (Jvm.Cond.lays "java/lang/Throwable" "java/lang/Throwable" "suppressedExceptions" "Ljava/util/List;") ∈ WS0 := ws0_t (i := 296) (by decide +kernel) (by decide +kernel)
theorem q297 : (Jvm.Cond.lays "java/lang/IllegalArgumentException" "java/lang/Throwable" "detailMessage" "Ljava/lang/String;") ∈ WS0 := ws0_t (i := 297) (by decide +kernel) (by decide +kernel)
theorem q298 : (Jvm.Cond.lays "java/lang/Throwable" "java/lang/Throwable" "detailMessage" "Ljava/lang/String;") ∈ WS0 := ws0_t (i := 298) (by decide +kernel) (by decide +kernel)
theorem q299 : (Jvm.Cond.lays "java/lang/IllegalArgumentException" "java/lang/Throwable" "backtrace" "Ljava/lang/Object;") ∈ WS0 := ws0_t (i := 299) (by decide +kernel) (by decide +kernel)
theorem q300 : (Jvm.Cond.lays "java/lang/Throwable" "java/lang/Throwable" "backtrace" "Ljava/lang/Object;") ∈ WS0 := ws0_t (i := 300) (by decide +kernel) (by decide +kernel)
theorem q301 : (Jvm.Cond.fieldLink "java/lang/Throwable" (198 : Nat) "java/lang/Throwable" "backtrace" "Ljava/lang/Object;") ∈ WS0 := ws0_t (i := 301) (by decide +kernel) (by decide +kernel)
theorem q303 : (Jvm.Cond.instanceMethod ({ cls := "java/lang/Throwable", name := "<init>", desc := "()V" } : Jvm.MethodName)) ∈ WS0 := ws0_t (i := 303) (by decide +kernel) (by decide +kernel)
theorem q304 : (Jvm.Cond.code ({ cls := "java/lang/Throwable", name := "<init>", desc := "()V" } : Jvm.MethodName) prog_19_method_1_code (1 : Nat) (Option.none : Option Jvm.ClassFile.FieldType)) ∈ WS0 := ws0_t (i := 304) (by decide +kernel) (by decide +kernel)
theorem q305 : (Jvm.Cond.methodLink "java/lang/Throwable" (1 : Nat) ({ cls := "java/lang/Object", name := "<init>", desc := "()V" } : Jvm.MethodName)) ∈ WS0 := ws0_t (i := 305) (by decide +kernel) (by decide +kernel)
theorem q306 : (Jvm.Cond.fieldLink "java/lang/Throwable" (13 : Nat) "java/lang/Throwable" "UNASSIGNED_STACK" "[Ljava/lang/StackTraceElement;") ∈ WS0 := ws0_t (i := 306) (by decide +kernel) (by decide +kernel)
theorem q308 : (Jvm.Cond.fieldLink "java/lang/Throwable" (20 : Nat) "java/lang/Throwable" "SUPPRESSED_SENTINEL" "Ljava/util/List;") ∈ WS0 := ws0_t (i := 308) (by decide +kernel) (by decide +kernel)
theorem q310 : (Jvm.Cond.methodLink "java/lang/Throwable" (27 : Nat) ({ cls := "java/lang/Throwable", name := "fillInStackTrace", desc := "()Ljava/lang/Throwable;" } : Jvm.MethodName)) ∈ WS0 := ws0_t (i := 310) (by decide +kernel) (by decide +kernel)
theorem q311 : (Jvm.Cond.instanceMethod ({ cls := "java/lang/Throwable", name := "fillInStackTrace", desc := "()Ljava/lang/Throwable;" } : Jvm.MethodName)) ∈ WS0 := ws0_t (i := 311) (by decide +kernel) (by decide +kernel)
theorem q313 : (Jvm.Cond.selects "java/lang/IllegalStateException" ({ cls := "java/lang/Throwable", name := "fillInStackTrace", desc := "()Ljava/lang/Throwable;" } : Jvm.MethodName) ({ cls := "java/lang/Throwable", name := "fillInStackTrace", desc := "()Ljava/lang/Throwable;" } : Jvm.MethodName)) ∈ WS0 := ws0_t (i := 313) (by decide +kernel) (by decide +kernel)
theorem q314 : (Jvm.Cond.selects "java/lang/IndexOutOfBoundsException" ({ cls := "java/lang/Throwable", name := "fillInStackTrace", desc := "()Ljava/lang/Throwable;" } : Jvm.MethodName) ({ cls := "java/lang/Throwable", name := "fillInStackTrace", desc := "()Ljava/lang/Throwable;" } : Jvm.MethodName)) ∈ WS0 := ws0_t (i := 314) (by decide +kernel) (by decide +kernel)
theorem q316 : (Jvm.Cond.methodLink "java/lang/Throwable" (202 : Nat) ({ cls := "java/lang/Throwable", name := "fillInStackTrace", desc := "(I)Ljava/lang/Throwable;" } : Jvm.MethodName)) ∈ WS0 := ws0_t (i := 316) (by decide +kernel) (by decide +kernel)
theorem q318 : (Jvm.Cond.instanceMethod ({ cls := "java/lang/Throwable", name := "fillInStackTrace", desc := "(I)Ljava/lang/Throwable;" } : Jvm.MethodName)) ∈ WS0 := ws0_t (i := 318) (by decide +kernel) (by decide +kernel)
theorem q319 : (Jvm.Cond.instantiable "java/lang/Throwable" (6 : Nat)) ∈ WS0 := ws0_t (i := 319) (by decide +kernel) (by decide +kernel)
theorem q322 : (Jvm.Cond.methodLink "TextPipeline" (71 : Nat) ({ cls := "java/lang/IllegalArgumentException", name := "<init>", desc := "(Ljava/lang/String;)V" } : Jvm.MethodName)) ∈ WS0 := ws0_t (i := 322) (by decide +kernel) (by decide +kernel)
theorem q323 : (Jvm.Cond.instanceMethod ({ cls := "java/lang/IllegalArgumentException", name := "<init>", desc := "(Ljava/lang/String;)V" } : Jvm.MethodName)) ∈ WS0 := ws0_t (i := 323) (by decide +kernel) (by decide +kernel)
theorem q324 : (Jvm.Cond.code ({ cls := "java/lang/IllegalArgumentException", name := "<init>", desc := "(Ljava/lang/String;)V" } : Jvm.MethodName) prog_12_method_2_code (2 : Nat) (Option.none : Option Jvm.ClassFile.FieldType)) ∈ WS0 := ws0_t (i := 324) (by decide +kernel) (by decide +kernel)
theorem q325 : (Jvm.Cond.methodLink "java/lang/IllegalArgumentException" (7 : Nat) ({ cls := "java/lang/RuntimeException", name := "<init>", desc := "(Ljava/lang/String;)V" } : Jvm.MethodName)) ∈ WS0 := ws0_t (i := 325) (by decide +kernel) (by decide +kernel)
theorem q326 : (Jvm.Cond.instanceMethod ({ cls := "java/lang/RuntimeException", name := "<init>", desc := "(Ljava/lang/String;)V" } : Jvm.MethodName)) ∈ WS0 := ws0_t (i := 326) (by decide +kernel) (by decide +kernel)
theorem q327 : (Jvm.Cond.code ({ cls := "java/lang/RuntimeException", name := "<init>", desc := "(Ljava/lang/String;)V" } : Jvm.MethodName) prog_17_method_2_code (2 : Nat) (Option.none : Option Jvm.ClassFile.FieldType)) ∈ WS0 := ws0_t (i := 327) (by decide +kernel) (by decide +kernel)
theorem q328 : (Jvm.Cond.methodLink "java/lang/RuntimeException" (7 : Nat) ({ cls := "java/lang/Exception", name := "<init>", desc := "(Ljava/lang/String;)V" } : Jvm.MethodName)) ∈ WS0 := ws0_t (i := 328) (by decide +kernel) (by decide +kernel)
theorem q329 : (Jvm.Cond.instanceMethod ({ cls := "java/lang/Exception", name := "<init>", desc := "(Ljava/lang/String;)V" } : Jvm.MethodName)) ∈ WS0 := ws0_t (i := 329) (by decide +kernel) (by decide +kernel)
theorem q330 : (Jvm.Cond.code ({ cls := "java/lang/Exception", name := "<init>", desc := "(Ljava/lang/String;)V" } : Jvm.MethodName) prog_11_method_2_code (2 : Nat) (Option.none : Option Jvm.ClassFile.FieldType)) ∈ WS0 := ws0_t (i := 330) (by decide +kernel) (by decide +kernel)
theorem q331 : (Jvm.Cond.methodLink "java/lang/Exception" (7 : Nat) ({ cls := "java/lang/Throwable", name := "<init>", desc := "(Ljava/lang/String;)V" } : Jvm.MethodName)) ∈ WS0 := ws0_t (i := 331) (by decide +kernel) (by decide +kernel)
theorem q332 : (Jvm.Cond.instanceMethod ({ cls := "java/lang/Throwable", name := "<init>", desc := "(Ljava/lang/String;)V" } : Jvm.MethodName)) ∈ WS0 := ws0_t (i := 332) (by decide +kernel) (by decide +kernel)
theorem q333 : (Jvm.Cond.code ({ cls := "java/lang/Throwable", name := "<init>", desc := "(Ljava/lang/String;)V" } : Jvm.MethodName) prog_19_method_2_code (2 : Nat) (Option.none : Option Jvm.ClassFile.FieldType)) ∈ WS0 := ws0_t (i := 333) (by decide +kernel) (by decide +kernel)
theorem q334 : (Jvm.Cond.fieldLink "java/lang/Throwable" (198 : Nat) "java/lang/Throwable" "backtrace" "Ljava/lang/Object;") ∈ WS0 := ws0_t (i := 334) (by decide +kernel) (by decide +kernel)
theorem q335 : (Jvm.Cond.fieldLink "java/lang/Throwable" (31 : Nat) "java/lang/Throwable" "detailMessage" "Ljava/lang/String;") ∈ WS0 := ws0_t (i := 335) (by decide +kernel) (by decide +kernel)
theorem q336 : (Jvm.Cond.fieldLink "java/lang/Throwable" (7 : Nat) "java/lang/Throwable" "cause" "Ljava/lang/Throwable;") ∈ WS0 := ws0_t (i := 336) (by decide +kernel) (by decide +kernel)
theorem q337 : (Jvm.Cond.fieldLink "java/lang/Throwable" (17 : Nat) "java/lang/Throwable" "stackTrace" "[Ljava/lang/StackTraceElement;") ∈ WS0 := ws0_t (i := 337) (by decide +kernel) (by decide +kernel)
theorem q338 : (Jvm.Cond.fieldLink "java/lang/Throwable" (24 : Nat) "java/lang/Throwable" "suppressedExceptions" "Ljava/util/List;") ∈ WS0 := ws0_t (i := 338) (by decide +kernel) (by decide +kernel)
theorem q343 : (Jvm.Cond.lays "java/lang/IllegalArgumentException" "java/lang/Throwable" "depth" "I") ∈ WS0 := ws0_t (i := 343) (by decide +kernel) (by decide +kernel)
theorem q347 : (Jvm.Cond.arrayClass Jvm.ClassFile.FieldType.byte) ∈ WS0 := ws0_t (i := 347) (by decide +kernel) (by decide +kernel)
theorem q348 : (Jvm.Cond.methodLink "TextPipeline" (74 : Nat) ({ cls := "TextPipeline$Table", name := "change", desc := "(III)V" } : Jvm.MethodName)) ∈ WS0 := ws0_t (i := 348) (by decide +kernel) (by decide +kernel)
theorem q349 : (Jvm.Cond.instanceMethod ({ cls := "TextPipeline$Table", name := "change", desc := "(III)V" } : Jvm.MethodName)) ∈ WS0 := ws0_t (i := 349) (by decide +kernel) (by decide +kernel)
theorem q350 : (Jvm.Cond.selects "TextPipeline$Table" ({ cls := "TextPipeline$Table", name := "change", desc := "(III)V" } : Jvm.MethodName) ({ cls := "TextPipeline$Table", name := "change", desc := "(III)V" } : Jvm.MethodName)) ∈ WS0 := ws0_t (i := 350) (by decide +kernel) (by decide +kernel)
theorem q351 : (Jvm.Cond.code ({ cls := "TextPipeline$Table", name := "change", desc := "(III)V" } : Jvm.MethodName) prog_8_method_10_code (4 : Nat) (Option.none : Option Jvm.ClassFile.FieldType)) ∈ WS0 := ws0_t (i := 351) (by decide +kernel) (by decide +kernel)
theorem q352 : (Jvm.Cond.methodLink "TextPipelineLaw" (75 : Nat) ({ cls := "TextPipelineLaw", name := "part", desc := "(LTextPipeline;IIIZ)I" } : Jvm.MethodName)) ∈ WS0 := ws0_t (i := 352) (by decide +kernel) (by decide +kernel)
theorem q353 : (Jvm.Cond.static ({ cls := "TextPipelineLaw", name := "part", desc := "(LTextPipeline;IIIZ)I" } : Jvm.MethodName)) ∈ WS0 := ws0_t (i := 353) (by decide +kernel) (by decide +kernel)
theorem q355 : (Jvm.Cond.classLink "TextPipelineLaw" (19 : Nat) "java/lang/IllegalStateException") ∈ WS0 := ws0_t (i := 355) (by decide +kernel) (by decide +kernel)
theorem q356 : (Jvm.Cond.methodLink "TextPipelineLaw" (15 : Nat) ({ cls := "TextPipeline", name := "part", desc := "(IIIZ)V" } : Jvm.MethodName)) ∈ WS0 := ws0_t (i := 356) (by decide +kernel) (by decide +kernel)
theorem q357 : (Jvm.Cond.instanceMethod ({ cls := "TextPipeline", name := "part", desc := "(IIIZ)V" } : Jvm.MethodName)) ∈ WS0 := ws0_t (i := 357) (by decide +kernel) (by decide +kernel)
theorem q358 : (Jvm.Cond.selects "TextPipeline" ({ cls := "TextPipeline", name := "part", desc := "(IIIZ)V" } : Jvm.MethodName) ({ cls := "TextPipeline", name := "part", desc := "(IIIZ)V" } : Jvm.MethodName)) ∈ WS0 := ws0_t (i := 358) (by decide +kernel) (by decide +kernel)
theorem q359 : (Jvm.Cond.code ({ cls := "TextPipeline", name := "part", desc := "(IIIZ)V" } : Jvm.MethodName) prog_1_method_3_code (5 : Nat) (Option.none : Option Jvm.ClassFile.FieldType)) ∈ WS0 := ws0_t (i := 359) (by decide +kernel) (by decide +kernel)
theorem q360 : (Jvm.Cond.methodLink "TextPipeline" (78 : Nat) ({ cls := "TextPipeline$Table", name := "isParting", desc := "(III)Z" } : Jvm.MethodName)) ∈ WS0 := ws0_t (i := 360) (by decide +kernel) (by decide +kernel)
theorem q361 : (Jvm.Cond.static ({ cls := "TextPipeline$Table", name := "isParting", desc := "(III)Z" } : Jvm.MethodName)) ∈ WS0 := ws0_t (i := 361) (by decide +kernel) (by decide +kernel)
theorem q362 : (Jvm.Cond.code ({ cls := "TextPipeline$Table", name := "isParting", desc := "(III)Z" } : Jvm.MethodName) prog_8_method_4_code (3 : Nat) (Option.some Jvm.ClassFile.FieldType.boolean)) ∈ WS0 := ws0_t (i := 362) (by decide +kernel) (by decide +kernel)
theorem q363 : (Jvm.Cond.methodLink "TextPipeline$Table" (46 : Nat) ({ cls := "TextPipeline$Table", name := "isSettable", desc := "(I)Z" } : Jvm.MethodName)) ∈ WS0 := ws0_t (i := 363) (by decide +kernel) (by decide +kernel)
theorem q365 : (Jvm.Cond.methodLink "TextPipeline" (84 : Nat) ({ cls := "TextPipeline$Table", name := "staysSmall", desc := "(III)Z" } : Jvm.MethodName)) ∈ WS0 := ws0_t (i := 365) (by decide +kernel) (by decide +kernel)
theorem q366 : (Jvm.Cond.instanceMethod ({ cls := "TextPipeline$Table", name := "staysSmall", desc := "(III)Z" } : Jvm.MethodName)) ∈ WS0 := ws0_t (i := 366) (by decide +kernel) (by decide +kernel)
theorem q367 : (Jvm.Cond.selects "TextPipeline$Table" ({ cls := "TextPipeline$Table", name := "staysSmall", desc := "(III)Z" } : Jvm.MethodName) ({ cls := "TextPipeline$Table", name := "staysSmall", desc := "(III)Z" } : Jvm.MethodName)) ∈ WS0 := ws0_t (i := 367) (by decide +kernel) (by decide +kernel)
theorem q368 : (Jvm.Cond.code ({ cls := "TextPipeline$Table", name := "staysSmall", desc := "(III)Z" } : Jvm.MethodName) prog_8_method_11_code (7 : Nat) (Option.some Jvm.ClassFile.FieldType.boolean)) ∈ WS0 := ws0_t (i := 368) (by decide +kernel) (by decide +kernel)
theorem q369 : (Jvm.Cond.classLink "TextPipeline" (87 : Nat) "java/lang/IllegalStateException") ∈ WS0 := ws0_t (i := 369) (by decide +kernel) (by decide +kernel)
theorem q370 : (Jvm.Cond.instantiable "java/lang/IllegalStateException" (6 : Nat)) ∈ WS0 := ws0_t (i := 370) (by decide +kernel) (by decide +kernel)
theorem q372 : (Jvm.Cond.selects "java/lang/IllegalStateException" ({ cls := "java/lang/Throwable", name := "fillInStackTrace", desc := "(I)Ljava/lang/Throwable;" } : Jvm.MethodName) ({ cls := "java/lang/Throwable", name := "fillInStackTrace", desc := "(I)Ljava/lang/Throwable;" } : Jvm.MethodName)) ∈ WS0 := ws0_t (i := 372) (by decide +kernel) (by decide +kernel)
theorem q373 : (Jvm.Cond.lays "java/lang/IllegalStateException" "java/lang/Throwable" "cause" "Ljava/lang/Throwable;") ∈ WS0 := ws0_t (i := 373) (by decide +kernel) (by decide +kernel)
theorem q374 : (Jvm.Cond.lays "java/lang/IllegalStateException" "java/lang/Throwable" "stackTrace" "[Ljava/lang/StackTraceElement;") ∈ WS0 := ws0_t (i := 374) (by decide +kernel) (by decide +kernel)
theorem q375 : (Jvm.Cond.lays "java/lang/IllegalStateException" "java/lang/Throwable" "suppressedExceptions" "Ljava/util/List;") ∈ WS0 := ws0_t (i := 375) (by decide +kernel) (by decide +kernel)
theorem q376 : (Jvm.Cond.lays "java/lang/IllegalStateException" "java/lang/Throwable" "detailMessage" "Ljava/lang/String;") ∈ WS0 := ws0_t (i := 376) (by decide +kernel) (by decide +kernel)
theorem q377 : (Jvm.Cond.lays "java/lang/IllegalStateException" "java/lang/Throwable" "backtrace" "Ljava/lang/Object;") ∈ WS0 := ws0_t (i := 377) (by decide +kernel) (by decide +kernel)
theorem q379 : (Jvm.Cond.methodLink "TextPipeline" (91 : Nat) ({ cls := "java/lang/IllegalStateException", name := "<init>", desc := "(Ljava/lang/String;)V" } : Jvm.MethodName)) ∈ WS0 := ws0_t (i := 379) (by decide +kernel) (by decide +kernel)
theorem q380 : (Jvm.Cond.instanceMethod ({ cls := "java/lang/IllegalStateException", name := "<init>", desc := "(Ljava/lang/String;)V" } : Jvm.MethodName)) ∈ WS0 := ws0_t (i := 380) (by decide +kernel) (by decide +kernel)
theorem q381 : (Jvm.Cond.code ({ cls := "java/lang/IllegalStateException", name := "<init>", desc := "(Ljava/lang/String;)V" } : Jvm.MethodName) prog_13_method_2_code (2 : Nat) (Option.none : Option Jvm.ClassFile.FieldType)) ∈ WS0 := ws0_t (i := 381) (by decide +kernel) (by decide +kernel)
theorem q382 : (Jvm.Cond.methodLink "java/lang/IllegalStateException" (7 : Nat) ({ cls := "java/lang/RuntimeException", name := "<init>", desc := "(Ljava/lang/String;)V" } : Jvm.MethodName)) ∈ WS0 := ws0_t (i := 382) (by decide +kernel) (by decide +kernel)
theorem q383 : (Jvm.Cond.lays "java/lang/IllegalStateException" "java/lang/Throwable" "depth" "I") ∈ WS0 := ws0_t (i := 383) (by decide +kernel) (by decide +kernel)
theorem q385 : (Jvm.Cond.methodLink "TextPipeline" (92 : Nat) ({ cls := "TextPipeline$Table", name := "changeParting", desc := "(IIIZ)V" } : Jvm.MethodName)) ∈ WS0 := ws0_t (i := 385) (by decide +kernel) (by decide +kernel)
theorem q386 : (Jvm.Cond.instanceMethod ({ cls := "TextPipeline$Table", name := "changeParting", desc := "(IIIZ)V" } : Jvm.MethodName)) ∈ WS0 := ws0_t (i := 386) (by decide +kernel) (by decide +kernel)
theorem q387 : (Jvm.Cond.selects "TextPipeline$Table" ({ cls := "TextPipeline$Table", name := "changeParting", desc := "(IIIZ)V" } : Jvm.MethodName) ({ cls := "TextPipeline$Table", name := "changeParting", desc := "(IIIZ)V" } : Jvm.MethodName)) ∈ WS0 := ws0_t (i := 387) (by decide +kernel) (by decide +kernel)
theorem q388 : (Jvm.Cond.code ({ cls := "TextPipeline$Table", name := "changeParting", desc := "(IIIZ)V" } : Jvm.MethodName) prog_8_method_12_code (5 : Nat) (Option.none : Option Jvm.ClassFile.FieldType)) ∈ WS0 := ws0_t (i := 388) (by decide +kernel) (by decide +kernel)
theorem q389 : (Jvm.Cond.methodLink "TextPipelineLaw" (79 : Nat) ({ cls := "TextPipelineLaw", name := "type", desc := "(LTextPipeline;I[J)I" } : Jvm.MethodName)) ∈ WS0 := ws0_t (i := 389) (by decide +kernel) (by decide +kernel)
theorem q390 : (Jvm.Cond.static ({ cls := "TextPipelineLaw", name := "type", desc := "(LTextPipeline;I[J)I" } : Jvm.MethodName)) ∈ WS0 := ws0_t (i := 390) (by decide +kernel) (by decide +kernel)
theorem q392 : (Jvm.Cond.methodLink "TextPipelineLaw" (21 : Nat) ({ cls := "TextPipeline", name := "type", desc := "(I)I" } : Jvm.MethodName)) ∈ WS0 := ws0_t (i := 392) (by decide +kernel) (by decide +kernel)
theorem q393 : (Jvm.Cond.instanceMethod ({ cls := "TextPipeline", name := "type", desc := "(I)I" } : Jvm.MethodName)) ∈ WS0 := ws0_t (i := 393) (by decide +kernel) (by decide +kernel)
theorem q394 : (Jvm.Cond.selects "TextPipeline" ({ cls := "TextPipeline", name := "type", desc := "(I)I" } : Jvm.MethodName) ({ cls := "TextPipeline", name := "type", desc := "(I)I" } : Jvm.MethodName)) ∈ WS0 := ws0_t (i := 394) (by decide +kernel) (by decide +kernel)
theorem q395 : (Jvm.Cond.code ({ cls := "TextPipeline", name := "type", desc := "(I)I" } : Jvm.MethodName) prog_1_method_4_code (2 : Nat) (Option.some Jvm.ClassFile.FieldType.int)) ∈ WS0 := ws0_t (i := 395) (by decide +kernel) (by decide +kernel)
theorem q398 : (Jvm.Cond.methodLink "TextPipeline" (104 : Nat) ({ cls := "TextPipeline$Row", name := "add", desc := "(I)V" } : Jvm.MethodName)) ∈ WS0 := ws0_t (i := 398) (by decide +kernel) (by decide +kernel)
theorem q399 : (Jvm.Cond.methodLink "TextPipelineLaw" (87 : Nat) ({ cls := "TextPipelineLaw", name := "bring", desc := "(LTextPipeline;Z[J)I" } : Jvm.MethodName)) ∈ WS0 := ws0_t (i := 399) (by decide +kernel) (by decide +kernel)
theorem q400 : (Jvm.Cond.static ({ cls := "TextPipelineLaw", name := "bring", desc := "(LTextPipeline;Z[J)I" } : Jvm.MethodName)) ∈ WS0 := ws0_t (i := 400) (by decide +kernel) (by decide +kernel)
theorem q402 : (Jvm.Cond.methodLink "TextPipelineLaw" (25 : Nat) ({ cls := "TextPipeline", name := "bring", desc := "(Z)I" } : Jvm.MethodName)) ∈ WS0 := ws0_t (i := 402) (by decide +kernel) (by decide +kernel)
theorem q403 : (Jvm.Cond.instanceMethod ({ cls := "TextPipeline", name := "bring", desc := "(Z)I" } : Jvm.MethodName)) ∈ WS0 := ws0_t (i := 403) (by decide +kernel) (by decide +kernel)
theorem q404 : (Jvm.Cond.selects "TextPipeline" ({ cls := "TextPipeline", name := "bring", desc := "(Z)I" } : Jvm.MethodName) ({ cls := "TextPipeline", name := "bring", desc := "(Z)I" } : Jvm.MethodName)) ∈ WS0 := ws0_t (i := 404) (by decide +kernel) (by decide +kernel)
theorem q405 : (Jvm.Cond.code ({ cls := "TextPipeline", name := "bring", desc := "(Z)I" } : Jvm.MethodName) prog_1_method_6_code (2 : Nat) (Option.some Jvm.ClassFile.FieldType.int)) ∈ WS0 := ws0_t (i := 405) (by decide +kernel) (by decide +kernel)
theorem q406 : (Jvm.Cond.methodLink "TextPipeline" (114 : Nat) ({ cls := "TextPipeline$Forms", name := "joinAll", desc := "(LTextPipeline$Table;LTextPipeline$Row;)V" } : Jvm.MethodName)) ∈ WS0 := ws0_t (i := 406) (by decide +kernel) (by decide +kernel)
theorem q407 : (Jvm.Cond.static ({ cls := "TextPipeline$Forms", name := "joinAll", desc := "(LTextPipeline$Table;LTextPipeline$Row;)V" } : Jvm.MethodName)) ∈ WS0 := ws0_t (i := 407) (by decide +kernel) (by decide +kernel)
theorem q408 : (Jvm.Cond.code ({ cls := "TextPipeline$Forms", name := "joinAll", desc := "(LTextPipeline$Table;LTextPipeline$Row;)V" } : Jvm.MethodName) prog_3_method_3_code (7 : Nat) (Option.none : Option Jvm.ClassFile.FieldType)) ∈ WS0 := ws0_t (i := 408) (by decide +kernel) (by decide +kernel)
theorem q409 : (Jvm.Cond.methodLink "TextPipeline$Forms" (41 : Nat) ({ cls := "TextPipeline$Forms", name := "openStarter", desc := "(LTextPipeline$Table;LTextPipeline$Row;II)I" } : Jvm.MethodName)) ∈ WS0 := ws0_t (i := 409) (by decide +kernel) (by decide +kernel)
theorem q410 : (Jvm.Cond.static ({ cls := "TextPipeline$Forms", name := "openStarter", desc := "(LTextPipeline$Table;LTextPipeline$Row;II)I" } : Jvm.MethodName)) ∈ WS0 := ws0_t (i := 410) (by decide +kernel) (by decide +kernel)
theorem q411 : (Jvm.Cond.code ({ cls := "TextPipeline$Forms", name := "openStarter", desc := "(LTextPipeline$Table;LTextPipeline$Row;II)I" } : Jvm.MethodName) prog_3_method_5_code (6 : Nat) (Option.some Jvm.ClassFile.FieldType.int)) ∈ WS0 := ws0_t (i := 411) (by decide +kernel) (by decide +kernel)
theorem q412 : (Jvm.Cond.methodLink "TextPipeline$Forms" (45 : Nat) ({ cls := "TextPipeline$Table", name := "joinOf", desc := "(II)I" } : Jvm.MethodName)) ∈ WS0 := ws0_t (i := 412) (by decide +kernel) (by decide +kernel)
theorem q413 : (Jvm.Cond.instanceMethod ({ cls := "TextPipeline$Table", name := "joinOf", desc := "(II)I" } : Jvm.MethodName)) ∈ WS0 := ws0_t (i := 413) (by decide +kernel) (by decide +kernel)
theorem q414 : (Jvm.Cond.selects "TextPipeline$Table" ({ cls := "TextPipeline$Table", name := "joinOf", desc := "(II)I" } : Jvm.MethodName) ({ cls := "TextPipeline$Table", name := "joinOf", desc := "(II)I" } : Jvm.MethodName)) ∈ WS0 := ws0_t (i := 414) (by decide +kernel) (by decide +kernel)
theorem q415 : (Jvm.Cond.code ({ cls := "TextPipeline$Table", name := "joinOf", desc := "(II)I" } : Jvm.MethodName) prog_8_method_20_code (5 : Nat) (Option.some Jvm.ClassFile.FieldType.int)) ∈ WS0 := ws0_t (i := 415) (by decide +kernel) (by decide +kernel)
theorem q416 : (Jvm.Cond.methodLink "TextPipeline$Forms" (48 : Nat) ({ cls := "TextPipeline$Row", name := "put", desc := "(II)V" } : Jvm.MethodName)) ∈ WS0 := ws0_t (i := 416) (by decide +kernel) (by decide +kernel)
theorem q417 : (Jvm.Cond.instanceMethod ({ cls := "TextPipeline$Row", name := "put", desc := "(II)V" } : Jvm.MethodName)) ∈ WS0 := ws0_t (i := 417) (by decide +kernel) (by decide +kernel)
theorem q418 : (Jvm.Cond.selects "TextPipeline$Row" ({ cls := "TextPipeline$Row", name := "put", desc := "(II)V" } : Jvm.MethodName) ({ cls := "TextPipeline$Row", name := "put", desc := "(II)V" } : Jvm.MethodName)) ∈ WS0 := ws0_t (i := 418) (by decide +kernel) (by decide +kernel)
theorem q419 : (Jvm.Cond.code ({ cls := "TextPipeline$Row", name := "put", desc := "(II)V" } : Jvm.MethodName) prog_6_method_4_code (3 : Nat) (Option.none : Option Jvm.ClassFile.FieldType)) ∈ WS0 := ws0_t (i := 419) (by decide +kernel) (by decide +kernel)
theorem q421 : (Jvm.Cond.methodLink "TextPipeline" (120 : Nat) ({ cls := "TextPipeline$Row", name := "copyOf", desc := "(LTextPipeline$Row;)V" } : Jvm.MethodName)) ∈ WS0 := ws0_t (i := 421) (by decide +kernel) (by decide +kernel)
theorem q422 : (Jvm.Cond.instanceMethod ({ cls := "TextPipeline$Row", name := "copyOf", desc := "(LTextPipeline$Row;)V" } : Jvm.MethodName)) ∈ WS0 := ws0_t (i := 422) (by decide +kernel) (by decide +kernel)
theorem q423 : (Jvm.Cond.selects "TextPipeline$Row" ({ cls := "TextPipeline$Row", name := "copyOf", desc := "(LTextPipeline$Row;)V" } : Jvm.MethodName) ({ cls := "TextPipeline$Row", name := "copyOf", desc := "(LTextPipeline$Row;)V" } : Jvm.MethodName)) ∈ WS0 := ws0_t (i := 423) (by decide +kernel) (by decide +kernel)
theorem q424 : (Jvm.Cond.code ({ cls := "TextPipeline$Row", name := "copyOf", desc := "(LTextPipeline$Row;)V" } : Jvm.MethodName) prog_6_method_8_code (4 : Nat) (Option.none : Option Jvm.ClassFile.FieldType)) ∈ WS0 := ws0_t (i := 424) (by decide +kernel) (by decide +kernel)
theorem q425 : (Jvm.Cond.methodLink "TextPipelineLaw" (91 : Nat) ({ cls := "TextPipelineLaw", name := "at", desc := "(LTextPipeline;I[J)I" } : Jvm.MethodName)) ∈ WS0 := ws0_t (i := 425) (by decide +kernel) (by decide +kernel)
theorem q426 : (Jvm.Cond.static ({ cls := "TextPipelineLaw", name := "at", desc := "(LTextPipeline;I[J)I" } : Jvm.MethodName)) ∈ WS0 := ws0_t (i := 426) (by decide +kernel) (by decide +kernel)
theorem q428 : (Jvm.Cond.classLink "TextPipelineLaw" (32 : Nat) "java/lang/IndexOutOfBoundsException") ∈ WS0 := ws0_t (i := 428) (by decide +kernel) (by decide +kernel)
theorem q429 : (Jvm.Cond.methodLink "TextPipelineLaw" (29 : Nat) ({ cls := "TextPipeline", name := "at", desc := "(I)I" } : Jvm.MethodName)) ∈ WS0 := ws0_t (i := 429) (by decide +kernel) (by decide +kernel)
theorem q430 : (Jvm.Cond.instanceMethod ({ cls := "TextPipeline", name := "at", desc := "(I)I" } : Jvm.MethodName)) ∈ WS0 := ws0_t (i := 430) (by decide +kernel) (by decide +kernel)
theorem q431 : (Jvm.Cond.selects "TextPipeline" ({ cls := "TextPipeline", name := "at", desc := "(I)I" } : Jvm.MethodName) ({ cls := "TextPipeline", name := "at", desc := "(I)I" } : Jvm.MethodName)) ∈ WS0 := ws0_t (i := 431) (by decide +kernel) (by decide +kernel)
theorem q432 : (Jvm.Cond.code ({ cls := "TextPipeline", name := "at", desc := "(I)I" } : Jvm.MethodName) prog_1_method_7_code (2 : Nat) (Option.some Jvm.ClassFile.FieldType.int)) ∈ WS0 := ws0_t (i := 432) (by decide +kernel) (by decide +kernel)
theorem q433 : (Jvm.Cond.methodLink "TextPipeline" (124 : Nat) ({ cls := "TextPipeline", name := "requireCharacter", desc := "(I)V" } : Jvm.MethodName)) ∈ WS0 := ws0_t (i := 433) (by decide +kernel) (by decide +kernel)
theorem q435 : (Jvm.Cond.instanceMethod ({ cls := "TextPipeline", name := "requireCharacter", desc := "(I)V" } : Jvm.MethodName)) ∈ WS0 := ws0_t (i := 435) (by decide +kernel) (by decide +kernel)
theorem q436 : (Jvm.Cond.code ({ cls := "TextPipeline", name := "requireCharacter", desc := "(I)V" } : Jvm.MethodName) prog_1_method_19_code (2 : Nat) (Option.none : Option Jvm.ClassFile.FieldType)) ∈ WS0 := ws0_t (i := 436) (by decide +kernel) (by decide +kernel)
theorem q437 : (Jvm.Cond.classLink "TextPipeline" (160 : Nat) "java/lang/IndexOutOfBoundsException") ∈ WS0 := ws0_t (i := 437) (by decide +kernel) (by decide +kernel)
theorem q438 : (Jvm.Cond.instantiable "java/lang/IndexOutOfBoundsException" (6 : Nat)) ∈ WS0 := ws0_t (i := 438) (by decide +kernel) (by decide +kernel)
theorem q440 : (Jvm.Cond.selects "java/lang/IndexOutOfBoundsException" ({ cls := "java/lang/Throwable", name := "fillInStackTrace", desc := "(I)Ljava/lang/Throwable;" } : Jvm.MethodName) ({ cls := "java/lang/Throwable", name := "fillInStackTrace", desc := "(I)Ljava/lang/Throwable;" } : Jvm.MethodName)) ∈ WS0 := ws0_t (i := 440) (by decide +kernel) (by decide +kernel)
theorem q441 : (Jvm.Cond.lays "java/lang/IndexOutOfBoundsException" "java/lang/Throwable" "cause" "Ljava/lang/Throwable;") ∈ WS0 := ws0_t (i := 441) (by decide +kernel) (by decide +kernel)
theorem q442 : (Jvm.Cond.lays "java/lang/IndexOutOfBoundsException" "java/lang/Throwable" "stackTrace" "[Ljava/lang/StackTraceElement;") ∈ WS0 := ws0_t (i := 442) (by decide +kernel) (by decide +kernel)
theorem q443 : (Jvm.Cond.lays "java/lang/IndexOutOfBoundsException" "java/lang/Throwable" "suppressedExceptions" "Ljava/util/List;") ∈ WS0 := ws0_t (i := 443) (by decide +kernel) (by decide +kernel)
theorem q444 : (Jvm.Cond.lays "java/lang/IndexOutOfBoundsException" "java/lang/Throwable" "detailMessage" "Ljava/lang/String;") ∈ WS0 := ws0_t (i := 444) (by decide +kernel) (by decide +kernel)
theorem q445 : (Jvm.Cond.lays "java/lang/IndexOutOfBoundsException" "java/lang/Throwable" "backtrace" "Ljava/lang/Object;") ∈ WS0 := ws0_t (i := 445) (by decide +kernel) (by decide +kernel)
theorem q447 : (Jvm.Cond.methodLink "TextPipeline" (164 : Nat) ({ cls := "java/lang/IndexOutOfBoundsException", name := "<init>", desc := "(Ljava/lang/String;)V" } : Jvm.MethodName)) ∈ WS0 := ws0_t (i := 447) (by decide +kernel) (by decide +kernel)
theorem q448 : (Jvm.Cond.instanceMethod ({ cls := "java/lang/IndexOutOfBoundsException", name := "<init>", desc := "(Ljava/lang/String;)V" } : Jvm.MethodName)) ∈ WS0 := ws0_t (i := 448) (by decide +kernel) (by decide +kernel)
theorem q449 : (Jvm.Cond.code ({ cls := "java/lang/IndexOutOfBoundsException", name := "<init>", desc := "(Ljava/lang/String;)V" } : Jvm.MethodName) prog_14_method_2_code (2 : Nat) (Option.none : Option Jvm.ClassFile.FieldType)) ∈ WS0 := ws0_t (i := 449) (by decide +kernel) (by decide +kernel)
theorem q450 : (Jvm.Cond.methodLink "java/lang/IndexOutOfBoundsException" (7 : Nat) ({ cls := "java/lang/RuntimeException", name := "<init>", desc := "(Ljava/lang/String;)V" } : Jvm.MethodName)) ∈ WS0 := ws0_t (i := 450) (by decide +kernel) (by decide +kernel)
theorem q451 : (Jvm.Cond.lays "java/lang/IndexOutOfBoundsException" "java/lang/Throwable" "depth" "I") ∈ WS0 := ws0_t (i := 451) (by decide +kernel) (by decide +kernel)
theorem q453 : (Jvm.Cond.methodLink "TextPipeline" (127 : Nat) ({ cls := "TextPipeline$Row", name := "item", desc := "(I)I" } : Jvm.MethodName)) ∈ WS0 := ws0_t (i := 453) (by decide +kernel) (by decide +kernel)
theorem q454 : (Jvm.Cond.methodLink "TextPipelineLaw" (94 : Nat) ({ cls := "TextPipelineLaw", name := "cluster", desc := "(LTextPipeline;I[J)I" } : Jvm.MethodName)) ∈ WS0 := ws0_t (i := 454) (by decide +kernel) (by decide +kernel)
theorem q455 : (Jvm.Cond.static ({ cls := "TextPipelineLaw", name := "cluster", desc := "(LTextPipeline;I[J)I" } : Jvm.MethodName)) ∈ WS0 := ws0_t (i := 455) (by decide +kernel) (by decide +kernel)
theorem q457 : (Jvm.Cond.methodLink "TextPipelineLaw" (34 : Nat) ({ cls := "TextPipeline", name := "cluster", desc := "(I)Z" } : Jvm.MethodName)) ∈ WS0 := ws0_t (i := 457) (by decide +kernel) (by decide +kernel)
theorem q458 : (Jvm.Cond.instanceMethod ({ cls := "TextPipeline", name := "cluster", desc := "(I)Z" } : Jvm.MethodName)) ∈ WS0 := ws0_t (i := 458) (by decide +kernel) (by decide +kernel)
theorem q459 : (Jvm.Cond.selects "TextPipeline" ({ cls := "TextPipeline", name := "cluster", desc := "(I)Z" } : Jvm.MethodName) ({ cls := "TextPipeline", name := "cluster", desc := "(I)Z" } : Jvm.MethodName)) ∈ WS0 := ws0_t (i := 459) (by decide +kernel) (by decide +kernel)
theorem q460 : (Jvm.Cond.code ({ cls := "TextPipeline", name := "cluster", desc := "(I)Z" } : Jvm.MethodName) prog_1_method_8_code (2 : Nat) (Option.some Jvm.ClassFile.FieldType.boolean)) ∈ WS0 := ws0_t (i := 460) (by decide +kernel) (by decide +kernel)
theorem q461 : (Jvm.Cond.methodLink "TextPipeline" (131 : Nat) ({ cls := "TextPipeline", name := "requirePlace", desc := "(I)V" } : Jvm.MethodName)) ∈ WS0 := ws0_t (i := 461) (by decide +kernel) (by decide +kernel)
theorem q463 : (Jvm.Cond.instanceMethod ({ cls := "TextPipeline", name := "requirePlace", desc := "(I)V" } : Jvm.MethodName)) ∈ WS0 := ws0_t (i := 463) (by decide +kernel) (by decide +kernel)
theorem q464 : (Jvm.Cond.code ({ cls := "TextPipeline", name := "requirePlace", desc := "(I)V" } : Jvm.MethodName) prog_1_method_20_code (2 : Nat) (Option.none : Option Jvm.ClassFile.FieldType)) ∈ WS0 := ws0_t (i := 464) (by decide +kernel) (by decide +kernel)
theorem q466 : (Jvm.Cond.methodLink "TextPipelineLaw" (101 : Nat) ({ cls := "TextPipelineLaw", name := "line", desc := "(LTextPipeline;I[J)I" } : Jvm.MethodName)) ∈ WS0 := ws0_t (i := 466) (by decide +kernel) (by decide +kernel)
theorem q467 : (Jvm.Cond.static ({ cls := "TextPipelineLaw", name := "line", desc := "(LTextPipeline;I[J)I" } : Jvm.MethodName)) ∈ WS0 := ws0_t (i := 467) (by decide +kernel) (by decide +kernel)
theorem q469 : (Jvm.Cond.methodLink "TextPipelineLaw" (38 : Nat) ({ cls := "TextPipeline", name := "line", desc := "(I)I" } : Jvm.MethodName)) ∈ WS0 := ws0_t (i := 469) (by decide +kernel) (by decide +kernel)
theorem q470 : (Jvm.Cond.instanceMethod ({ cls := "TextPipeline", name := "line", desc := "(I)I" } : Jvm.MethodName)) ∈ WS0 := ws0_t (i := 470) (by decide +kernel) (by decide +kernel)
theorem q471 : (Jvm.Cond.selects "TextPipeline" ({ cls := "TextPipeline", name := "line", desc := "(I)I" } : Jvm.MethodName) ({ cls := "TextPipeline", name := "line", desc := "(I)I" } : Jvm.MethodName)) ∈ WS0 := ws0_t (i := 471) (by decide +kernel) (by decide +kernel)
theorem q472 : (Jvm.Cond.code ({ cls := "TextPipeline", name := "line", desc := "(I)I" } : Jvm.MethodName) prog_1_method_10_code (2 : Nat) (Option.some Jvm.ClassFile.FieldType.int)) ∈ WS0 := ws0_t (i := 472) (by decide +kernel) (by decide +kernel)
theorem q473 : (Jvm.Cond.methodLink "TextPipeline" (140 : Nat) ({ cls := "TextPipeline$Lines", name := "endBefore", desc := "(LTextPipeline$Table;LTextPipeline$Row;I)I" } : Jvm.MethodName)) ∈ WS0 := ws0_t (i := 473) (by decide +kernel) (by decide +kernel)
theorem q474 : (Jvm.Cond.instanceMethod ({ cls := "TextPipeline$Lines", name := "endBefore", desc := "(LTextPipeline$Table;LTextPipeline$Row;I)I" } : Jvm.MethodName)) ∈ WS0 := ws0_t (i := 474) (by decide +kernel) (by decide +kernel)
theorem q475 : (Jvm.Cond.selects "TextPipeline$Lines" ({ cls := "TextPipeline$Lines", name := "endBefore", desc := "(LTextPipeline$Table;LTextPipeline$Row;I)I" } : Jvm.MethodName) ({ cls := "TextPipeline$Lines", name := "endBefore", desc := "(LTextPipeline$Table;LTextPipeline$Row;I)I" } : Jvm.MethodName)) ∈ WS0 := ws0_t (i := 475) (by decide +kernel) (by decide +kernel)
theorem q476 : (Jvm.Cond.code ({ cls := "TextPipeline$Lines", name := "endBefore", desc := "(LTextPipeline$Table;LTextPipeline$Row;I)I" } : Jvm.MethodName) prog_5_method_2_code (5 : Nat) (Option.some Jvm.ClassFile.FieldType.int)) ∈ WS0 := ws0_t (i := 476) (by decide +kernel) (by decide +kernel)
theorem q477 : (Jvm.Cond.methodLink "TextPipeline$Lines" (15 : Nat) ({ cls := "TextPipeline$Row", name := "size", desc := "()I" } : Jvm.MethodName)) ∈ WS0 := ws0_t (i := 477) (by decide +kernel) (by decide +kernel)
theorem q478 : (Jvm.Cond.methodLink "TextPipeline$Lines" (21 : Nat) ({ cls := "TextPipeline$Lines", name := "findKinds", desc := "(LTextPipeline$Table;LTextPipeline$Row;)V" } : Jvm.MethodName)) ∈ WS0 := ws0_t (i := 478) (by decide +kernel) (by decide +kernel)
theorem q480 : (Jvm.Cond.instanceMethod ({ cls := "TextPipeline$Lines", name := "findKinds", desc := "(LTextPipeline$Table;LTextPipeline$Row;)V" } : Jvm.MethodName)) ∈ WS0 := ws0_t (i := 480) (by decide +kernel) (by decide +kernel)
theorem q481 : (Jvm.Cond.code ({ cls := "TextPipeline$Lines", name := "findKinds", desc := "(LTextPipeline$Table;LTextPipeline$Row;)V" } : Jvm.MethodName) prog_5_method_3_code (6 : Nat) (Option.none : Option Jvm.ClassFile.FieldType)) ∈ WS0 := ws0_t (i := 481) (by decide +kernel) (by decide +kernel)
theorem q482 : (Jvm.Cond.methodLink "TextPipeline$Lines" (25 : Nat) ({ cls := "TextPipeline$Row", name := "item", desc := "(I)I" } : Jvm.MethodName)) ∈ WS0 := ws0_t (i := 482) (by decide +kernel) (by decide +kernel)
theorem q483 : (Jvm.Cond.methodLink "TextPipeline$Lines" (29 : Nat) ({ cls := "TextPipeline$Table", name := "lineClass", desc := "(I)I" } : Jvm.MethodName)) ∈ WS0 := ws0_t (i := 483) (by decide +kernel) (by decide +kernel)
theorem q484 : (Jvm.Cond.instanceMethod ({ cls := "TextPipeline$Table", name := "lineClass", desc := "(I)I" } : Jvm.MethodName)) ∈ WS0 := ws0_t (i := 484) (by decide +kernel) (by decide +kernel)
theorem q485 : (Jvm.Cond.selects "TextPipeline$Table" ({ cls := "TextPipeline$Table", name := "lineClass", desc := "(I)I" } : Jvm.MethodName) ({ cls := "TextPipeline$Table", name := "lineClass", desc := "(I)I" } : Jvm.MethodName)) ∈ WS0 := ws0_t (i := 485) (by decide +kernel) (by decide +kernel)
theorem q486 : (Jvm.Cond.code ({ cls := "TextPipeline$Table", name := "lineClass", desc := "(I)I" } : Jvm.MethodName) prog_8_method_15_code (2 : Nat) (Option.some Jvm.ClassFile.FieldType.int)) ∈ WS0 := ws0_t (i := 486) (by decide +kernel) (by decide +kernel)
theorem q487 : (Jvm.Cond.methodLink "TextPipeline$Lines" (41 : Nat) ({ cls := "TextPipeline$Lines", name := "isGap", desc := "(I)Z" } : Jvm.MethodName)) ∈ WS0 := ws0_t (i := 487) (by decide +kernel) (by decide +kernel)
theorem q488 : (Jvm.Cond.static ({ cls := "TextPipeline$Lines", name := "isGap", desc := "(I)Z" } : Jvm.MethodName)) ∈ WS0 := ws0_t (i := 488) (by decide +kernel) (by decide +kernel)
theorem q489 : (Jvm.Cond.code ({ cls := "TextPipeline$Lines", name := "isGap", desc := "(I)Z" } : Jvm.MethodName) prog_5_method_6_code (1 : Nat) (Option.some Jvm.ClassFile.FieldType.boolean)) ∈ WS0 := ws0_t (i := 489) (by decide +kernel) (by decide +kernel)
theorem q490 : (Jvm.Cond.methodLink "TextPipeline$Lines" (34 : Nat) ({ cls := "TextPipeline$Lines", name := "kindOverSpaces", desc := "(I)I" } : Jvm.MethodName)) ∈ WS0 := ws0_t (i := 490) (by decide +kernel) (by decide +kernel)
theorem q492 : (Jvm.Cond.instanceMethod ({ cls := "TextPipeline$Lines", name := "kindOverSpaces", desc := "(I)I" } : Jvm.MethodName)) ∈ WS0 := ws0_t (i := 492) (by decide +kernel) (by decide +kernel)
theorem q493 : (Jvm.Cond.code ({ cls := "TextPipeline$Lines", name := "kindOverSpaces", desc := "(I)I" } : Jvm.MethodName) prog_5_method_4_code (3 : Nat) (Option.some Jvm.ClassFile.FieldType.int)) ∈ WS0 := ws0_t (i := 493) (by decide +kernel) (by decide +kernel)
theorem q494 : (Jvm.Cond.methodLink "TextPipeline$Lines" (37 : Nat) ({ cls := "TextPipeline$Lines", name := "endBetween", desc := "(IIIZ)I" } : Jvm.MethodName)) ∈ WS0 := ws0_t (i := 494) (by decide +kernel) (by decide +kernel)
theorem q495 : (Jvm.Cond.static ({ cls := "TextPipeline$Lines", name := "endBetween", desc := "(IIIZ)I" } : Jvm.MethodName)) ∈ WS0 := ws0_t (i := 495) (by decide +kernel) (by decide +kernel)
theorem q496 : (Jvm.Cond.code ({ cls := "TextPipeline$Lines", name := "endBetween", desc := "(IIIZ)I" } : Jvm.MethodName) prog_5_method_5_code (4 : Nat) (Option.some Jvm.ClassFile.FieldType.int)) ∈ WS0 := ws0_t (i := 496) (by decide +kernel) (by decide +kernel)
theorem q497 : (Jvm.Cond.methodLink "TextPipeline$Lines" (45 : Nat) ({ cls := "TextPipeline$Lines", name := "holdsOverSpaces", desc := "(III)Z" } : Jvm.MethodName)) ∈ WS0 := ws0_t (i := 497) (by decide +kernel) (by decide +kernel)
theorem q498 : (Jvm.Cond.static ({ cls := "TextPipeline$Lines", name := "holdsOverSpaces", desc := "(III)Z" } : Jvm.MethodName)) ∈ WS0 := ws0_t (i := 498) (by decide +kernel) (by decide +kernel)
theorem q499 : (Jvm.Cond.code ({ cls := "TextPipeline$Lines", name := "holdsOverSpaces", desc := "(III)Z" } : Jvm.MethodName) prog_5_method_8_code (3 : Nat) (Option.some Jvm.ClassFile.FieldType.boolean)) ∈ WS0 := ws0_t (i := 499) (by decide +kernel) (by decide +kernel)
theorem q500 : (Jvm.Cond.methodLink "TextPipeline$Lines" (49 : Nat) ({ cls := "TextPipeline$Lines", name := "holdsSideBySide", desc := "(II)Z" } : Jvm.MethodName)) ∈ WS0 := ws0_t (i := 500) (by decide +kernel) (by decide +kernel)
theorem q501 : (Jvm.Cond.static ({ cls := "TextPipeline$Lines", name := "holdsSideBySide", desc := "(II)Z" } : Jvm.MethodName)) ∈ WS0 := ws0_t (i := 501) (by decide +kernel) (by decide +kernel)
theorem q502 : (Jvm.Cond.code ({ cls := "TextPipeline$Lines", name := "holdsSideBySide", desc := "(II)Z" } : Jvm.MethodName) prog_5_method_9_code (2 : Nat) (Option.some Jvm.ClassFile.FieldType.boolean)) ∈ WS0 := ws0_t (i := 502) (by decide +kernel) (by decide +kernel)
theorem q503 : (Jvm.Cond.methodLink "TextPipeline$Lines" (53 : Nat) ({ cls := "TextPipeline$Lines", name := "isWord", desc := "(I)Z" } : Jvm.MethodName)) ∈ WS0 := ws0_t (i := 503) (by decide +kernel) (by decide +kernel)
theorem q504 : (Jvm.Cond.static ({ cls := "TextPipeline$Lines", name := "isWord", desc := "(I)Z" } : Jvm.MethodName)) ∈ WS0 := ws0_t (i := 504) (by decide +kernel) (by decide +kernel)
theorem q505 : (Jvm.Cond.code ({ cls := "TextPipeline$Lines", name := "isWord", desc := "(I)Z" } : Jvm.MethodName) prog_5_method_7_code (1 : Nat) (Option.some Jvm.ClassFile.FieldType.boolean)) ∈ WS0 := ws0_t (i := 505) (by decide +kernel) (by decide +kernel)
theorem q506 : (Jvm.Cond.methodLink "TextPipelineLaw" (104 : Nat) ({ cls := "TextPipelineLaw", name := "level", desc := "(LTextPipeline;II[J)I" } : Jvm.MethodName)) ∈ WS0 := ws0_t (i := 506) (by decide +kernel) (by decide +kernel)
theorem q507 : (Jvm.Cond.static ({ cls := "TextPipelineLaw", name := "level", desc := "(LTextPipeline;II[J)I" } : Jvm.MethodName)) ∈ WS0 := ws0_t (i := 507) (by decide +kernel) (by decide +kernel)
theorem q509 : (Jvm.Cond.methodLink "TextPipelineLaw" (41 : Nat) ({ cls := "TextPipeline", name := "level", desc := "(II)I" } : Jvm.MethodName)) ∈ WS0 := ws0_t (i := 509) (by decide +kernel) (by decide +kernel)
theorem q510 : (Jvm.Cond.instanceMethod ({ cls := "TextPipeline", name := "level", desc := "(II)I" } : Jvm.MethodName)) ∈ WS0 := ws0_t (i := 510) (by decide +kernel) (by decide +kernel)
theorem q511 : (Jvm.Cond.selects "TextPipeline" ({ cls := "TextPipeline", name := "level", desc := "(II)I" } : Jvm.MethodName) ({ cls := "TextPipeline", name := "level", desc := "(II)I" } : Jvm.MethodName)) ∈ WS0 := ws0_t (i := 511) (by decide +kernel) (by decide +kernel)
theorem q512 : (Jvm.Cond.code ({ cls := "TextPipeline", name := "level", desc := "(II)I" } : Jvm.MethodName) prog_1_method_11_code (3 : Nat) (Option.some Jvm.ClassFile.FieldType.int)) ∈ WS0 := ws0_t (i := 512) (by decide +kernel) (by decide +kernel)
theorem q513 : (Jvm.Cond.methodLink "TextPipeline" (144 : Nat) ({ cls := "TextPipeline$Sides", name := "findLevels", desc := "(LTextPipeline$Table;LTextPipeline$Row;I)V" } : Jvm.MethodName)) ∈ WS0 := ws0_t (i := 513) (by decide +kernel) (by decide +kernel)
theorem q514 : (Jvm.Cond.instanceMethod ({ cls := "TextPipeline$Sides", name := "findLevels", desc := "(LTextPipeline$Table;LTextPipeline$Row;I)V" } : Jvm.MethodName)) ∈ WS0 := ws0_t (i := 514) (by decide +kernel) (by decide +kernel)
theorem q515 : (Jvm.Cond.selects "TextPipeline$Sides" ({ cls := "TextPipeline$Sides", name := "findLevels", desc := "(LTextPipeline$Table;LTextPipeline$Row;I)V" } : Jvm.MethodName) ({ cls := "TextPipeline$Sides", name := "findLevels", desc := "(LTextPipeline$Table;LTextPipeline$Row;I)V" } : Jvm.MethodName)) ∈ WS0 := ws0_t (i := 515) (by decide +kernel) (by decide +kernel)
theorem q516 : (Jvm.Cond.code ({ cls := "TextPipeline$Sides", name := "findLevels", desc := "(LTextPipeline$Table;LTextPipeline$Row;I)V" } : Jvm.MethodName) prog_7_method_4_code (7 : Nat) (Option.none : Option Jvm.ClassFile.FieldType)) ∈ WS0 := ws0_t (i := 516) (by decide +kernel) (by decide +kernel)
theorem q517 : (Jvm.Cond.methodLink "TextPipeline$Sides" (21 : Nat) ({ cls := "TextPipeline$Row", name := "size", desc := "()I" } : Jvm.MethodName)) ∈ WS0 := ws0_t (i := 517) (by decide +kernel) (by decide +kernel)
theorem q518 : (Jvm.Cond.methodLink "TextPipeline$Sides" (27 : Nat) ({ cls := "TextPipeline$Sides", name := "baseOf", desc := "(LTextPipeline$Table;LTextPipeline$Row;)I" } : Jvm.MethodName)) ∈ WS0 := ws0_t (i := 518) (by decide +kernel) (by decide +kernel)
theorem q519 : (Jvm.Cond.static ({ cls := "TextPipeline$Sides", name := "baseOf", desc := "(LTextPipeline$Table;LTextPipeline$Row;)I" } : Jvm.MethodName)) ∈ WS0 := ws0_t (i := 519) (by decide +kernel) (by decide +kernel)
theorem q520 : (Jvm.Cond.code ({ cls := "TextPipeline$Sides", name := "baseOf", desc := "(LTextPipeline$Table;LTextPipeline$Row;)I" } : Jvm.MethodName) prog_7_method_6_code (4 : Nat) (Option.some Jvm.ClassFile.FieldType.int)) ∈ WS0 := ws0_t (i := 520) (by decide +kernel) (by decide +kernel)
theorem q521 : (Jvm.Cond.methodLink "TextPipeline$Sides" (65 : Nat) ({ cls := "TextPipeline$Row", name := "item", desc := "(I)I" } : Jvm.MethodName)) ∈ WS0 := ws0_t (i := 521) (by decide +kernel) (by decide +kernel)
theorem q522 : (Jvm.Cond.methodLink "TextPipeline$Sides" (69 : Nat) ({ cls := "TextPipeline$Table", name := "sideClass", desc := "(I)I" } : Jvm.MethodName)) ∈ WS0 := ws0_t (i := 522) (by decide +kernel) (by decide +kernel)
theorem q523 : (Jvm.Cond.instanceMethod ({ cls := "TextPipeline$Table", name := "sideClass", desc := "(I)I" } : Jvm.MethodName)) ∈ WS0 := ws0_t (i := 523) (by decide +kernel) (by decide +kernel)
theorem q524 : (Jvm.Cond.selects "TextPipeline$Table" ({ cls := "TextPipeline$Table", name := "sideClass", desc := "(I)I" } : Jvm.MethodName) ({ cls := "TextPipeline$Table", name := "sideClass", desc := "(I)I" } : Jvm.MethodName)) ∈ WS0 := ws0_t (i := 524) (by decide +kernel) (by decide +kernel)
theorem q525 : (Jvm.Cond.code ({ cls := "TextPipeline$Table", name := "sideClass", desc := "(I)I" } : Jvm.MethodName) prog_8_method_16_code (2 : Nat) (Option.some Jvm.ClassFile.FieldType.int)) ∈ WS0 := ws0_t (i := 525) (by decide +kernel) (by decide +kernel)
theorem q526 : (Jvm.Cond.methodLink "TextPipeline$Sides" (74 : Nat) ({ cls := "TextPipeline$Sides", name := "isLetter", desc := "(I)Z" } : Jvm.MethodName)) ∈ WS0 := ws0_t (i := 526) (by decide +kernel) (by decide +kernel)
theorem q527 : (Jvm.Cond.static ({ cls := "TextPipeline$Sides", name := "isLetter", desc := "(I)Z" } : Jvm.MethodName)) ∈ WS0 := ws0_t (i := 527) (by decide +kernel) (by decide +kernel)
theorem q528 : (Jvm.Cond.code ({ cls := "TextPipeline$Sides", name := "isLetter", desc := "(I)Z" } : Jvm.MethodName) prog_7_method_7_code (1 : Nat) (Option.some Jvm.ClassFile.FieldType.boolean)) ∈ WS0 := ws0_t (i := 528) (by decide +kernel) (by decide +kernel)
theorem q529 : (Jvm.Cond.methodLink "TextPipeline$Sides" (31 : Nat) ({ cls := "TextPipeline$Sides", name := "takeKinds", desc := "(LTextPipeline$Table;LTextPipeline$Row;I)V" } : Jvm.MethodName)) ∈ WS0 := ws0_t (i := 529) (by decide +kernel) (by decide +kernel)
theorem q531 : (Jvm.Cond.instanceMethod ({ cls := "TextPipeline$Sides", name := "takeKinds", desc := "(LTextPipeline$Table;LTextPipeline$Row;I)V" } : Jvm.MethodName)) ∈ WS0 := ws0_t (i := 531) (by decide +kernel) (by decide +kernel)
theorem q532 : (Jvm.Cond.code ({ cls := "TextPipeline$Sides", name := "takeKinds", desc := "(LTextPipeline$Table;LTextPipeline$Row;I)V" } : Jvm.MethodName) prog_7_method_10_code (5 : Nat) (Option.none : Option Jvm.ClassFile.FieldType)) ∈ WS0 := ws0_t (i := 532) (by decide +kernel) (by decide +kernel)
theorem q533 : (Jvm.Cond.methodLink "TextPipeline$Sides" (35 : Nat) ({ cls := "TextPipeline$Sides", name := "takeFromFront", desc := "(I)V" } : Jvm.MethodName)) ∈ WS0 := ws0_t (i := 533) (by decide +kernel) (by decide +kernel)
theorem q535 : (Jvm.Cond.instanceMethod ({ cls := "TextPipeline$Sides", name := "takeFromFront", desc := "(I)V" } : Jvm.MethodName)) ∈ WS0 := ws0_t (i := 535) (by decide +kernel) (by decide +kernel)
theorem q536 : (Jvm.Cond.code ({ cls := "TextPipeline$Sides", name := "takeFromFront", desc := "(I)V" } : Jvm.MethodName) prog_7_method_11_code (3 : Nat) (Option.none : Option Jvm.ClassFile.FieldType)) ∈ WS0 := ws0_t (i := 536) (by decide +kernel) (by decide +kernel)
theorem q537 : (Jvm.Cond.methodLink "TextPipeline$Sides" (39 : Nat) ({ cls := "TextPipeline$Sides", name := "changeArabs", desc := "(I)V" } : Jvm.MethodName)) ∈ WS0 := ws0_t (i := 537) (by decide +kernel) (by decide +kernel)
theorem q539 : (Jvm.Cond.instanceMethod ({ cls := "TextPipeline$Sides", name := "changeArabs", desc := "(I)V" } : Jvm.MethodName)) ∈ WS0 := ws0_t (i := 539) (by decide +kernel) (by decide +kernel)
theorem q540 : (Jvm.Cond.code ({ cls := "TextPipeline$Sides", name := "changeArabs", desc := "(I)V" } : Jvm.MethodName) prog_7_method_12_code (4 : Nat) (Option.none : Option Jvm.ClassFile.FieldType)) ∈ WS0 := ws0_t (i := 540) (by decide +kernel) (by decide +kernel)
theorem q541 : (Jvm.Cond.methodLink "TextPipeline$Sides" (42 : Nat) ({ cls := "TextPipeline$Sides", name := "joinNumbers", desc := "(I)V" } : Jvm.MethodName)) ∈ WS0 := ws0_t (i := 541) (by decide +kernel) (by decide +kernel)
theorem q543 : (Jvm.Cond.instanceMethod ({ cls := "TextPipeline$Sides", name := "joinNumbers", desc := "(I)V" } : Jvm.MethodName)) ∈ WS0 := ws0_t (i := 543) (by decide +kernel) (by decide +kernel)
theorem q544 : (Jvm.Cond.code ({ cls := "TextPipeline$Sides", name := "joinNumbers", desc := "(I)V" } : Jvm.MethodName) prog_7_method_13_code (5 : Nat) (Option.none : Option Jvm.ClassFile.FieldType)) ∈ WS0 := ws0_t (i := 544) (by decide +kernel) (by decide +kernel)
theorem q545 : (Jvm.Cond.methodLink "TextPipeline$Sides" (45 : Nat) ({ cls := "TextPipeline$Sides", name := "changeUnits", desc := "(I)V" } : Jvm.MethodName)) ∈ WS0 := ws0_t (i := 545) (by decide +kernel) (by decide +kernel)
theorem q547 : (Jvm.Cond.instanceMethod ({ cls := "TextPipeline$Sides", name := "changeUnits", desc := "(I)V" } : Jvm.MethodName)) ∈ WS0 := ws0_t (i := 547) (by decide +kernel) (by decide +kernel)
theorem q548 : (Jvm.Cond.code ({ cls := "TextPipeline$Sides", name := "changeUnits", desc := "(I)V" } : Jvm.MethodName) prog_7_method_14_code (5 : Nat) (Option.none : Option Jvm.ClassFile.FieldType)) ∈ WS0 := ws0_t (i := 548) (by decide +kernel) (by decide +kernel)
theorem q549 : (Jvm.Cond.methodLink "TextPipeline$Sides" (78 : Nat) ({ cls := "TextPipeline$Sides", name := "fillKinds", desc := "(III)V" } : Jvm.MethodName)) ∈ WS0 := ws0_t (i := 549) (by decide +kernel) (by decide +kernel)
theorem q551 : (Jvm.Cond.instanceMethod ({ cls := "TextPipeline$Sides", name := "fillKinds", desc := "(III)V" } : Jvm.MethodName)) ∈ WS0 := ws0_t (i := 551) (by decide +kernel) (by decide +kernel)
theorem q552 : (Jvm.Cond.code ({ cls := "TextPipeline$Sides", name := "fillKinds", desc := "(III)V" } : Jvm.MethodName) prog_7_method_18_code (5 : Nat) (Option.none : Option Jvm.ClassFile.FieldType)) ∈ WS0 := ws0_t (i := 552) (by decide +kernel) (by decide +kernel)
theorem q553 : (Jvm.Cond.methodLink "TextPipeline$Sides" (48 : Nat) ({ cls := "TextPipeline$Sides", name := "changeLeftNumbers", desc := "(I)V" } : Jvm.MethodName)) ∈ WS0 := ws0_t (i := 553) (by decide +kernel) (by decide +kernel)
theorem q555 : (Jvm.Cond.instanceMethod ({ cls := "TextPipeline$Sides", name := "changeLeftNumbers", desc := "(I)V" } : Jvm.MethodName)) ∈ WS0 := ws0_t (i := 555) (by decide +kernel) (by decide +kernel)
theorem q556 : (Jvm.Cond.code ({ cls := "TextPipeline$Sides", name := "changeLeftNumbers", desc := "(I)V" } : Jvm.MethodName) prog_7_method_15_code (4 : Nat) (Option.none : Option Jvm.ClassFile.FieldType)) ∈ WS0 := ws0_t (i := 556) (by decide +kernel) (by decide +kernel)
theorem q557 : (Jvm.Cond.methodLink "TextPipeline$Sides" (51 : Nat) ({ cls := "TextPipeline$Sides", name := "changeNeutrals", desc := "(I)V" } : Jvm.MethodName)) ∈ WS0 := ws0_t (i := 557) (by decide +kernel) (by decide +kernel)
theorem q559 : (Jvm.Cond.instanceMethod ({ cls := "TextPipeline$Sides", name := "changeNeutrals", desc := "(I)V" } : Jvm.MethodName)) ∈ WS0 := ws0_t (i := 559) (by decide +kernel) (by decide +kernel)
theorem q560 : (Jvm.Cond.code ({ cls := "TextPipeline$Sides", name := "changeNeutrals", desc := "(I)V" } : Jvm.MethodName) prog_7_method_16_code (4 : Nat) (Option.none : Option Jvm.ClassFile.FieldType)) ∈ WS0 := ws0_t (i := 560) (by decide +kernel) (by decide +kernel)
theorem q561 : (Jvm.Cond.methodLink "TextPipeline$Sides" (82 : Nat) ({ cls := "TextPipeline$Sides", name := "isNeutral", desc := "(I)Z" } : Jvm.MethodName)) ∈ WS0 := ws0_t (i := 561) (by decide +kernel) (by decide +kernel)
theorem q562 : (Jvm.Cond.static ({ cls := "TextPipeline$Sides", name := "isNeutral", desc := "(I)Z" } : Jvm.MethodName)) ∈ WS0 := ws0_t (i := 562) (by decide +kernel) (by decide +kernel)
theorem q563 : (Jvm.Cond.code ({ cls := "TextPipeline$Sides", name := "isNeutral", desc := "(I)Z" } : Jvm.MethodName) prog_7_method_8_code (1 : Nat) (Option.some Jvm.ClassFile.FieldType.boolean)) ∈ WS0 := ws0_t (i := 563) (by decide +kernel) (by decide +kernel)
theorem q564 : (Jvm.Cond.methodLink "TextPipeline$Sides" (85 : Nat) ({ cls := "TextPipeline$Sides", name := "kindBetween", desc := "(II)I" } : Jvm.MethodName)) ∈ WS0 := ws0_t (i := 564) (by decide +kernel) (by decide +kernel)
theorem q566 : (Jvm.Cond.instanceMethod ({ cls := "TextPipeline$Sides", name := "kindBetween", desc := "(II)I" } : Jvm.MethodName)) ∈ WS0 := ws0_t (i := 566) (by decide +kernel) (by decide +kernel)
theorem q567 : (Jvm.Cond.code ({ cls := "TextPipeline$Sides", name := "kindBetween", desc := "(II)I" } : Jvm.MethodName) prog_7_method_17_code (3 : Nat) (Option.some Jvm.ClassFile.FieldType.int)) ∈ WS0 := ws0_t (i := 567) (by decide +kernel) (by decide +kernel)
theorem q568 : (Jvm.Cond.methodLink "TextPipeline$Sides" (88 : Nat) ({ cls := "TextPipeline$Sides", name := "readsRight", desc := "(I)Z" } : Jvm.MethodName)) ∈ WS0 := ws0_t (i := 568) (by decide +kernel) (by decide +kernel)
theorem q569 : (Jvm.Cond.static ({ cls := "TextPipeline$Sides", name := "readsRight", desc := "(I)Z" } : Jvm.MethodName)) ∈ WS0 := ws0_t (i := 569) (by decide +kernel) (by decide +kernel)
theorem q570 : (Jvm.Cond.code ({ cls := "TextPipeline$Sides", name := "readsRight", desc := "(I)Z" } : Jvm.MethodName) prog_7_method_9_code (1 : Nat) (Option.some Jvm.ClassFile.FieldType.boolean)) ∈ WS0 := ws0_t (i := 570) (by decide +kernel) (by decide +kernel)
theorem q571 : (Jvm.Cond.methodLink "TextPipeline$Sides" (54 : Nat) ({ cls := "TextPipeline$Sides", name := "levelFor", desc := "(II)I" } : Jvm.MethodName)) ∈ WS0 := ws0_t (i := 571) (by decide +kernel) (by decide +kernel)
theorem q572 : (Jvm.Cond.static ({ cls := "TextPipeline$Sides", name := "levelFor", desc := "(II)I" } : Jvm.MethodName)) ∈ WS0 := ws0_t (i := 572) (by decide +kernel) (by decide +kernel)
theorem q573 : (Jvm.Cond.code ({ cls := "TextPipeline$Sides", name := "levelFor", desc := "(II)I" } : Jvm.MethodName) prog_7_method_19_code (2 : Nat) (Option.some Jvm.ClassFile.FieldType.int)) ∈ WS0 := ws0_t (i := 573) (by decide +kernel) (by decide +kernel)
theorem q574 : (Jvm.Cond.methodLink "TextPipeline$Sides" (58 : Nat) ({ cls := "TextPipeline$Sides", name := "resetGaps", desc := "(LTextPipeline$Table;LTextPipeline$Row;I)V" } : Jvm.MethodName)) ∈ WS0 := ws0_t (i := 574) (by decide +kernel) (by decide +kernel)
theorem q576 : (Jvm.Cond.instanceMethod ({ cls := "TextPipeline$Sides", name := "resetGaps", desc := "(LTextPipeline$Table;LTextPipeline$Row;I)V" } : Jvm.MethodName)) ∈ WS0 := ws0_t (i := 576) (by decide +kernel) (by decide +kernel)
theorem q577 : (Jvm.Cond.code ({ cls := "TextPipeline$Sides", name := "resetGaps", desc := "(LTextPipeline$Table;LTextPipeline$Row;I)V" } : Jvm.MethodName) prog_7_method_20_code (7 : Nat) (Option.none : Option Jvm.ClassFile.FieldType)) ∈ WS0 := ws0_t (i := 577) (by decide +kernel) (by decide +kernel)
theorem q578 : (Jvm.Cond.methodLink "TextPipeline" (148 : Nat) ({ cls := "TextPipeline$Sides", name := "levelOf", desc := "(I)I" } : Jvm.MethodName)) ∈ WS0 := ws0_t (i := 578) (by decide +kernel) (by decide +kernel)
theorem q579 : (Jvm.Cond.instanceMethod ({ cls := "TextPipeline$Sides", name := "levelOf", desc := "(I)I" } : Jvm.MethodName)) ∈ WS0 := ws0_t (i := 579) (by decide +kernel) (by decide +kernel)
theorem q580 : (Jvm.Cond.selects "TextPipeline$Sides" ({ cls := "TextPipeline$Sides", name := "levelOf", desc := "(I)I" } : Jvm.MethodName) ({ cls := "TextPipeline$Sides", name := "levelOf", desc := "(I)I" } : Jvm.MethodName)) ∈ WS0 := ws0_t (i := 580) (by decide +kernel) (by decide +kernel)
theorem q581 : (Jvm.Cond.code ({ cls := "TextPipeline$Sides", name := "levelOf", desc := "(I)I" } : Jvm.MethodName) prog_7_method_2_code (2 : Nat) (Option.some Jvm.ClassFile.FieldType.int)) ∈ WS0 := ws0_t (i := 581) (by decide +kernel) (by decide +kernel)
theorem q582 : (Jvm.Cond.methodLink "TextPipelineLaw" (108 : Nat) ({ cls := "TextPipelineLaw", name := "order", desc := "(LTextPipeline;II[J)I" } : Jvm.MethodName)) ∈ WS0 := ws0_t (i := 582) (by decide +kernel) (by decide +kernel)
theorem q583 : (Jvm.Cond.static ({ cls := "TextPipelineLaw", name := "order", desc := "(LTextPipeline;II[J)I" } : Jvm.MethodName)) ∈ WS0 := ws0_t (i := 583) (by decide +kernel) (by decide +kernel)
theorem q585 : (Jvm.Cond.methodLink "TextPipelineLaw" (45 : Nat) ({ cls := "TextPipeline", name := "order", desc := "(II)I" } : Jvm.MethodName)) ∈ WS0 := ws0_t (i := 585) (by decide +kernel) (by decide +kernel)
theorem q586 : (Jvm.Cond.instanceMethod ({ cls := "TextPipeline", name := "order", desc := "(II)I" } : Jvm.MethodName)) ∈ WS0 := ws0_t (i := 586) (by decide +kernel) (by decide +kernel)
theorem q587 : (Jvm.Cond.selects "TextPipeline" ({ cls := "TextPipeline", name := "order", desc := "(II)I" } : Jvm.MethodName) ({ cls := "TextPipeline", name := "order", desc := "(II)I" } : Jvm.MethodName)) ∈ WS0 := ws0_t (i := 587) (by decide +kernel) (by decide +kernel)
theorem q588 : (Jvm.Cond.code ({ cls := "TextPipeline", name := "order", desc := "(II)I" } : Jvm.MethodName) prog_1_method_12_code (3 : Nat) (Option.some Jvm.ClassFile.FieldType.int)) ∈ WS0 := ws0_t (i := 588) (by decide +kernel) (by decide +kernel)
theorem q589 : (Jvm.Cond.methodLink "TextPipeline" (151 : Nat) ({ cls := "TextPipeline$Sides", name := "findOrder", desc := "(I)V" } : Jvm.MethodName)) ∈ WS0 := ws0_t (i := 589) (by decide +kernel) (by decide +kernel)
theorem q590 : (Jvm.Cond.instanceMethod ({ cls := "TextPipeline$Sides", name := "findOrder", desc := "(I)V" } : Jvm.MethodName)) ∈ WS0 := ws0_t (i := 590) (by decide +kernel) (by decide +kernel)
theorem q591 : (Jvm.Cond.selects "TextPipeline$Sides" ({ cls := "TextPipeline$Sides", name := "findOrder", desc := "(I)V" } : Jvm.MethodName) ({ cls := "TextPipeline$Sides", name := "findOrder", desc := "(I)V" } : Jvm.MethodName)) ∈ WS0 := ws0_t (i := 591) (by decide +kernel) (by decide +kernel)
theorem q592 : (Jvm.Cond.code ({ cls := "TextPipeline$Sides", name := "findOrder", desc := "(I)V" } : Jvm.MethodName) prog_7_method_5_code (3 : Nat) (Option.none : Option Jvm.ClassFile.FieldType)) ∈ WS0 := ws0_t (i := 592) (by decide +kernel) (by decide +kernel)
theorem q593 : (Jvm.Cond.methodLink "TextPipeline$Sides" (61 : Nat) ({ cls := "TextPipeline$Sides", name := "turnRows", desc := "(II)V" } : Jvm.MethodName)) ∈ WS0 := ws0_t (i := 593) (by decide +kernel) (by decide +kernel)
theorem q595 : (Jvm.Cond.instanceMethod ({ cls := "TextPipeline$Sides", name := "turnRows", desc := "(II)V" } : Jvm.MethodName)) ∈ WS0 := ws0_t (i := 595) (by decide +kernel) (by decide +kernel)
theorem q596 : (Jvm.Cond.code ({ cls := "TextPipeline$Sides", name := "turnRows", desc := "(II)V" } : Jvm.MethodName) prog_7_method_21_code (5 : Nat) (Option.none : Option Jvm.ClassFile.FieldType)) ∈ WS0 := ws0_t (i := 596) (by decide +kernel) (by decide +kernel)
theorem q597 : (Jvm.Cond.methodLink "TextPipeline$Sides" (91 : Nat) ({ cls := "TextPipeline$Sides", name := "turnRound", desc := "(II)V" } : Jvm.MethodName)) ∈ WS0 := ws0_t (i := 597) (by decide +kernel) (by decide +kernel)
theorem q599 : (Jvm.Cond.instanceMethod ({ cls := "TextPipeline$Sides", name := "turnRound", desc := "(II)V" } : Jvm.MethodName)) ∈ WS0 := ws0_t (i := 599) (by decide +kernel) (by decide +kernel)
theorem q600 : (Jvm.Cond.code ({ cls := "TextPipeline$Sides", name := "turnRound", desc := "(II)V" } : Jvm.MethodName) prog_7_method_22_code (6 : Nat) (Option.none : Option Jvm.ClassFile.FieldType)) ∈ WS0 := ws0_t (i := 600) (by decide +kernel) (by decide +kernel)
theorem q601 : (Jvm.Cond.methodLink "TextPipeline" (154 : Nat) ({ cls := "TextPipeline$Sides", name := "readAs", desc := "(I)I" } : Jvm.MethodName)) ∈ WS0 := ws0_t (i := 601) (by decide +kernel) (by decide +kernel)
theorem q602 : (Jvm.Cond.instanceMethod ({ cls := "TextPipeline$Sides", name := "readAs", desc := "(I)I" } : Jvm.MethodName)) ∈ WS0 := ws0_t (i := 602) (by decide +kernel) (by decide +kernel)
theorem q603 : (Jvm.Cond.selects "TextPipeline$Sides" ({ cls := "TextPipeline$Sides", name := "readAs", desc := "(I)I" } : Jvm.MethodName) ({ cls := "TextPipeline$Sides", name := "readAs", desc := "(I)I" } : Jvm.MethodName)) ∈ WS0 := ws0_t (i := 603) (by decide +kernel) (by decide +kernel)
theorem q604 : (Jvm.Cond.code ({ cls := "TextPipeline$Sides", name := "readAs", desc := "(I)I" } : Jvm.MethodName) prog_7_method_3_code (2 : Nat) (Option.some Jvm.ClassFile.FieldType.int)) ∈ WS0 := ws0_t (i := 604) (by decide +kernel) (by decide +kernel)
theorem q605 : (Jvm.Cond.methodLink "TextPipelineLaw" (115 : Nat) ({ cls := "TextPipelineLaw", name := "keyAt", desc := "(LTextPipeline;I[J)I" } : Jvm.MethodName)) ∈ WS0 := ws0_t (i := 605) (by decide +kernel) (by decide +kernel)
theorem q606 : (Jvm.Cond.static ({ cls := "TextPipelineLaw", name := "keyAt", desc := "(LTextPipeline;I[J)I" } : Jvm.MethodName)) ∈ WS0 := ws0_t (i := 606) (by decide +kernel) (by decide +kernel)
theorem q608 : (Jvm.Cond.methodLink "TextPipelineLaw" (48 : Nat) ({ cls := "TextPipeline", name := "keyAt", desc := "(I)I" } : Jvm.MethodName)) ∈ WS0 := ws0_t (i := 608) (by decide +kernel) (by decide +kernel)
theorem q609 : (Jvm.Cond.instanceMethod ({ cls := "TextPipeline", name := "keyAt", desc := "(I)I" } : Jvm.MethodName)) ∈ WS0 := ws0_t (i := 609) (by decide +kernel) (by decide +kernel)
theorem q610 : (Jvm.Cond.selects "TextPipeline" ({ cls := "TextPipeline", name := "keyAt", desc := "(I)I" } : Jvm.MethodName) ({ cls := "TextPipeline", name := "keyAt", desc := "(I)I" } : Jvm.MethodName)) ∈ WS0 := ws0_t (i := 610) (by decide +kernel) (by decide +kernel)
theorem q611 : (Jvm.Cond.code ({ cls := "TextPipeline", name := "keyAt", desc := "(I)I" } : Jvm.MethodName) prog_1_method_14_code (2 : Nat) (Option.some Jvm.ClassFile.FieldType.int)) ∈ WS0 := ws0_t (i := 611) (by decide +kernel) (by decide +kernel)
theorem q613 : (Jvm.Cond.methodLink "TextPipelineLaw" (118 : Nat) ({ cls := "TextPipelineLaw", name := "keep", desc := "(LTextPipeline;I)I" } : Jvm.MethodName)) ∈ WS0 := ws0_t (i := 613) (by decide +kernel) (by decide +kernel)
theorem q614 : (Jvm.Cond.static ({ cls := "TextPipelineLaw", name := "keep", desc := "(LTextPipeline;I)I" } : Jvm.MethodName)) ∈ WS0 := ws0_t (i := 614) (by decide +kernel) (by decide +kernel)
theorem q616 : (Jvm.Cond.methodLink "TextPipelineLaw" (51 : Nat) ({ cls := "TextPipeline", name := "keep", desc := "(I)V" } : Jvm.MethodName)) ∈ WS0 := ws0_t (i := 616) (by decide +kernel) (by decide +kernel)
theorem q617 : (Jvm.Cond.instanceMethod ({ cls := "TextPipeline", name := "keep", desc := "(I)V" } : Jvm.MethodName)) ∈ WS0 := ws0_t (i := 617) (by decide +kernel) (by decide +kernel)
theorem q618 : (Jvm.Cond.selects "TextPipeline" ({ cls := "TextPipeline", name := "keep", desc := "(I)V" } : Jvm.MethodName) ({ cls := "TextPipeline", name := "keep", desc := "(I)V" } : Jvm.MethodName)) ∈ WS0 := ws0_t (i := 618) (by decide +kernel) (by decide +kernel)
theorem q619 : (Jvm.Cond.code ({ cls := "TextPipeline", name := "keep", desc := "(I)V" } : Jvm.MethodName) prog_1_method_15_code (2 : Nat) (Option.none : Option Jvm.ClassFile.FieldType)) ∈ WS0 := ws0_t (i := 619) (by decide +kernel) (by decide +kernel)
theorem q620 : (Jvm.Cond.methodLink "TextPipeline" (165 : Nat) ({ cls := "TextPipeline", name := "requireSlot", desc := "(I)V" } : Jvm.MethodName)) ∈ WS0 := ws0_t (i := 620) (by decide +kernel) (by decide +kernel)
theorem q621 : (Jvm.Cond.static ({ cls := "TextPipeline", name := "requireSlot", desc := "(I)V" } : Jvm.MethodName)) ∈ WS0 := ws0_t (i := 621) (by decide +kernel) (by decide +kernel)
theorem q622 : (Jvm.Cond.code ({ cls := "TextPipeline", name := "requireSlot", desc := "(I)V" } : Jvm.MethodName) prog_1_method_21_code (1 : Nat) (Option.none : Option Jvm.ClassFile.FieldType)) ∈ WS0 := ws0_t (i := 622) (by decide +kernel) (by decide +kernel)
theorem q624 : (Jvm.Cond.methodLink "TextPipelineLaw" (122 : Nat) ({ cls := "TextPipelineLaw", name := "compare", desc := "(LTextPipeline;I[J)I" } : Jvm.MethodName)) ∈ WS0 := ws0_t (i := 624) (by decide +kernel) (by decide +kernel)
theorem q625 : (Jvm.Cond.static ({ cls := "TextPipelineLaw", name := "compare", desc := "(LTextPipeline;I[J)I" } : Jvm.MethodName)) ∈ WS0 := ws0_t (i := 625) (by decide +kernel) (by decide +kernel)
theorem q627 : (Jvm.Cond.methodLink "TextPipelineLaw" (55 : Nat) ({ cls := "TextPipeline", name := "compare", desc := "(I)I" } : Jvm.MethodName)) ∈ WS0 := ws0_t (i := 627) (by decide +kernel) (by decide +kernel)
theorem q628 : (Jvm.Cond.instanceMethod ({ cls := "TextPipeline", name := "compare", desc := "(I)I" } : Jvm.MethodName)) ∈ WS0 := ws0_t (i := 628) (by decide +kernel) (by decide +kernel)
theorem q629 : (Jvm.Cond.selects "TextPipeline" ({ cls := "TextPipeline", name := "compare", desc := "(I)I" } : Jvm.MethodName) ({ cls := "TextPipeline", name := "compare", desc := "(I)I" } : Jvm.MethodName)) ∈ WS0 := ws0_t (i := 629) (by decide +kernel) (by decide +kernel)
theorem q630 : (Jvm.Cond.code ({ cls := "TextPipeline", name := "compare", desc := "(I)I" } : Jvm.MethodName) prog_1_method_16_code (2 : Nat) (Option.some Jvm.ClassFile.FieldType.int)) ∈ WS0 := ws0_t (i := 630) (by decide +kernel) (by decide +kernel)
theorem q631 : (Jvm.Cond.methodLink "TextPipeline" (171 : Nat) ({ cls := "TextPipeline$Row", name := "comparedWith", desc := "(LTextPipeline$Row;)I" } : Jvm.MethodName)) ∈ WS0 := ws0_t (i := 631) (by decide +kernel) (by decide +kernel)
theorem q632 : (Jvm.Cond.instanceMethod ({ cls := "TextPipeline$Row", name := "comparedWith", desc := "(LTextPipeline$Row;)I" } : Jvm.MethodName)) ∈ WS0 := ws0_t (i := 632) (by decide +kernel) (by decide +kernel)
theorem q633 : (Jvm.Cond.selects "TextPipeline$Row" ({ cls := "TextPipeline$Row", name := "comparedWith", desc := "(LTextPipeline$Row;)I" } : Jvm.MethodName) ({ cls := "TextPipeline$Row", name := "comparedWith", desc := "(LTextPipeline$Row;)I" } : Jvm.MethodName)) ∈ WS0 := ws0_t (i := 633) (by decide +kernel) (by decide +kernel)
theorem q634 : (Jvm.Cond.code ({ cls := "TextPipeline$Row", name := "comparedWith", desc := "(LTextPipeline$Row;)I" } : Jvm.MethodName) prog_6_method_9_code (4 : Nat) (Option.some Jvm.ClassFile.FieldType.int)) ∈ WS0 := ws0_t (i := 634) (by decide +kernel) (by decide +kernel)
theorem q635 : (Jvm.Cond.methodLink "TextPipeline$Row" (30 : Nat) ({ cls := "java/lang/Integer", name := "compare", desc := "(II)I" } : Jvm.MethodName)) ∈ WS0 := ws0_t (i := 635) (by decide +kernel) (by decide +kernel)
theorem q636 : (Jvm.Cond.static ({ cls := "java/lang/Integer", name := "compare", desc := "(II)I" } : Jvm.MethodName)) ∈ WS0 := ws0_t (i := 636) (by decide +kernel) (by decide +kernel)
theorem q637 : (Jvm.Cond.code ({ cls := "java/lang/Integer", name := "compare", desc := "(II)I" } : Jvm.MethodName) prog_15_method_40_code (2 : Nat) (Option.some Jvm.ClassFile.FieldType.int)) ∈ WS0 := ws0_t (i := 637) (by decide +kernel) (by decide +kernel)
theorem q638 : (Jvm.Cond.methodLink "TextPipelineLaw" (125 : Nat) ({ cls := "TextPipelineLaw", name := "same", desc := "(LTextPipeline;I[J)I" } : Jvm.MethodName)) ∈ WS0 := ws0_t (i := 638) (by decide +kernel) (by decide +kernel)
theorem q639 : (Jvm.Cond.static ({ cls := "TextPipelineLaw", name := "same", desc := "(LTextPipeline;I[J)I" } : Jvm.MethodName)) ∈ WS0 := ws0_t (i := 639) (by decide +kernel) (by decide +kernel)
theorem q641 : (Jvm.Cond.methodLink "TextPipelineLaw" (58 : Nat) ({ cls := "TextPipeline", name := "same", desc := "(I)Z" } : Jvm.MethodName)) ∈ WS0 := ws0_t (i := 641) (by decide +kernel) (by decide +kernel)
theorem q642 : (Jvm.Cond.instanceMethod ({ cls := "TextPipeline", name := "same", desc := "(I)Z" } : Jvm.MethodName)) ∈ WS0 := ws0_t (i := 642) (by decide +kernel) (by decide +kernel)
theorem q643 : (Jvm.Cond.selects "TextPipeline" ({ cls := "TextPipeline", name := "same", desc := "(I)Z" } : Jvm.MethodName) ({ cls := "TextPipeline", name := "same", desc := "(I)Z" } : Jvm.MethodName)) ∈ WS0 := ws0_t (i := 643) (by decide +kernel) (by decide +kernel)
theorem q644 : (Jvm.Cond.code ({ cls := "TextPipeline", name := "same", desc := "(I)Z" } : Jvm.MethodName) prog_1_method_17_code (2 : Nat) (Option.some Jvm.ClassFile.FieldType.boolean)) ∈ WS0 := ws0_t (i := 644) (by decide +kernel) (by decide +kernel)
theorem q645 : (Jvm.Cond.classLink "TextPipelineLaw" (62 : Nat) "TextPipelineModel") ∈ WS0 := ws0_t (i := 645) (by decide +kernel) (by decide +kernel)
theorem q646 : (Jvm.Cond.instantiable "TextPipelineModel" (24 : Nat)) ∈ WS0 := ws0_t (i := 646) (by decide +kernel) (by decide +kernel)
theorem q647 : (Jvm.Cond.methodLink "TextPipelineLaw" (64 : Nat) ({ cls := "TextPipelineModel", name := "<init>", desc := "()V" } : Jvm.MethodName)) ∈ WS0 := ws0_t (i := 647) (by decide +kernel) (by decide +kernel)
theorem q648 : (Jvm.Cond.instanceMethod ({ cls := "TextPipelineModel", name := "<init>", desc := "()V" } : Jvm.MethodName)) ∈ WS0 := ws0_t (i := 648) (by decide +kernel) (by decide +kernel)
theorem q649 : (Jvm.Cond.code ({ cls := "TextPipelineModel", name := "<init>", desc := "()V" } : Jvm.MethodName) prog_10_method_1_code (2 : Nat) (Option.none : Option Jvm.ClassFile.FieldType)) ∈ WS0 := ws0_t (i := 649) (by decide +kernel) (by decide +kernel)
theorem q650 : (Jvm.Cond.methodLink "TextPipelineModel" (1 : Nat) ({ cls := "java/lang/Object", name := "<init>", desc := "()V" } : Jvm.MethodName)) ∈ WS0 := ws0_t (i := 650) (by decide +kernel) (by decide +kernel)
theorem q651 : (Jvm.Cond.fieldLink "TextPipelineModel" (65 : Nat) "TextPipelineModel" "thrown" "I") ∈ WS0 := ws0_t (i := 651) (by decide +kernel) (by decide +kernel)
theorem q652 : (Jvm.Cond.fieldLink "TextPipelineModel" (7 : Nat) "TextPipelineModel" "table" "[I") ∈ WS0 := ws0_t (i := 652) (by decide +kernel) (by decide +kernel)
theorem q653 : (Jvm.Cond.fieldLink "TextPipelineModel" (13 : Nat) "TextPipelineModel" "first" "[I") ∈ WS0 := ws0_t (i := 653) (by decide +kernel) (by decide +kernel)
theorem q654 : (Jvm.Cond.fieldLink "TextPipelineModel" (16 : Nat) "TextPipelineModel" "second" "[I") ∈ WS0 := ws0_t (i := 654) (by decide +kernel) (by decide +kernel)
theorem q655 : (Jvm.Cond.fieldLink "TextPipelineModel" (19 : Nat) "TextPipelineModel" "left" "[Z") ∈ WS0 := ws0_t (i := 655) (by decide +kernel) (by decide +kernel)
theorem q656 : (Jvm.Cond.fieldLink "TextPipelineModel" (23 : Nat) "TextPipelineModel" "counts" "[I") ∈ WS0 := ws0_t (i := 656) (by decide +kernel) (by decide +kernel)
theorem q657 : (Jvm.Cond.fieldLink "TextPipelineModel" (77 : Nat) "TextPipelineModel" "length" "I") ∈ WS0 := ws0_t (i := 657) (by decide +kernel) (by decide +kernel)
theorem q658 : (Jvm.Cond.fieldLink "TextPipelineModel" (26 : Nat) "TextPipelineModel" "text" "[I") ∈ WS0 := ws0_t (i := 658) (by decide +kernel) (by decide +kernel)
theorem q659 : (Jvm.Cond.fieldLink "TextPipelineModel" (29 : Nat) "TextPipelineModel" "keptLength" "[I") ∈ WS0 := ws0_t (i := 659) (by decide +kernel) (by decide +kernel)
theorem q660 : (Jvm.Cond.fieldLink "TextPipelineModel" (32 : Nat) "TextPipelineModel" "kept" "[I") ∈ WS0 := ws0_t (i := 660) (by decide +kernel) (by decide +kernel)
theorem q661 : (Jvm.Cond.fieldLink "TextPipelineModel" (84 : Nat) "TextPipelineModel" "formLength" "I") ∈ WS0 := ws0_t (i := 661) (by decide +kernel) (by decide +kernel)
theorem q662 : (Jvm.Cond.fieldLink "TextPipelineModel" (35 : Nat) "TextPipelineModel" "form" "[I") ∈ WS0 := ws0_t (i := 662) (by decide +kernel) (by decide +kernel)
theorem q663 : (Jvm.Cond.fieldLink "TextPipelineModel" (202 : Nat) "TextPipelineModel" "otherLength" "I") ∈ WS0 := ws0_t (i := 663) (by decide +kernel) (by decide +kernel)
theorem q664 : (Jvm.Cond.fieldLink "TextPipelineModel" (38 : Nat) "TextPipelineModel" "other" "[I") ∈ WS0 := ws0_t (i := 664) (by decide +kernel) (by decide +kernel)
theorem q665 : (Jvm.Cond.fieldLink "TextPipelineModel" (41 : Nat) "TextPipelineModel" "pile" "[I") ∈ WS0 := ws0_t (i := 665) (by decide +kernel) (by decide +kernel)
theorem q666 : (Jvm.Cond.fieldLink "TextPipelineModel" (184 : Nat) "TextPipelineModel" "keyLength" "I") ∈ WS0 := ws0_t (i := 666) (by decide +kernel) (by decide +kernel)
theorem q667 : (Jvm.Cond.fieldLink "TextPipelineModel" (44 : Nat) "TextPipelineModel" "numbers" "[I") ∈ WS0 := ws0_t (i := 667) (by decide +kernel) (by decide +kernel)
theorem q668 : (Jvm.Cond.fieldLink "TextPipelineModel" (199 : Nat) "TextPipelineModel" "otherKeyLength" "I") ∈ WS0 := ws0_t (i := 668) (by decide +kernel) (by decide +kernel)
theorem q669 : (Jvm.Cond.fieldLink "TextPipelineModel" (47 : Nat) "TextPipelineModel" "otherNumbers" "[I") ∈ WS0 := ws0_t (i := 669) (by decide +kernel) (by decide +kernel)
theorem q670 : (Jvm.Cond.fieldLink "TextPipelineModel" (50 : Nat) "TextPipelineModel" "lineClass" "[I") ∈ WS0 := ws0_t (i := 670) (by decide +kernel) (by decide +kernel)
theorem q671 : (Jvm.Cond.fieldLink "TextPipelineModel" (53 : Nat) "TextPipelineModel" "follows" "[Z") ∈ WS0 := ws0_t (i := 671) (by decide +kernel) (by decide +kernel)
theorem q672 : (Jvm.Cond.fieldLink "TextPipelineModel" (56 : Nat) "TextPipelineModel" "side" "[I") ∈ WS0 := ws0_t (i := 672) (by decide +kernel) (by decide +kernel)
theorem q673 : (Jvm.Cond.fieldLink "TextPipelineModel" (59 : Nat) "TextPipelineModel" "levels" "[I") ∈ WS0 := ws0_t (i := 673) (by decide +kernel) (by decide +kernel)
theorem q674 : (Jvm.Cond.fieldLink "TextPipelineModel" (62 : Nat) "TextPipelineModel" "orders" "[I") ∈ WS0 := ws0_t (i := 674) (by decide +kernel) (by decide +kernel)
theorem q675 : (Jvm.Cond.lays "TextPipelineModel" "TextPipelineModel" "thrown" "I") ∈ WS0 := ws0_t (i := 675) (by decide +kernel) (by decide +kernel)
theorem q677 : (Jvm.Cond.lays "TextPipelineModel" "TextPipelineModel" "table" "[I") ∈ WS0 := ws0_t (i := 677) (by decide +kernel) (by decide +kernel)
theorem q679 : (Jvm.Cond.lays "TextPipelineModel" "TextPipelineModel" "first" "[I") ∈ WS0 := ws0_t (i := 679) (by decide +kernel) (by decide +kernel)
theorem q681 : (Jvm.Cond.lays "TextPipelineModel" "TextPipelineModel" "second" "[I") ∈ WS0 := ws0_t (i := 681) (by decide +kernel) (by decide +kernel)
theorem q683 : (Jvm.Cond.lays "TextPipelineModel" "TextPipelineModel" "left" "[Z") ∈ WS0 := ws0_t (i := 683) (by decide +kernel) (by decide +kernel)
theorem q685 : (Jvm.Cond.lays "TextPipelineModel" "TextPipelineModel" "counts" "[I") ∈ WS0 := ws0_t (i := 685) (by decide +kernel) (by decide +kernel)
theorem q687 : (Jvm.Cond.lays "TextPipelineModel" "TextPipelineModel" "length" "I") ∈ WS0 := ws0_t (i := 687) (by decide +kernel) (by decide +kernel)
theorem q689 : (Jvm.Cond.lays "TextPipelineModel" "TextPipelineModel" "text" "[I") ∈ WS0 := ws0_t (i := 689) (by decide +kernel) (by decide +kernel)
theorem q691 : (Jvm.Cond.lays "TextPipelineModel" "TextPipelineModel" "keptLength" "[I") ∈ WS0 := ws0_t (i := 691) (by decide +kernel) (by decide +kernel)
theorem q693 : (Jvm.Cond.lays "TextPipelineModel" "TextPipelineModel" "kept" "[I") ∈ WS0 := ws0_t (i := 693) (by decide +kernel) (by decide +kernel)
theorem q695 : (Jvm.Cond.lays "TextPipelineModel" "TextPipelineModel" "formLength" "I") ∈ WS0 := ws0_t (i := 695) (by decide +kernel) (by decide +kernel)
theorem q697 : (Jvm.Cond.lays "TextPipelineModel" "TextPipelineModel" "form" "[I") ∈ WS0 := ws0_t (i := 697) (by decide +kernel) (by decide +kernel)
theorem q699 : (Jvm.Cond.lays "TextPipelineModel" "TextPipelineModel" "otherLength" "I") ∈ WS0 := ws0_t (i := 699) (by decide +kernel) (by decide +kernel)
theorem q701 : (Jvm.Cond.lays "TextPipelineModel" "TextPipelineModel" "other" "[I") ∈ WS0 := ws0_t (i := 701) (by decide +kernel) (by decide +kernel)
theorem q703 : (Jvm.Cond.lays "TextPipelineModel" "TextPipelineModel" "pile" "[I") ∈ WS0 := ws0_t (i := 703) (by decide +kernel) (by decide +kernel)
theorem q705 : (Jvm.Cond.lays "TextPipelineModel" "TextPipelineModel" "keyLength" "I") ∈ WS0 := ws0_t (i := 705) (by decide +kernel) (by decide +kernel)
theorem q707 : (Jvm.Cond.lays "TextPipelineModel" "TextPipelineModel" "numbers" "[I") ∈ WS0 := ws0_t (i := 707) (by decide +kernel) (by decide +kernel)
theorem q709 : (Jvm.Cond.lays "TextPipelineModel" "TextPipelineModel" "otherKeyLength" "I") ∈ WS0 := ws0_t (i := 709) (by decide +kernel) (by decide +kernel)
theorem q711 : (Jvm.Cond.lays "TextPipelineModel" "TextPipelineModel" "otherNumbers" "[I") ∈ WS0 := ws0_t (i := 711) (by decide +kernel) (by decide +kernel)
theorem q713 : (Jvm.Cond.lays "TextPipelineModel" "TextPipelineModel" "lineClass" "[I") ∈ WS0 := ws0_t (i := 713) (by decide +kernel) (by decide +kernel)
theorem q715 : (Jvm.Cond.lays "TextPipelineModel" "TextPipelineModel" "follows" "[Z") ∈ WS0 := ws0_t (i := 715) (by decide +kernel) (by decide +kernel)
theorem q717 : (Jvm.Cond.lays "TextPipelineModel" "TextPipelineModel" "side" "[I") ∈ WS0 := ws0_t (i := 717) (by decide +kernel) (by decide +kernel)
theorem q719 : (Jvm.Cond.lays "TextPipelineModel" "TextPipelineModel" "levels" "[I") ∈ WS0 := ws0_t (i := 719) (by decide +kernel) (by decide +kernel)
theorem q721 : (Jvm.Cond.lays "TextPipelineModel" "TextPipelineModel" "orders" "[I") ∈ WS0 := ws0_t (i := 721) (by decide +kernel) (by decide +kernel)
theorem q724 : (Jvm.Cond.methodLink "TextPipelineLaw" (71 : Nat) ({ cls := "TextPipelineModel", name := "thrown", desc := "()I" } : Jvm.MethodName)) ∈ WS0 := ws0_t (i := 724) (by decide +kernel) (by decide +kernel)
theorem q725 : (Jvm.Cond.instanceMethod ({ cls := "TextPipelineModel", name := "thrown", desc := "()I" } : Jvm.MethodName)) ∈ WS0 := ws0_t (i := 725) (by decide +kernel) (by decide +kernel)
theorem q726 : (Jvm.Cond.selects "TextPipelineModel" ({ cls := "TextPipelineModel", name := "thrown", desc := "()I" } : Jvm.MethodName) ({ cls := "TextPipelineModel", name := "thrown", desc := "()I" } : Jvm.MethodName)) ∈ WS0 := ws0_t (i := 726) (by decide +kernel) (by decide +kernel)
theorem q727 : (Jvm.Cond.code ({ cls := "TextPipelineModel", name := "thrown", desc := "()I" } : Jvm.MethodName) prog_10_method_2_code (1 : Nat) (Option.some Jvm.ClassFile.FieldType.int)) ∈ WS0 := ws0_t (i := 727) (by decide +kernel) (by decide +kernel)
theorem q728 : (Jvm.Cond.methodLink "TextPipelineLaw" (70 : Nat) ({ cls := "TextPipelineModel", name := "set", desc := "(III)V" } : Jvm.MethodName)) ∈ WS0 := ws0_t (i := 728) (by decide +kernel) (by decide +kernel)
theorem q729 : (Jvm.Cond.instanceMethod ({ cls := "TextPipelineModel", name := "set", desc := "(III)V" } : Jvm.MethodName)) ∈ WS0 := ws0_t (i := 729) (by decide +kernel) (by decide +kernel)
theorem q730 : (Jvm.Cond.selects "TextPipelineModel" ({ cls := "TextPipelineModel", name := "set", desc := "(III)V" } : Jvm.MethodName) ({ cls := "TextPipelineModel", name := "set", desc := "(III)V" } : Jvm.MethodName)) ∈ WS0 := ws0_t (i := 730) (by decide +kernel) (by decide +kernel)
theorem q731 : (Jvm.Cond.code ({ cls := "TextPipelineModel", name := "set", desc := "(III)V" } : Jvm.MethodName) prog_10_method_3_code (5 : Nat) (Option.none : Option Jvm.ClassFile.FieldType)) ∈ WS0 := ws0_t (i := 731) (by decide +kernel) (by decide +kernel)
theorem q732 : (Jvm.Cond.methodLink "TextPipelineLaw" (78 : Nat) ({ cls := "TextPipelineModel", name := "part", desc := "(IIIZ)V" } : Jvm.MethodName)) ∈ WS0 := ws0_t (i := 732) (by decide +kernel) (by decide +kernel)
theorem q733 : (Jvm.Cond.instanceMethod ({ cls := "TextPipelineModel", name := "part", desc := "(IIIZ)V" } : Jvm.MethodName)) ∈ WS0 := ws0_t (i := 733) (by decide +kernel) (by decide +kernel)
theorem q734 : (Jvm.Cond.selects "TextPipelineModel" ({ cls := "TextPipelineModel", name := "part", desc := "(IIIZ)V" } : Jvm.MethodName) ({ cls := "TextPipelineModel", name := "part", desc := "(IIIZ)V" } : Jvm.MethodName)) ∈ WS0 := ws0_t (i := 734) (by decide +kernel) (by decide +kernel)
theorem q735 : (Jvm.Cond.code ({ cls := "TextPipelineModel", name := "part", desc := "(IIIZ)V" } : Jvm.MethodName) prog_10_method_5_code (7 : Nat) (Option.none : Option Jvm.ClassFile.FieldType)) ∈ WS0 := ws0_t (i := 735) (by decide +kernel) (by decide +kernel)
theorem q736 : (Jvm.Cond.methodLink "TextPipelineModel" (69 : Nat) ({ cls := "TextPipelineModel", name := "isShort", desc := "()Z" } : Jvm.MethodName)) ∈ WS0 := ws0_t (i := 736) (by decide +kernel) (by decide +kernel)
theorem q738 : (Jvm.Cond.instanceMethod ({ cls := "TextPipelineModel", name := "isShort", desc := "()Z" } : Jvm.MethodName)) ∈ WS0 := ws0_t (i := 738) (by decide +kernel) (by decide +kernel)
theorem q739 : (Jvm.Cond.code ({ cls := "TextPipelineModel", name := "isShort", desc := "()Z" } : Jvm.MethodName) prog_10_method_4_code (3 : Nat) (Option.some Jvm.ClassFile.FieldType.boolean)) ∈ WS0 := ws0_t (i := 739) (by decide +kernel) (by decide +kernel)
theorem q740 : (Jvm.Cond.methodLink "TextPipelineLaw" (82 : Nat) ({ cls := "TextPipelineModel", name := "type", desc := "(I)I" } : Jvm.MethodName)) ∈ WS0 := ws0_t (i := 740) (by decide +kernel) (by decide +kernel)
theorem q741 : (Jvm.Cond.instanceMethod ({ cls := "TextPipelineModel", name := "type", desc := "(I)I" } : Jvm.MethodName)) ∈ WS0 := ws0_t (i := 741) (by decide +kernel) (by decide +kernel)
theorem q742 : (Jvm.Cond.selects "TextPipelineModel" ({ cls := "TextPipelineModel", name := "type", desc := "(I)I" } : Jvm.MethodName) ({ cls := "TextPipelineModel", name := "type", desc := "(I)I" } : Jvm.MethodName)) ∈ WS0 := ws0_t (i := 742) (by decide +kernel) (by decide +kernel)
theorem q743 : (Jvm.Cond.code ({ cls := "TextPipelineModel", name := "type", desc := "(I)I" } : Jvm.MethodName) prog_10_method_16_code (2 : Nat) (Option.some Jvm.ClassFile.FieldType.int)) ∈ WS0 := ws0_t (i := 743) (by decide +kernel) (by decide +kernel)
theorem q744 : (Jvm.Cond.methodLink "TextPipelineLaw" (86 : Nat) ({ cls := "TextPipelineModel", name := "wipe", desc := "()V" } : Jvm.MethodName)) ∈ WS0 := ws0_t (i := 744) (by decide +kernel) (by decide +kernel)
theorem q745 : (Jvm.Cond.instanceMethod ({ cls := "TextPipelineModel", name := "wipe", desc := "()V" } : Jvm.MethodName)) ∈ WS0 := ws0_t (i := 745) (by decide +kernel) (by decide +kernel)
theorem q746 : (Jvm.Cond.selects "TextPipelineModel" ({ cls := "TextPipelineModel", name := "wipe", desc := "()V" } : Jvm.MethodName) ({ cls := "TextPipelineModel", name := "wipe", desc := "()V" } : Jvm.MethodName)) ∈ WS0 := ws0_t (i := 746) (by decide +kernel) (by decide +kernel)
theorem q747 : (Jvm.Cond.code ({ cls := "TextPipelineModel", name := "wipe", desc := "()V" } : Jvm.MethodName) prog_10_method_17_code (1 : Nat) (Option.none : Option Jvm.ClassFile.FieldType)) ∈ WS0 := ws0_t (i := 747) (by decide +kernel) (by decide +kernel)
theorem q748 : (Jvm.Cond.methodLink "TextPipelineLaw" (93 : Nat) ({ cls := "TextPipelineModel", name := "at", desc := "(I)I" } : Jvm.MethodName)) ∈ WS0 := ws0_t (i := 748) (by decide +kernel) (by decide +kernel)
theorem q749 : (Jvm.Cond.instanceMethod ({ cls := "TextPipelineModel", name := "at", desc := "(I)I" } : Jvm.MethodName)) ∈ WS0 := ws0_t (i := 749) (by decide +kernel) (by decide +kernel)
theorem q750 : (Jvm.Cond.selects "TextPipelineModel" ({ cls := "TextPipelineModel", name := "at", desc := "(I)I" } : Jvm.MethodName) ({ cls := "TextPipelineModel", name := "at", desc := "(I)I" } : Jvm.MethodName)) ∈ WS0 := ws0_t (i := 750) (by decide +kernel) (by decide +kernel)
theorem q751 : (Jvm.Cond.code ({ cls := "TextPipelineModel", name := "at", desc := "(I)I" } : Jvm.MethodName) prog_10_method_19_code (2 : Nat) (Option.some Jvm.ClassFile.FieldType.int)) ∈ WS0 := ws0_t (i := 751) (by decide +kernel) (by decide +kernel)
theorem q752 : (Jvm.Cond.methodLink "TextPipelineModel" (80 : Nat) ({ cls := "TextPipelineModel", name := "noPlace", desc := "(II)Z" } : Jvm.MethodName)) ∈ WS0 := ws0_t (i := 752) (by decide +kernel) (by decide +kernel)
theorem q754 : (Jvm.Cond.instanceMethod ({ cls := "TextPipelineModel", name := "noPlace", desc := "(II)Z" } : Jvm.MethodName)) ∈ WS0 := ws0_t (i := 754) (by decide +kernel) (by decide +kernel)
theorem q755 : (Jvm.Cond.code ({ cls := "TextPipelineModel", name := "noPlace", desc := "(II)Z" } : Jvm.MethodName) prog_10_method_18_code (3 : Nat) (Option.some Jvm.ClassFile.FieldType.boolean)) ∈ WS0 := ws0_t (i := 755) (by decide +kernel) (by decide +kernel)
theorem q756 : (Jvm.Cond.methodLink "TextPipelineLaw" (90 : Nat) ({ cls := "TextPipelineModel", name := "bring", desc := "(Z)I" } : Jvm.MethodName)) ∈ WS0 := ws0_t (i := 756) (by decide +kernel) (by decide +kernel)
theorem q757 : (Jvm.Cond.instanceMethod ({ cls := "TextPipelineModel", name := "bring", desc := "(Z)I" } : Jvm.MethodName)) ∈ WS0 := ws0_t (i := 757) (by decide +kernel) (by decide +kernel)
theorem q758 : (Jvm.Cond.selects "TextPipelineModel" ({ cls := "TextPipelineModel", name := "bring", desc := "(Z)I" } : Jvm.MethodName) ({ cls := "TextPipelineModel", name := "bring", desc := "(Z)I" } : Jvm.MethodName)) ∈ WS0 := ws0_t (i := 758) (by decide +kernel) (by decide +kernel)
theorem q759 : (Jvm.Cond.code ({ cls := "TextPipelineModel", name := "bring", desc := "(Z)I" } : Jvm.MethodName) prog_10_method_29_code (3 : Nat) (Option.some Jvm.ClassFile.FieldType.int)) ∈ WS0 := ws0_t (i := 759) (by decide +kernel) (by decide +kernel)
theorem q760 : (Jvm.Cond.methodLink "TextPipelineModel" (123 : Nat) ({ cls := "TextPipelineModel", name := "partText", desc := "()V" } : Jvm.MethodName)) ∈ WS0 := ws0_t (i := 760) (by decide +kernel) (by decide +kernel)
theorem q762 : (Jvm.Cond.instanceMethod ({ cls := "TextPipelineModel", name := "partText", desc := "()V" } : Jvm.MethodName)) ∈ WS0 := ws0_t (i := 762) (by decide +kernel) (by decide +kernel)
theorem q763 : (Jvm.Cond.code ({ cls := "TextPipelineModel", name := "partText", desc := "()V" } : Jvm.MethodName) prog_10_method_23_code (2 : Nat) (Option.none : Option Jvm.ClassFile.FieldType)) ∈ WS0 := ws0_t (i := 763) (by decide +kernel) (by decide +kernel)
theorem q764 : (Jvm.Cond.methodLink "TextPipelineModel" (95 : Nat) ({ cls := "TextPipelineModel", name := "putParts", desc := "(I)V" } : Jvm.MethodName)) ∈ WS0 := ws0_t (i := 764) (by decide +kernel) (by decide +kernel)
theorem q766 : (Jvm.Cond.instanceMethod ({ cls := "TextPipelineModel", name := "putParts", desc := "(I)V" } : Jvm.MethodName)) ∈ WS0 := ws0_t (i := 766) (by decide +kernel) (by decide +kernel)
theorem q767 : (Jvm.Cond.code ({ cls := "TextPipelineModel", name := "putParts", desc := "(I)V" } : Jvm.MethodName) prog_10_method_21_code (4 : Nat) (Option.none : Option Jvm.ClassFile.FieldType)) ∈ WS0 := ws0_t (i := 767) (by decide +kernel) (by decide +kernel)
theorem q768 : (Jvm.Cond.methodLink "TextPipelineModel" (87 : Nat) ({ cls := "TextPipelineModel", name := "put", desc := "(I)V" } : Jvm.MethodName)) ∈ WS0 := ws0_t (i := 768) (by decide +kernel) (by decide +kernel)
theorem q770 : (Jvm.Cond.instanceMethod ({ cls := "TextPipelineModel", name := "put", desc := "(I)V" } : Jvm.MethodName)) ∈ WS0 := ws0_t (i := 770) (by decide +kernel) (by decide +kernel)
theorem q771 : (Jvm.Cond.code ({ cls := "TextPipelineModel", name := "put", desc := "(I)V" } : Jvm.MethodName) prog_10_method_20_code (2 : Nat) (Option.none : Option Jvm.ClassFile.FieldType)) ∈ WS0 := ws0_t (i := 771) (by decide +kernel) (by decide +kernel)
theorem q772 : (Jvm.Cond.methodLink "TextPipelineModel" (98 : Nat) ({ cls := "TextPipelineModel", name := "rankForm", desc := "()V" } : Jvm.MethodName)) ∈ WS0 := ws0_t (i := 772) (by decide +kernel) (by decide +kernel)
theorem q774 : (Jvm.Cond.instanceMethod ({ cls := "TextPipelineModel", name := "rankForm", desc := "()V" } : Jvm.MethodName)) ∈ WS0 := ws0_t (i := 774) (by decide +kernel) (by decide +kernel)
theorem q775 : (Jvm.Cond.code ({ cls := "TextPipelineModel", name := "rankForm", desc := "()V" } : Jvm.MethodName) prog_10_method_22_code (5 : Nat) (Option.none : Option Jvm.ClassFile.FieldType)) ∈ WS0 := ws0_t (i := 775) (by decide +kernel) (by decide +kernel)
theorem q776 : (Jvm.Cond.methodLink "TextPipelineModel" (91 : Nat) ({ cls := "TextPipelineModel", name := "rank", desc := "(I)I" } : Jvm.MethodName)) ∈ WS0 := ws0_t (i := 776) (by decide +kernel) (by decide +kernel)
theorem q778 : (Jvm.Cond.instanceMethod ({ cls := "TextPipelineModel", name := "rank", desc := "(I)I" } : Jvm.MethodName)) ∈ WS0 := ws0_t (i := 778) (by decide +kernel) (by decide +kernel)
theorem q779 : (Jvm.Cond.code ({ cls := "TextPipelineModel", name := "rank", desc := "(I)I" } : Jvm.MethodName) prog_10_method_7_code (2 : Nat) (Option.some Jvm.ClassFile.FieldType.int)) ∈ WS0 := ws0_t (i := 779) (by decide +kernel) (by decide +kernel)
theorem q780 : (Jvm.Cond.methodLink "TextPipelineModel" (73 : Nat) ({ cls := "TextPipelineModel", name := "property", desc := "(II)I" } : Jvm.MethodName)) ∈ WS0 := ws0_t (i := 780) (by decide +kernel) (by decide +kernel)
theorem q782 : (Jvm.Cond.instanceMethod ({ cls := "TextPipelineModel", name := "property", desc := "(II)I" } : Jvm.MethodName)) ∈ WS0 := ws0_t (i := 782) (by decide +kernel) (by decide +kernel)
theorem q783 : (Jvm.Cond.code ({ cls := "TextPipelineModel", name := "property", desc := "(II)I" } : Jvm.MethodName) prog_10_method_6_code (3 : Nat) (Option.some Jvm.ClassFile.FieldType.int)) ∈ WS0 := ws0_t (i := 783) (by decide +kernel) (by decide +kernel)
theorem q784 : (Jvm.Cond.methodLink "TextPipelineModel" (126 : Nat) ({ cls := "TextPipelineModel", name := "joinForm", desc := "()V" } : Jvm.MethodName)) ∈ WS0 := ws0_t (i := 784) (by decide +kernel) (by decide +kernel)
theorem q786 : (Jvm.Cond.instanceMethod ({ cls := "TextPipelineModel", name := "joinForm", desc := "()V" } : Jvm.MethodName)) ∈ WS0 := ws0_t (i := 786) (by decide +kernel) (by decide +kernel)
theorem q787 : (Jvm.Cond.code ({ cls := "TextPipelineModel", name := "joinForm", desc := "()V" } : Jvm.MethodName) prog_10_method_28_code (5 : Nat) (Option.none : Option Jvm.ClassFile.FieldType)) ∈ WS0 := ws0_t (i := 787) (by decide +kernel) (by decide +kernel)
theorem q788 : (Jvm.Cond.methodLink "TextPipelineModel" (114 : Nat) ({ cls := "TextPipelineModel", name := "starter", desc := "(I)I" } : Jvm.MethodName)) ∈ WS0 := ws0_t (i := 788) (by decide +kernel) (by decide +kernel)
theorem q790 : (Jvm.Cond.instanceMethod ({ cls := "TextPipelineModel", name := "starter", desc := "(I)I" } : Jvm.MethodName)) ∈ WS0 := ws0_t (i := 790) (by decide +kernel) (by decide +kernel)
theorem q791 : (Jvm.Cond.code ({ cls := "TextPipelineModel", name := "starter", desc := "(I)I" } : Jvm.MethodName) prog_10_method_26_code (3 : Nat) (Option.some Jvm.ClassFile.FieldType.int)) ∈ WS0 := ws0_t (i := 791) (by decide +kernel) (by decide +kernel)
theorem q792 : (Jvm.Cond.methodLink "TextPipelineModel" (117 : Nat) ({ cls := "TextPipelineModel", name := "joins", desc := "(II)I" } : Jvm.MethodName)) ∈ WS0 := ws0_t (i := 792) (by decide +kernel) (by decide +kernel)
theorem q794 : (Jvm.Cond.instanceMethod ({ cls := "TextPipelineModel", name := "joins", desc := "(II)I" } : Jvm.MethodName)) ∈ WS0 := ws0_t (i := 794) (by decide +kernel) (by decide +kernel)
theorem q795 : (Jvm.Cond.code ({ cls := "TextPipelineModel", name := "joins", desc := "(II)I" } : Jvm.MethodName) prog_10_method_25_code (5 : Nat) (Option.some Jvm.ClassFile.FieldType.int)) ∈ WS0 := ws0_t (i := 795) (by decide +kernel) (by decide +kernel)
theorem q796 : (Jvm.Cond.methodLink "TextPipelineModel" (101 : Nat) ({ cls := "TextPipelineModel", name := "isLead", desc := "(I)Z" } : Jvm.MethodName)) ∈ WS0 := ws0_t (i := 796) (by decide +kernel) (by decide +kernel)
theorem q798 : (Jvm.Cond.instanceMethod ({ cls := "TextPipelineModel", name := "isLead", desc := "(I)Z" } : Jvm.MethodName)) ∈ WS0 := ws0_t (i := 798) (by decide +kernel) (by decide +kernel)
theorem q799 : (Jvm.Cond.code ({ cls := "TextPipelineModel", name := "isLead", desc := "(I)Z" } : Jvm.MethodName) prog_10_method_11_code (2 : Nat) (Option.some Jvm.ClassFile.FieldType.boolean)) ∈ WS0 := ws0_t (i := 799) (by decide +kernel) (by decide +kernel)
theorem q800 : (Jvm.Cond.methodLink "TextPipelineModel" (105 : Nat) ({ cls := "TextPipelineModel", name := "isVowel", desc := "(I)Z" } : Jvm.MethodName)) ∈ WS0 := ws0_t (i := 800) (by decide +kernel) (by decide +kernel)
theorem q802 : (Jvm.Cond.instanceMethod ({ cls := "TextPipelineModel", name := "isVowel", desc := "(I)Z" } : Jvm.MethodName)) ∈ WS0 := ws0_t (i := 802) (by decide +kernel) (by decide +kernel)
theorem q803 : (Jvm.Cond.code ({ cls := "TextPipelineModel", name := "isVowel", desc := "(I)Z" } : Jvm.MethodName) prog_10_method_12_code (2 : Nat) (Option.some Jvm.ClassFile.FieldType.boolean)) ∈ WS0 := ws0_t (i := 803) (by decide +kernel) (by decide +kernel)
theorem q804 : (Jvm.Cond.methodLink "TextPipelineModel" (108 : Nat) ({ cls := "TextPipelineModel", name := "isOpen", desc := "(I)Z" } : Jvm.MethodName)) ∈ WS0 := ws0_t (i := 804) (by decide +kernel) (by decide +kernel)
theorem q806 : (Jvm.Cond.instanceMethod ({ cls := "TextPipelineModel", name := "isOpen", desc := "(I)Z" } : Jvm.MethodName)) ∈ WS0 := ws0_t (i := 806) (by decide +kernel) (by decide +kernel)
theorem q807 : (Jvm.Cond.code ({ cls := "TextPipelineModel", name := "isOpen", desc := "(I)Z" } : Jvm.MethodName) prog_10_method_14_code (2 : Nat) (Option.some Jvm.ClassFile.FieldType.boolean)) ∈ WS0 := ws0_t (i := 807) (by decide +kernel) (by decide +kernel)
theorem q808 : (Jvm.Cond.methodLink "TextPipelineModel" (111 : Nat) ({ cls := "TextPipelineModel", name := "isTail", desc := "(I)Z" } : Jvm.MethodName)) ∈ WS0 := ws0_t (i := 808) (by decide +kernel) (by decide +kernel)
theorem q810 : (Jvm.Cond.instanceMethod ({ cls := "TextPipelineModel", name := "isTail", desc := "(I)Z" } : Jvm.MethodName)) ∈ WS0 := ws0_t (i := 810) (by decide +kernel) (by decide +kernel)
theorem q811 : (Jvm.Cond.code ({ cls := "TextPipelineModel", name := "isTail", desc := "(I)Z" } : Jvm.MethodName) prog_10_method_13_code (2 : Nat) (Option.some Jvm.ClassFile.FieldType.boolean)) ∈ WS0 := ws0_t (i := 811) (by decide +kernel) (by decide +kernel)
theorem q812 : (Jvm.Cond.methodLink "TextPipelineModel" (120 : Nat) ({ cls := "TextPipelineModel", name := "isFree", desc := "(II)Z" } : Jvm.MethodName)) ∈ WS0 := ws0_t (i := 812) (by decide +kernel) (by decide +kernel)
theorem q814 : (Jvm.Cond.instanceMethod ({ cls := "TextPipelineModel", name := "isFree", desc := "(II)Z" } : Jvm.MethodName)) ∈ WS0 := ws0_t (i := 814) (by decide +kernel) (by decide +kernel)
theorem q815 : (Jvm.Cond.code ({ cls := "TextPipelineModel", name := "isFree", desc := "(II)Z" } : Jvm.MethodName) prog_10_method_27_code (5 : Nat) (Option.some Jvm.ClassFile.FieldType.boolean)) ∈ WS0 := ws0_t (i := 815) (by decide +kernel) (by decide +kernel)
theorem q816 : (Jvm.Cond.methodLink "TextPipelineLaw" (96 : Nat) ({ cls := "TextPipelineModel", name := "cluster", desc := "(I)Z" } : Jvm.MethodName)) ∈ WS0 := ws0_t (i := 816) (by decide +kernel) (by decide +kernel)
theorem q817 : (Jvm.Cond.instanceMethod ({ cls := "TextPipelineModel", name := "cluster", desc := "(I)Z" } : Jvm.MethodName)) ∈ WS0 := ws0_t (i := 817) (by decide +kernel) (by decide +kernel)
theorem q818 : (Jvm.Cond.selects "TextPipelineModel" ({ cls := "TextPipelineModel", name := "cluster", desc := "(I)Z" } : Jvm.MethodName) ({ cls := "TextPipelineModel", name := "cluster", desc := "(I)Z" } : Jvm.MethodName)) ∈ WS0 := ws0_t (i := 818) (by decide +kernel) (by decide +kernel)
theorem q819 : (Jvm.Cond.code ({ cls := "TextPipelineModel", name := "cluster", desc := "(I)Z" } : Jvm.MethodName) prog_10_method_34_code (2 : Nat) (Option.some Jvm.ClassFile.FieldType.boolean)) ∈ WS0 := ws0_t (i := 819) (by decide +kernel) (by decide +kernel)
theorem q820 : (Jvm.Cond.methodLink "TextPipelineModel" (144 : Nat) ({ cls := "TextPipelineModel", name := "ends", desc := "(I)Z" } : Jvm.MethodName)) ∈ WS0 := ws0_t (i := 820) (by decide +kernel) (by decide +kernel)
theorem q822 : (Jvm.Cond.instanceMethod ({ cls := "TextPipelineModel", name := "ends", desc := "(I)Z" } : Jvm.MethodName)) ∈ WS0 := ws0_t (i := 822) (by decide +kernel) (by decide +kernel)
theorem q823 : (Jvm.Cond.code ({ cls := "TextPipelineModel", name := "ends", desc := "(I)Z" } : Jvm.MethodName) prog_10_method_33_code (5 : Nat) (Option.some Jvm.ClassFile.FieldType.boolean)) ∈ WS0 := ws0_t (i := 823) (by decide +kernel) (by decide +kernel)
theorem q824 : (Jvm.Cond.methodLink "TextPipelineModel" (129 : Nat) ({ cls := "TextPipelineModel", name := "clusterOf", desc := "(I)I" } : Jvm.MethodName)) ∈ WS0 := ws0_t (i := 824) (by decide +kernel) (by decide +kernel)
theorem q826 : (Jvm.Cond.instanceMethod ({ cls := "TextPipelineModel", name := "clusterOf", desc := "(I)I" } : Jvm.MethodName)) ∈ WS0 := ws0_t (i := 826) (by decide +kernel) (by decide +kernel)
theorem q827 : (Jvm.Cond.code ({ cls := "TextPipelineModel", name := "clusterOf", desc := "(I)I" } : Jvm.MethodName) prog_10_method_9_code (2 : Nat) (Option.some Jvm.ClassFile.FieldType.int)) ∈ WS0 := ws0_t (i := 827) (by decide +kernel) (by decide +kernel)
theorem q828 : (Jvm.Cond.methodLink "TextPipelineModel" (135 : Nat) ({ cls := "TextPipelineModel", name := "syllabic", desc := "(II)Z" } : Jvm.MethodName)) ∈ WS0 := ws0_t (i := 828) (by decide +kernel) (by decide +kernel)
theorem q830 : (Jvm.Cond.instanceMethod ({ cls := "TextPipelineModel", name := "syllabic", desc := "(II)Z" } : Jvm.MethodName)) ∈ WS0 := ws0_t (i := 830) (by decide +kernel) (by decide +kernel)
theorem q831 : (Jvm.Cond.code ({ cls := "TextPipelineModel", name := "syllabic", desc := "(II)Z" } : Jvm.MethodName) prog_10_method_32_code (3 : Nat) (Option.some Jvm.ClassFile.FieldType.boolean)) ∈ WS0 := ws0_t (i := 831) (by decide +kernel) (by decide +kernel)
theorem q832 : (Jvm.Cond.methodLink "TextPipelineModel" (132 : Nat) ({ cls := "TextPipelineModel", name := "isClosed", desc := "(I)Z" } : Jvm.MethodName)) ∈ WS0 := ws0_t (i := 832) (by decide +kernel) (by decide +kernel)
theorem q834 : (Jvm.Cond.instanceMethod ({ cls := "TextPipelineModel", name := "isClosed", desc := "(I)Z" } : Jvm.MethodName)) ∈ WS0 := ws0_t (i := 834) (by decide +kernel) (by decide +kernel)
theorem q835 : (Jvm.Cond.code ({ cls := "TextPipelineModel", name := "isClosed", desc := "(I)Z" } : Jvm.MethodName) prog_10_method_15_code (2 : Nat) (Option.some Jvm.ClassFile.FieldType.boolean)) ∈ WS0 := ws0_t (i := 835) (by decide +kernel) (by decide +kernel)
theorem q836 : (Jvm.Cond.methodLink "TextPipelineModel" (138 : Nat) ({ cls := "TextPipelineModel", name := "pictureBefore", desc := "(I)Z" } : Jvm.MethodName)) ∈ WS0 := ws0_t (i := 836) (by decide +kernel) (by decide +kernel)
theorem q838 : (Jvm.Cond.instanceMethod ({ cls := "TextPipelineModel", name := "pictureBefore", desc := "(I)Z" } : Jvm.MethodName)) ∈ WS0 := ws0_t (i := 838) (by decide +kernel) (by decide +kernel)
theorem q839 : (Jvm.Cond.code ({ cls := "TextPipelineModel", name := "pictureBefore", desc := "(I)Z" } : Jvm.MethodName) prog_10_method_30_code (3 : Nat) (Option.some Jvm.ClassFile.FieldType.boolean)) ∈ WS0 := ws0_t (i := 839) (by decide +kernel) (by decide +kernel)
theorem q840 : (Jvm.Cond.methodLink "TextPipelineModel" (141 : Nat) ({ cls := "TextPipelineModel", name := "oddRegions", desc := "(I)Z" } : Jvm.MethodName)) ∈ WS0 := ws0_t (i := 840) (by decide +kernel) (by decide +kernel)
theorem q842 : (Jvm.Cond.instanceMethod ({ cls := "TextPipelineModel", name := "oddRegions", desc := "(I)Z" } : Jvm.MethodName)) ∈ WS0 := ws0_t (i := 842) (by decide +kernel) (by decide +kernel)
theorem q843 : (Jvm.Cond.code ({ cls := "TextPipelineModel", name := "oddRegions", desc := "(I)Z" } : Jvm.MethodName) prog_10_method_31_code (3 : Nat) (Option.some Jvm.ClassFile.FieldType.boolean)) ∈ WS0 := ws0_t (i := 843) (by decide +kernel) (by decide +kernel)
theorem q844 : (Jvm.Cond.methodLink "TextPipelineLaw" (100 : Nat) ({ cls := "TextPipelineModel", name := "clusters", desc := "()I" } : Jvm.MethodName)) ∈ WS0 := ws0_t (i := 844) (by decide +kernel) (by decide +kernel)
theorem q845 : (Jvm.Cond.instanceMethod ({ cls := "TextPipelineModel", name := "clusters", desc := "()I" } : Jvm.MethodName)) ∈ WS0 := ws0_t (i := 845) (by decide +kernel) (by decide +kernel)
theorem q846 : (Jvm.Cond.selects "TextPipelineModel" ({ cls := "TextPipelineModel", name := "clusters", desc := "()I" } : Jvm.MethodName) ({ cls := "TextPipelineModel", name := "clusters", desc := "()I" } : Jvm.MethodName)) ∈ WS0 := ws0_t (i := 846) (by decide +kernel) (by decide +kernel)
theorem q847 : (Jvm.Cond.code ({ cls := "TextPipelineModel", name := "clusters", desc := "()I" } : Jvm.MethodName) prog_10_method_35_code (3 : Nat) (Option.some Jvm.ClassFile.FieldType.int)) ∈ WS0 := ws0_t (i := 847) (by decide +kernel) (by decide +kernel)
theorem q848 : (Jvm.Cond.methodLink "TextPipelineLaw" (103 : Nat) ({ cls := "TextPipelineModel", name := "line", desc := "(I)I" } : Jvm.MethodName)) ∈ WS0 := ws0_t (i := 848) (by decide +kernel) (by decide +kernel)
theorem q849 : (Jvm.Cond.instanceMethod ({ cls := "TextPipelineModel", name := "line", desc := "(I)I" } : Jvm.MethodName)) ∈ WS0 := ws0_t (i := 849) (by decide +kernel) (by decide +kernel)
theorem q850 : (Jvm.Cond.selects "TextPipelineModel" ({ cls := "TextPipelineModel", name := "line", desc := "(I)I" } : Jvm.MethodName) ({ cls := "TextPipelineModel", name := "line", desc := "(I)I" } : Jvm.MethodName)) ∈ WS0 := ws0_t (i := 850) (by decide +kernel) (by decide +kernel)
theorem q851 : (Jvm.Cond.code ({ cls := "TextPipelineModel", name := "line", desc := "(I)I" } : Jvm.MethodName) prog_10_method_39_code (6 : Nat) (Option.some Jvm.ClassFile.FieldType.int)) ∈ WS0 := ws0_t (i := 851) (by decide +kernel) (by decide +kernel)
theorem q852 : (Jvm.Cond.methodLink "TextPipelineModel" (147 : Nat) ({ cls := "TextPipelineModel", name := "classLines", desc := "()V" } : Jvm.MethodName)) ∈ WS0 := ws0_t (i := 852) (by decide +kernel) (by decide +kernel)
theorem q854 : (Jvm.Cond.instanceMethod ({ cls := "TextPipelineModel", name := "classLines", desc := "()V" } : Jvm.MethodName)) ∈ WS0 := ws0_t (i := 854) (by decide +kernel) (by decide +kernel)
theorem q855 : (Jvm.Cond.code ({ cls := "TextPipelineModel", name := "classLines", desc := "()V" } : Jvm.MethodName) prog_10_method_36_code (3 : Nat) (Option.none : Option Jvm.ClassFile.FieldType)) ∈ WS0 := ws0_t (i := 855) (by decide +kernel) (by decide +kernel)
theorem q856 : (Jvm.Cond.methodLink "TextPipelineModel" (150 : Nat) ({ cls := "TextPipelineModel", name := "overSpaces", desc := "(I)I" } : Jvm.MethodName)) ∈ WS0 := ws0_t (i := 856) (by decide +kernel) (by decide +kernel)
theorem q858 : (Jvm.Cond.instanceMethod ({ cls := "TextPipelineModel", name := "overSpaces", desc := "(I)I" } : Jvm.MethodName)) ∈ WS0 := ws0_t (i := 858) (by decide +kernel) (by decide +kernel)
theorem q859 : (Jvm.Cond.code ({ cls := "TextPipelineModel", name := "overSpaces", desc := "(I)I" } : Jvm.MethodName) prog_10_method_37_code (3 : Nat) (Option.some Jvm.ClassFile.FieldType.int)) ∈ WS0 := ws0_t (i := 859) (by decide +kernel) (by decide +kernel)
theorem q860 : (Jvm.Cond.methodLink "TextPipelineModel" (153 : Nat) ({ cls := "TextPipelineModel", name := "may", desc := "(II)Z" } : Jvm.MethodName)) ∈ WS0 := ws0_t (i := 860) (by decide +kernel) (by decide +kernel)
theorem q862 : (Jvm.Cond.instanceMethod ({ cls := "TextPipelineModel", name := "may", desc := "(II)Z" } : Jvm.MethodName)) ∈ WS0 := ws0_t (i := 862) (by decide +kernel) (by decide +kernel)
theorem q863 : (Jvm.Cond.code ({ cls := "TextPipelineModel", name := "may", desc := "(II)Z" } : Jvm.MethodName) prog_10_method_38_code (6 : Nat) (Option.some Jvm.ClassFile.FieldType.boolean)) ∈ WS0 := ws0_t (i := 863) (by decide +kernel) (by decide +kernel)
theorem q864 : (Jvm.Cond.methodLink "TextPipelineLaw" (107 : Nat) ({ cls := "TextPipelineModel", name := "level", desc := "(II)I" } : Jvm.MethodName)) ∈ WS0 := ws0_t (i := 864) (by decide +kernel) (by decide +kernel)
theorem q865 : (Jvm.Cond.instanceMethod ({ cls := "TextPipelineModel", name := "level", desc := "(II)I" } : Jvm.MethodName)) ∈ WS0 := ws0_t (i := 865) (by decide +kernel) (by decide +kernel)
theorem q866 : (Jvm.Cond.selects "TextPipelineModel" ({ cls := "TextPipelineModel", name := "level", desc := "(II)I" } : Jvm.MethodName) ({ cls := "TextPipelineModel", name := "level", desc := "(II)I" } : Jvm.MethodName)) ∈ WS0 := ws0_t (i := 866) (by decide +kernel) (by decide +kernel)
theorem q867 : (Jvm.Cond.code ({ cls := "TextPipelineModel", name := "level", desc := "(II)I" } : Jvm.MethodName) prog_10_method_47_code (3 : Nat) (Option.some Jvm.ClassFile.FieldType.int)) ∈ WS0 := ws0_t (i := 867) (by decide +kernel) (by decide +kernel)
theorem q868 : (Jvm.Cond.methodLink "TextPipelineModel" (177 : Nat) ({ cls := "TextPipelineModel", name := "findLevels", desc := "(I)V" } : Jvm.MethodName)) ∈ WS0 := ws0_t (i := 868) (by decide +kernel) (by decide +kernel)
theorem q870 : (Jvm.Cond.instanceMethod ({ cls := "TextPipelineModel", name := "findLevels", desc := "(I)V" } : Jvm.MethodName)) ∈ WS0 := ws0_t (i := 870) (by decide +kernel) (by decide +kernel)
theorem q871 : (Jvm.Cond.code ({ cls := "TextPipelineModel", name := "findLevels", desc := "(I)V" } : Jvm.MethodName) prog_10_method_46_code (6 : Nat) (Option.none : Option Jvm.ClassFile.FieldType)) ∈ WS0 := ws0_t (i := 871) (by decide +kernel) (by decide +kernel)
theorem q872 : (Jvm.Cond.methodLink "TextPipelineModel" (168 : Nat) ({ cls := "TextPipelineModel", name := "baseOf", desc := "(I)I" } : Jvm.MethodName)) ∈ WS0 := ws0_t (i := 872) (by decide +kernel) (by decide +kernel)
theorem q874 : (Jvm.Cond.instanceMethod ({ cls := "TextPipelineModel", name := "baseOf", desc := "(I)I" } : Jvm.MethodName)) ∈ WS0 := ws0_t (i := 874) (by decide +kernel) (by decide +kernel)
theorem q875 : (Jvm.Cond.code ({ cls := "TextPipelineModel", name := "baseOf", desc := "(I)I" } : Jvm.MethodName) prog_10_method_40_code (4 : Nat) (Option.some Jvm.ClassFile.FieldType.int)) ∈ WS0 := ws0_t (i := 875) (by decide +kernel) (by decide +kernel)
theorem q876 : (Jvm.Cond.methodLink "TextPipelineModel" (156 : Nat) ({ cls := "TextPipelineModel", name := "sideOf", desc := "(I)I" } : Jvm.MethodName)) ∈ WS0 := ws0_t (i := 876) (by decide +kernel) (by decide +kernel)
theorem q878 : (Jvm.Cond.instanceMethod ({ cls := "TextPipelineModel", name := "sideOf", desc := "(I)I" } : Jvm.MethodName)) ∈ WS0 := ws0_t (i := 878) (by decide +kernel) (by decide +kernel)
theorem q879 : (Jvm.Cond.code ({ cls := "TextPipelineModel", name := "sideOf", desc := "(I)I" } : Jvm.MethodName) prog_10_method_10_code (2 : Nat) (Option.some Jvm.ClassFile.FieldType.int)) ∈ WS0 := ws0_t (i := 879) (by decide +kernel) (by decide +kernel)
theorem q880 : (Jvm.Cond.methodLink "TextPipelineModel" (171 : Nat) ({ cls := "TextPipelineModel", name := "weaken", desc := "()V" } : Jvm.MethodName)) ∈ WS0 := ws0_t (i := 880) (by decide +kernel) (by decide +kernel)
theorem q882 : (Jvm.Cond.instanceMethod ({ cls := "TextPipelineModel", name := "weaken", desc := "()V" } : Jvm.MethodName)) ∈ WS0 := ws0_t (i := 882) (by decide +kernel) (by decide +kernel)
theorem q883 : (Jvm.Cond.code ({ cls := "TextPipelineModel", name := "weaken", desc := "()V" } : Jvm.MethodName) prog_10_method_42_code (5 : Nat) (Option.none : Option Jvm.ClassFile.FieldType)) ∈ WS0 := ws0_t (i := 883) (by decide +kernel) (by decide +kernel)
theorem q884 : (Jvm.Cond.methodLink "TextPipelineModel" (159 : Nat) ({ cls := "TextPipelineModel", name := "nearest", desc := "(I)I" } : Jvm.MethodName)) ∈ WS0 := ws0_t (i := 884) (by decide +kernel) (by decide +kernel)
theorem q886 : (Jvm.Cond.instanceMethod ({ cls := "TextPipelineModel", name := "nearest", desc := "(I)I" } : Jvm.MethodName)) ∈ WS0 := ws0_t (i := 886) (by decide +kernel) (by decide +kernel)
theorem q887 : (Jvm.Cond.code ({ cls := "TextPipelineModel", name := "nearest", desc := "(I)I" } : Jvm.MethodName) prog_10_method_41_code (3 : Nat) (Option.some Jvm.ClassFile.FieldType.int)) ∈ WS0 := ws0_t (i := 887) (by decide +kernel) (by decide +kernel)
theorem q888 : (Jvm.Cond.methodLink "TextPipelineModel" (162 : Nat) ({ cls := "TextPipelineModel", name := "units", desc := "()V" } : Jvm.MethodName)) ∈ WS0 := ws0_t (i := 888) (by decide +kernel) (by decide +kernel)
theorem q890 : (Jvm.Cond.instanceMethod ({ cls := "TextPipelineModel", name := "units", desc := "()V" } : Jvm.MethodName)) ∈ WS0 := ws0_t (i := 890) (by decide +kernel) (by decide +kernel)
theorem q891 : (Jvm.Cond.code ({ cls := "TextPipelineModel", name := "units", desc := "()V" } : Jvm.MethodName) prog_10_method_43_code (5 : Nat) (Option.none : Option Jvm.ClassFile.FieldType)) ∈ WS0 := ws0_t (i := 891) (by decide +kernel) (by decide +kernel)
theorem q892 : (Jvm.Cond.methodLink "TextPipelineModel" (174 : Nat) ({ cls := "TextPipelineModel", name := "neutrals", desc := "(I)V" } : Jvm.MethodName)) ∈ WS0 := ws0_t (i := 892) (by decide +kernel) (by decide +kernel)
theorem q894 : (Jvm.Cond.instanceMethod ({ cls := "TextPipelineModel", name := "neutrals", desc := "(I)V" } : Jvm.MethodName)) ∈ WS0 := ws0_t (i := 894) (by decide +kernel) (by decide +kernel)
theorem q895 : (Jvm.Cond.code ({ cls := "TextPipelineModel", name := "neutrals", desc := "(I)V" } : Jvm.MethodName) prog_10_method_45_code (7 : Nat) (Option.none : Option Jvm.ClassFile.FieldType)) ∈ WS0 := ws0_t (i := 895) (by decide +kernel) (by decide +kernel)
theorem q896 : (Jvm.Cond.methodLink "TextPipelineModel" (165 : Nat) ({ cls := "TextPipelineModel", name := "neutral", desc := "(I)Z" } : Jvm.MethodName)) ∈ WS0 := ws0_t (i := 896) (by decide +kernel) (by decide +kernel)
theorem q898 : (Jvm.Cond.instanceMethod ({ cls := "TextPipelineModel", name := "neutral", desc := "(I)Z" } : Jvm.MethodName)) ∈ WS0 := ws0_t (i := 898) (by decide +kernel) (by decide +kernel)
theorem q899 : (Jvm.Cond.code ({ cls := "TextPipelineModel", name := "neutral", desc := "(I)Z" } : Jvm.MethodName) prog_10_method_44_code (2 : Nat) (Option.some Jvm.ClassFile.FieldType.boolean)) ∈ WS0 := ws0_t (i := 899) (by decide +kernel) (by decide +kernel)
theorem q900 : (Jvm.Cond.methodLink "TextPipelineLaw" (110 : Nat) ({ cls := "TextPipelineModel", name := "order", desc := "(II)I" } : Jvm.MethodName)) ∈ WS0 := ws0_t (i := 900) (by decide +kernel) (by decide +kernel)
theorem q901 : (Jvm.Cond.instanceMethod ({ cls := "TextPipelineModel", name := "order", desc := "(II)I" } : Jvm.MethodName)) ∈ WS0 := ws0_t (i := 901) (by decide +kernel) (by decide +kernel)
theorem q902 : (Jvm.Cond.selects "TextPipelineModel" ({ cls := "TextPipelineModel", name := "order", desc := "(II)I" } : Jvm.MethodName) ({ cls := "TextPipelineModel", name := "order", desc := "(II)I" } : Jvm.MethodName)) ∈ WS0 := ws0_t (i := 902) (by decide +kernel) (by decide +kernel)
theorem q903 : (Jvm.Cond.code ({ cls := "TextPipelineModel", name := "order", desc := "(II)I" } : Jvm.MethodName) prog_10_method_49_code (6 : Nat) (Option.some Jvm.ClassFile.FieldType.int)) ∈ WS0 := ws0_t (i := 903) (by decide +kernel) (by decide +kernel)
theorem q904 : (Jvm.Cond.methodLink "TextPipelineModel" (180 : Nat) ({ cls := "TextPipelineModel", name := "turnRound", desc := "(II)V" } : Jvm.MethodName)) ∈ WS0 := ws0_t (i := 904) (by decide +kernel) (by decide +kernel)
theorem q906 : (Jvm.Cond.instanceMethod ({ cls := "TextPipelineModel", name := "turnRound", desc := "(II)V" } : Jvm.MethodName)) ∈ WS0 := ws0_t (i := 906) (by decide +kernel) (by decide +kernel)
theorem q907 : (Jvm.Cond.code ({ cls := "TextPipelineModel", name := "turnRound", desc := "(II)V" } : Jvm.MethodName) prog_10_method_48_code (6 : Nat) (Option.none : Option Jvm.ClassFile.FieldType)) ∈ WS0 := ws0_t (i := 907) (by decide +kernel) (by decide +kernel)
theorem q908 : (Jvm.Cond.methodLink "TextPipelineLaw" (114 : Nat) ({ cls := "TextPipelineModel", name := "key", desc := "()I" } : Jvm.MethodName)) ∈ WS0 := ws0_t (i := 908) (by decide +kernel) (by decide +kernel)
theorem q909 : (Jvm.Cond.instanceMethod ({ cls := "TextPipelineModel", name := "key", desc := "()I" } : Jvm.MethodName)) ∈ WS0 := ws0_t (i := 909) (by decide +kernel) (by decide +kernel)
theorem q910 : (Jvm.Cond.selects "TextPipelineModel" ({ cls := "TextPipelineModel", name := "key", desc := "()I" } : Jvm.MethodName) ({ cls := "TextPipelineModel", name := "key", desc := "()I" } : Jvm.MethodName)) ∈ WS0 := ws0_t (i := 910) (by decide +kernel) (by decide +kernel)
theorem q911 : (Jvm.Cond.code ({ cls := "TextPipelineModel", name := "key", desc := "()I" } : Jvm.MethodName) prog_10_method_51_code (1 : Nat) (Option.some Jvm.ClassFile.FieldType.int)) ∈ WS0 := ws0_t (i := 911) (by decide +kernel) (by decide +kernel)
theorem q912 : (Jvm.Cond.methodLink "TextPipelineModel" (190 : Nat) ({ cls := "TextPipelineModel", name := "findKey", desc := "()V" } : Jvm.MethodName)) ∈ WS0 := ws0_t (i := 912) (by decide +kernel) (by decide +kernel)
theorem q914 : (Jvm.Cond.instanceMethod ({ cls := "TextPipelineModel", name := "findKey", desc := "()V" } : Jvm.MethodName)) ∈ WS0 := ws0_t (i := 914) (by decide +kernel) (by decide +kernel)
theorem q915 : (Jvm.Cond.code ({ cls := "TextPipelineModel", name := "findKey", desc := "()V" } : Jvm.MethodName) prog_10_method_50_code (4 : Nat) (Option.none : Option Jvm.ClassFile.FieldType)) ∈ WS0 := ws0_t (i := 915) (by decide +kernel) (by decide +kernel)
theorem q916 : (Jvm.Cond.methodLink "TextPipelineModel" (187 : Nat) ({ cls := "TextPipelineModel", name := "weight", desc := "(II)I" } : Jvm.MethodName)) ∈ WS0 := ws0_t (i := 916) (by decide +kernel) (by decide +kernel)
theorem q918 : (Jvm.Cond.instanceMethod ({ cls := "TextPipelineModel", name := "weight", desc := "(II)I" } : Jvm.MethodName)) ∈ WS0 := ws0_t (i := 918) (by decide +kernel) (by decide +kernel)
theorem q919 : (Jvm.Cond.code ({ cls := "TextPipelineModel", name := "weight", desc := "(II)I" } : Jvm.MethodName) prog_10_method_8_code (3 : Nat) (Option.some Jvm.ClassFile.FieldType.int)) ∈ WS0 := ws0_t (i := 919) (by decide +kernel) (by decide +kernel)
theorem q920 : (Jvm.Cond.methodLink "TextPipelineLaw" (117 : Nat) ({ cls := "TextPipelineModel", name := "keyAt", desc := "(I)I" } : Jvm.MethodName)) ∈ WS0 := ws0_t (i := 920) (by decide +kernel) (by decide +kernel)
theorem q921 : (Jvm.Cond.instanceMethod ({ cls := "TextPipelineModel", name := "keyAt", desc := "(I)I" } : Jvm.MethodName)) ∈ WS0 := ws0_t (i := 921) (by decide +kernel) (by decide +kernel)
theorem q922 : (Jvm.Cond.selects "TextPipelineModel" ({ cls := "TextPipelineModel", name := "keyAt", desc := "(I)I" } : Jvm.MethodName) ({ cls := "TextPipelineModel", name := "keyAt", desc := "(I)I" } : Jvm.MethodName)) ∈ WS0 := ws0_t (i := 922) (by decide +kernel) (by decide +kernel)
theorem q923 : (Jvm.Cond.code ({ cls := "TextPipelineModel", name := "keyAt", desc := "(I)I" } : Jvm.MethodName) prog_10_method_52_code (2 : Nat) (Option.some Jvm.ClassFile.FieldType.int)) ∈ WS0 := ws0_t (i := 923) (by decide +kernel) (by decide +kernel)
theorem q924 : (Jvm.Cond.methodLink "TextPipelineLaw" (121 : Nat) ({ cls := "TextPipelineModel", name := "keep", desc := "(I)V" } : Jvm.MethodName)) ∈ WS0 := ws0_t (i := 924) (by decide +kernel) (by decide +kernel)
theorem q925 : (Jvm.Cond.instanceMethod ({ cls := "TextPipelineModel", name := "keep", desc := "(I)V" } : Jvm.MethodName)) ∈ WS0 := ws0_t (i := 925) (by decide +kernel) (by decide +kernel)
theorem q926 : (Jvm.Cond.selects "TextPipelineModel" ({ cls := "TextPipelineModel", name := "keep", desc := "(I)V" } : Jvm.MethodName) ({ cls := "TextPipelineModel", name := "keep", desc := "(I)V" } : Jvm.MethodName)) ∈ WS0 := ws0_t (i := 926) (by decide +kernel) (by decide +kernel)
theorem q927 : (Jvm.Cond.code ({ cls := "TextPipelineModel", name := "keep", desc := "(I)V" } : Jvm.MethodName) prog_10_method_54_code (3 : Nat) (Option.none : Option Jvm.ClassFile.FieldType)) ∈ WS0 := ws0_t (i := 927) (by decide +kernel) (by decide +kernel)
theorem q928 : (Jvm.Cond.methodLink "TextPipelineModel" (193 : Nat) ({ cls := "TextPipelineModel", name := "noSlot", desc := "(I)Z" } : Jvm.MethodName)) ∈ WS0 := ws0_t (i := 928) (by decide +kernel) (by decide +kernel)
theorem q930 : (Jvm.Cond.instanceMethod ({ cls := "TextPipelineModel", name := "noSlot", desc := "(I)Z" } : Jvm.MethodName)) ∈ WS0 := ws0_t (i := 930) (by decide +kernel) (by decide +kernel)
theorem q931 : (Jvm.Cond.code ({ cls := "TextPipelineModel", name := "noSlot", desc := "(I)Z" } : Jvm.MethodName) prog_10_method_53_code (2 : Nat) (Option.some Jvm.ClassFile.FieldType.boolean)) ∈ WS0 := ws0_t (i := 931) (by decide +kernel) (by decide +kernel)
theorem q932 : (Jvm.Cond.methodLink "TextPipelineLaw" (124 : Nat) ({ cls := "TextPipelineModel", name := "compare", desc := "(I)I" } : Jvm.MethodName)) ∈ WS0 := ws0_t (i := 932) (by decide +kernel) (by decide +kernel)
theorem q933 : (Jvm.Cond.instanceMethod ({ cls := "TextPipelineModel", name := "compare", desc := "(I)I" } : Jvm.MethodName)) ∈ WS0 := ws0_t (i := 933) (by decide +kernel) (by decide +kernel)
theorem q934 : (Jvm.Cond.selects "TextPipelineModel" ({ cls := "TextPipelineModel", name := "compare", desc := "(I)I" } : Jvm.MethodName) ({ cls := "TextPipelineModel", name := "compare", desc := "(I)I" } : Jvm.MethodName)) ∈ WS0 := ws0_t (i := 934) (by decide +kernel) (by decide +kernel)
theorem q935 : (Jvm.Cond.code ({ cls := "TextPipelineModel", name := "compare", desc := "(I)I" } : Jvm.MethodName) prog_10_method_55_code (3 : Nat) (Option.some Jvm.ClassFile.FieldType.int)) ∈ WS0 := ws0_t (i := 935) (by decide +kernel) (by decide +kernel)
theorem q936 : (Jvm.Cond.methodLink "TextPipelineModel" (196 : Nat) ({ cls := "TextPipelineModel", name := "partKept", desc := "(I)V" } : Jvm.MethodName)) ∈ WS0 := ws0_t (i := 936) (by decide +kernel) (by decide +kernel)
theorem q938 : (Jvm.Cond.instanceMethod ({ cls := "TextPipelineModel", name := "partKept", desc := "(I)V" } : Jvm.MethodName)) ∈ WS0 := ws0_t (i := 938) (by decide +kernel) (by decide +kernel)
theorem q939 : (Jvm.Cond.code ({ cls := "TextPipelineModel", name := "partKept", desc := "(I)V" } : Jvm.MethodName) prog_10_method_24_code (3 : Nat) (Option.none : Option Jvm.ClassFile.FieldType)) ∈ WS0 := ws0_t (i := 939) (by decide +kernel) (by decide +kernel)
theorem q940 : (Jvm.Cond.methodLink "TextPipelineLaw" (127 : Nat) ({ cls := "TextPipelineModel", name := "same", desc := "(I)Z" } : Jvm.MethodName)) ∈ WS0 := ws0_t (i := 940) (by decide +kernel) (by decide +kernel)
theorem q941 : (Jvm.Cond.instanceMethod ({ cls := "TextPipelineModel", name := "same", desc := "(I)Z" } : Jvm.MethodName)) ∈ WS0 := ws0_t (i := 941) (by decide +kernel) (by decide +kernel)
theorem q942 : (Jvm.Cond.selects "TextPipelineModel" ({ cls := "TextPipelineModel", name := "same", desc := "(I)Z" } : Jvm.MethodName) ({ cls := "TextPipelineModel", name := "same", desc := "(I)Z" } : Jvm.MethodName)) ∈ WS0 := ws0_t (i := 942) (by decide +kernel) (by decide +kernel)
theorem q943 : (Jvm.Cond.code ({ cls := "TextPipelineModel", name := "same", desc := "(I)Z" } : Jvm.MethodName) prog_10_method_56_code (4 : Nat) (Option.some Jvm.ClassFile.FieldType.boolean)) ∈ WS0 := ws0_t (i := 943) (by decide +kernel) (by decide +kernel)
theorem q944 : (Jvm.Cond.arrayClass Jvm.ClassFile.FieldType.long) ∈ WS0 := ws0_t (i := 944) (by decide +kernel) (by decide +kernel)
abbrev RP : String := "TextPipeline"
def TP : u_T := fun k => match k with
  | 0 => ("TextPipeline", "table", "LTextPipeline$Table;", true)
  | 1 => ("TextPipeline", "text", "LTextPipeline$Row;", true)
  | 2 => ("TextPipeline", "kept", "[LTextPipeline$Row;", true)
  | 3 => ("TextPipeline", "form", "LTextPipeline$Row;", true)
  | 4 => ("TextPipeline", "keptForm", "LTextPipeline$Row;", true)
  | 5 => ("TextPipeline", "numbers", "LTextPipeline$Row;", true)
  | 6 => ("TextPipeline", "keptNumbers", "LTextPipeline$Row;", true)
  | 7 => ("TextPipeline", "lines", "LTextPipeline$Lines;", true)
  | _ => ("TextPipeline", "sides", "LTextPipeline$Sides;", true)
def tyP : Nat → FieldType := fun k => match k with
  | 0 => .object "TextPipeline$Table"
  | 1 => .object "TextPipeline$Row"
  | 2 => .array (.object "TextPipeline$Row")
  | 3 => .object "TextPipeline$Row"
  | 4 => .object "TextPipeline$Row"
  | 5 => .object "TextPipeline$Row"
  | 6 => .object "TextPipeline$Row"
  | 7 => .object "TextPipeline$Lines"
  | _ => .object "TextPipeline$Sides"
theorem nmP : ∀ a, a < 9 → ∀ b, b < 9 → a ≠ b → (TP a).2.1 ≠ (TP b).2.1 := by decide +kernel
theorem tyP_ok : ∀ k, k < 9 → parseFieldDescriptor (TP k).2.2.1 = some (tyP k) := by decide +kernel
theorem inP : ∀ w ∈ u_ws RP TP 9, w ∈ WS0 := ((List.forall_mem_cons.mpr ⟨q137, (List.forall_mem_cons.mpr ⟨q139, (List.forall_mem_cons.mpr ⟨q141, (List.forall_mem_cons.mpr ⟨q143, (List.forall_mem_cons.mpr ⟨q145, (List.forall_mem_cons.mpr ⟨q147, (List.forall_mem_cons.mpr ⟨q149, (List.forall_mem_cons.mpr ⟨q151, (List.forall_mem_cons.mpr ⟨q153, (List.forall_mem_nil _)⟩)⟩)⟩)⟩)⟩)⟩)⟩)⟩)⟩) : ∀ w ∈ ([(Jvm.Cond.laysFinal "TextPipeline" "TextPipeline" "table" "LTextPipeline$Table;"), (Jvm.Cond.laysFinal "TextPipeline" "TextPipeline" "text" "LTextPipeline$Row;"), (Jvm.Cond.laysFinal "TextPipeline" "TextPipeline" "kept" "[LTextPipeline$Row;"), (Jvm.Cond.laysFinal "TextPipeline" "TextPipeline" "form" "LTextPipeline$Row;"), (Jvm.Cond.laysFinal "TextPipeline" "TextPipeline" "keptForm" "LTextPipeline$Row;"), (Jvm.Cond.laysFinal "TextPipeline" "TextPipeline" "numbers" "LTextPipeline$Row;"), (Jvm.Cond.laysFinal "TextPipeline" "TextPipeline" "keptNumbers" "LTextPipeline$Row;"), (Jvm.Cond.laysFinal "TextPipeline" "TextPipeline" "lines" "LTextPipeline$Lines;"), (Jvm.Cond.laysFinal "TextPipeline" "TextPipeline" "sides" "LTextPipeline$Sides;")] : List Cond), w ∈ WS0)
abbrev RT : String := "TextPipeline$Table"
def TT : u_T := fun k => match k with
  | 0 => ("TextPipeline$Table", "properties", "[[I", true)
  | 1 => ("TextPipeline$Table", "firstPart", "[I", true)
  | 2 => ("TextPipeline$Table", "secondPart", "[I", true)
  | 3 => ("TextPipeline$Table", "excluded", "[Z", true)
  | 4 => ("TextPipeline$Table", "parts", "[I", true)
  | 5 => ("TextPipeline$Table", "partCount", "[I", true)
  | _ => ("TextPipeline$Table", "triedCount", "[I", true)
def tyT : Nat → FieldType := fun k => match k with
  | 0 => .array (.array .int)
  | 1 => .array .int
  | 2 => .array .int
  | 3 => .array .boolean
  | 4 => .array .int
  | 5 => .array .int
  | _ => .array .int
theorem nmT : ∀ a, a < 7 → ∀ b, b < 7 → a ≠ b → (TT a).2.1 ≠ (TT b).2.1 := by decide +kernel
theorem tyT_ok : ∀ k, k < 7 → parseFieldDescriptor (TT k).2.2.1 = some (tyT k) := by decide +kernel
theorem inT : ∀ w ∈ u_ws RT TT 7, w ∈ WS0 := ((List.forall_mem_cons.mpr ⟨q71, (List.forall_mem_cons.mpr ⟨q73, (List.forall_mem_cons.mpr ⟨q75, (List.forall_mem_cons.mpr ⟨q77, (List.forall_mem_cons.mpr ⟨q79, (List.forall_mem_cons.mpr ⟨q81, (List.forall_mem_cons.mpr ⟨q83, (List.forall_mem_nil _)⟩)⟩)⟩)⟩)⟩)⟩)⟩) : ∀ w ∈ ([(Jvm.Cond.laysFinal "TextPipeline$Table" "TextPipeline$Table" "properties" "[[I"), (Jvm.Cond.laysFinal "TextPipeline$Table" "TextPipeline$Table" "firstPart" "[I"), (Jvm.Cond.laysFinal "TextPipeline$Table" "TextPipeline$Table" "secondPart" "[I"), (Jvm.Cond.laysFinal "TextPipeline$Table" "TextPipeline$Table" "excluded" "[Z"), (Jvm.Cond.laysFinal "TextPipeline$Table" "TextPipeline$Table" "parts" "[I"), (Jvm.Cond.laysFinal "TextPipeline$Table" "TextPipeline$Table" "partCount" "[I"), (Jvm.Cond.laysFinal "TextPipeline$Table" "TextPipeline$Table" "triedCount" "[I")] : List Cond), w ∈ WS0)
abbrev RR : String := "TextPipeline$Row"
def TR : u_T := fun k => match k with
  | 0 => ("TextPipeline$Row", "items", "[I", true)
  | _ => ("TextPipeline$Row", "size", "I", false)
def tyR : Nat → FieldType := fun k => match k with
  | 0 => .array .int
  | _ => .int
theorem nmR : ∀ a, a < 2 → ∀ b, b < 2 → a ≠ b → (TR a).2.1 ≠ (TR b).2.1 := by decide +kernel
theorem tyR_ok : ∀ k, k < 2 → parseFieldDescriptor (TR k).2.2.1 = some (tyR k) := by decide +kernel
theorem inR : ∀ w ∈ u_ws RR TR 2, w ∈ WS0 := ((List.forall_mem_cons.mpr ⟨q96, (List.forall_mem_cons.mpr ⟨q98, (List.forall_mem_nil _)⟩)⟩) : ∀ w ∈ ([(Jvm.Cond.laysFinal "TextPipeline$Row" "TextPipeline$Row" "items" "[I"), (Jvm.Cond.lays "TextPipeline$Row" "TextPipeline$Row" "size" "I")] : List Cond), w ∈ WS0)
abbrev RL : String := "TextPipeline$Lines"
def TL : u_T := fun k => match k with
  | _ => ("TextPipeline$Lines", "kinds", "[I", true)
def tyL : Nat → FieldType := fun k => match k with
  | _ => .array .int
theorem nmL : ∀ a, a < 1 → ∀ b, b < 1 → a ≠ b → (TL a).2.1 ≠ (TL b).2.1 := by decide +kernel
theorem tyL_ok : ∀ k, k < 1 → parseFieldDescriptor (TL k).2.2.1 = some (tyL k) := by decide +kernel
theorem inL : ∀ w ∈ u_ws RL TL 1, w ∈ WS0 := ((List.forall_mem_cons.mpr ⟨q109, (List.forall_mem_nil _)⟩) : ∀ w ∈ ([(Jvm.Cond.laysFinal "TextPipeline$Lines" "TextPipeline$Lines" "kinds" "[I")] : List Cond), w ∈ WS0)
abbrev RS : String := "TextPipeline$Sides"
def TS : u_T := fun k => match k with
  | 0 => ("TextPipeline$Sides", "kinds", "[I", true)
  | 1 => ("TextPipeline$Sides", "levels", "[I", true)
  | _ => ("TextPipeline$Sides", "places", "[I", true)
def tyS : Nat → FieldType := fun k => match k with
  | 0 => .array .int
  | 1 => .array .int
  | _ => .array .int
theorem nmS : ∀ a, a < 3 → ∀ b, b < 3 → a ≠ b → (TS a).2.1 ≠ (TS b).2.1 := by decide +kernel
theorem tyS_ok : ∀ k, k < 3 → parseFieldDescriptor (TS k).2.2.1 = some (tyS k) := by decide +kernel
theorem inS : ∀ w ∈ u_ws RS TS 3, w ∈ WS0 := ((List.forall_mem_cons.mpr ⟨q121, (List.forall_mem_cons.mpr ⟨q123, (List.forall_mem_cons.mpr ⟨q125, (List.forall_mem_nil _)⟩)⟩)⟩) : ∀ w ∈ ([(Jvm.Cond.laysFinal "TextPipeline$Sides" "TextPipeline$Sides" "kinds" "[I"), (Jvm.Cond.laysFinal "TextPipeline$Sides" "TextPipeline$Sides" "levels" "[I"), (Jvm.Cond.laysFinal "TextPipeline$Sides" "TextPipeline$Sides" "places" "[I")] : List Cond), w ∈ WS0)
abbrev RC : String := "TextPipeline$Clusters"
abbrev RF : String := "TextPipeline$Forms"
abbrev RK : String := "TextPipeline$Keys"
abbrev RM : String := "TextPipelineModel"
def TM : u_T := fun k => match k with
  | 0 => ("TextPipelineModel", "thrown", "I", false)
  | 1 => ("TextPipelineModel", "table", "[I", false)
  | 2 => ("TextPipelineModel", "first", "[I", false)
  | 3 => ("TextPipelineModel", "second", "[I", false)
  | 4 => ("TextPipelineModel", "left", "[Z", false)
  | 5 => ("TextPipelineModel", "counts", "[I", false)
  | 6 => ("TextPipelineModel", "length", "I", false)
  | 7 => ("TextPipelineModel", "text", "[I", false)
  | 8 => ("TextPipelineModel", "keptLength", "[I", false)
  | 9 => ("TextPipelineModel", "kept", "[I", false)
  | 10 => ("TextPipelineModel", "formLength", "I", false)
  | 11 => ("TextPipelineModel", "form", "[I", false)
  | 12 => ("TextPipelineModel", "otherLength", "I", false)
  | 13 => ("TextPipelineModel", "other", "[I", false)
  | 14 => ("TextPipelineModel", "pile", "[I", false)
  | 15 => ("TextPipelineModel", "keyLength", "I", false)
  | 16 => ("TextPipelineModel", "numbers", "[I", false)
  | 17 => ("TextPipelineModel", "otherKeyLength", "I", false)
  | 18 => ("TextPipelineModel", "otherNumbers", "[I", false)
  | 19 => ("TextPipelineModel", "lineClass", "[I", false)
  | 20 => ("TextPipelineModel", "follows", "[Z", false)
  | 21 => ("TextPipelineModel", "side", "[I", false)
  | 22 => ("TextPipelineModel", "levels", "[I", false)
  | _ => ("TextPipelineModel", "orders", "[I", false)
def tyM : Nat → FieldType := fun k => match k with
  | 0 => .int
  | 1 => .array .int
  | 2 => .array .int
  | 3 => .array .int
  | 4 => .array .boolean
  | 5 => .array .int
  | 6 => .int
  | 7 => .array .int
  | 8 => .array .int
  | 9 => .array .int
  | 10 => .int
  | 11 => .array .int
  | 12 => .int
  | 13 => .array .int
  | 14 => .array .int
  | 15 => .int
  | 16 => .array .int
  | 17 => .int
  | 18 => .array .int
  | 19 => .array .int
  | 20 => .array .boolean
  | 21 => .array .int
  | 22 => .array .int
  | _ => .array .int
theorem nmM : ∀ a, a < 24 → ∀ b, b < 24 → a ≠ b → (TM a).2.1 ≠ (TM b).2.1 := by decide +kernel
theorem tyM_ok : ∀ k, k < 24 → parseFieldDescriptor (TM k).2.2.1 = some (tyM k) := by decide +kernel
theorem inM : ∀ w ∈ u_ws RM TM 24, w ∈ WS0 := ((List.forall_mem_cons.mpr ⟨q675, (List.forall_mem_cons.mpr ⟨q677, (List.forall_mem_cons.mpr ⟨q679, (List.forall_mem_cons.mpr ⟨q681, (List.forall_mem_cons.mpr ⟨q683, (List.forall_mem_cons.mpr ⟨q685, (List.forall_mem_cons.mpr ⟨q687, (List.forall_mem_cons.mpr ⟨q689, (List.forall_mem_cons.mpr ⟨q691, (List.forall_mem_cons.mpr ⟨q693, (List.forall_mem_cons.mpr ⟨q695, (List.forall_mem_cons.mpr ⟨q697, (List.forall_mem_cons.mpr ⟨q699, (List.forall_mem_cons.mpr ⟨q701, (List.forall_mem_cons.mpr ⟨q703, (List.forall_mem_cons.mpr ⟨q705, (List.forall_mem_cons.mpr ⟨q707, (List.forall_mem_cons.mpr ⟨q709, (List.forall_mem_cons.mpr ⟨q711, (List.forall_mem_cons.mpr ⟨q713, (List.forall_mem_cons.mpr ⟨q715, (List.forall_mem_cons.mpr ⟨q717, (List.forall_mem_cons.mpr ⟨q719, (List.forall_mem_cons.mpr ⟨q721, (List.forall_mem_nil _)⟩)⟩)⟩)⟩)⟩)⟩)⟩)⟩)⟩)⟩)⟩)⟩)⟩)⟩)⟩)⟩)⟩)⟩)⟩)⟩)⟩)⟩)⟩)⟩) : ∀ w ∈ ([(Jvm.Cond.lays "TextPipelineModel" "TextPipelineModel" "thrown" "I"), (Jvm.Cond.lays "TextPipelineModel" "TextPipelineModel" "table" "[I"), (Jvm.Cond.lays "TextPipelineModel" "TextPipelineModel" "first" "[I"), (Jvm.Cond.lays "TextPipelineModel" "TextPipelineModel" "second" "[I"), (Jvm.Cond.lays "TextPipelineModel" "TextPipelineModel" "left" "[Z"), (Jvm.Cond.lays "TextPipelineModel" "TextPipelineModel" "counts" "[I"), (Jvm.Cond.lays "TextPipelineModel" "TextPipelineModel" "length" "I"), (Jvm.Cond.lays "TextPipelineModel" "TextPipelineModel" "text" "[I"), (Jvm.Cond.lays "TextPipelineModel" "TextPipelineModel" "keptLength" "[I"), (Jvm.Cond.lays "TextPipelineModel" "TextPipelineModel" "kept" "[I"), (Jvm.Cond.lays "TextPipelineModel" "TextPipelineModel" "formLength" "I"), (Jvm.Cond.lays "TextPipelineModel" "TextPipelineModel" "form" "[I"), (Jvm.Cond.lays "TextPipelineModel" "TextPipelineModel" "otherLength" "I"), (Jvm.Cond.lays "TextPipelineModel" "TextPipelineModel" "other" "[I"), (Jvm.Cond.lays "TextPipelineModel" "TextPipelineModel" "pile" "[I"), (Jvm.Cond.lays "TextPipelineModel" "TextPipelineModel" "keyLength" "I"), (Jvm.Cond.lays "TextPipelineModel" "TextPipelineModel" "numbers" "[I"), (Jvm.Cond.lays "TextPipelineModel" "TextPipelineModel" "otherKeyLength" "I"), (Jvm.Cond.lays "TextPipelineModel" "TextPipelineModel" "otherNumbers" "[I"), (Jvm.Cond.lays "TextPipelineModel" "TextPipelineModel" "lineClass" "[I"), (Jvm.Cond.lays "TextPipelineModel" "TextPipelineModel" "follows" "[Z"), (Jvm.Cond.lays "TextPipelineModel" "TextPipelineModel" "side" "[I"), (Jvm.Cond.lays "TextPipelineModel" "TextPipelineModel" "levels" "[I"), (Jvm.Cond.lays "TextPipelineModel" "TextPipelineModel" "orders" "[I")] : List Cond), w ∈ WS0)
abbrev RG : String := "TextPipelineLaw"
abbrev vwCl : List vw_C := [(RP, TP, 9), (RT, TT, 7), (RR, TR, 2), (RL, TL, 1), (RS, TS, 3), (RM, TM, 24)]
def jT (cI cZ cG cR : ClassId) : List (ClassId × FieldType) := [(cI, .int), (cZ, .boolean), (cG, .array .int), (cR, .object "TextPipeline$Row")]
/-- what a caller needs of a method that it calls -/
def jCalV (y : MethodName) (C : String) (bytes : ByteArray) (maxL : Nat) (ret : Option FieldType) (n : Nat) : Prop := Cond.instanceMethod y ∈ WS0 ∧ Cond.selects C y y ∈ WS0 ∧ Cond.initialized C ∈ WS0 ∧ Cond.code y bytes maxL ret ∈ WS0 ∧ (y.cls = C ∧ y.cls ≠ "java/lang/invoke/MethodHandle" ∧ y.cls ≠ "java/lang/invoke/VarHandle" ∧ (parseMethodDescriptor y.desc).map (fun d => d.parameters.length) = some n)
def jCalS (y : MethodName) (bytes : ByteArray) (maxL : Nat) (ret : Option FieldType) (n : Nat) : Prop := Cond.static y ∈ WS0 ∧ Cond.initialized y.cls ∈ WS0 ∧ Cond.code y bytes maxL ret ∈ WS0 ∧ (y.cls ≠ "java/lang/invoke/MethodHandle" ∧ y.cls ≠ "java/lang/invoke/VarHandle" ∧ (parseMethodDescriptor y.desc).map (fun d => d.parameters.length) = some n)
abbrev yP_init : MethodName := ⟨"TextPipeline", "<init>", "()V"⟩
abbrev cP_init : ByteArray := prog_1_method_1_code
abbrev wsP_init : List Cond := .code yP_init cP_init 2 none :: WS0
abbrev yP_set : MethodName := ⟨"TextPipeline", "set", "(III)V"⟩
abbrev cP_set : ByteArray := prog_1_method_2_code
abbrev wsP_set : List Cond := .code yP_set cP_set 4 none :: WS0
theorem kP_set : jCalV yP_set "TextPipeline" cP_set 4 none 3 := ⟨q271, q272, q1, q273, by decide +kernel⟩
abbrev yP_part : MethodName := ⟨"TextPipeline", "part", "(IIIZ)V"⟩
abbrev cP_part : ByteArray := prog_1_method_3_code
abbrev wsP_part : List Cond := .code yP_part cP_part 5 none :: WS0
theorem kP_part : jCalV yP_part "TextPipeline" cP_part 5 none 4 := ⟨q357, q358, q1, q359, by decide +kernel⟩
abbrev yP_type : MethodName := ⟨"TextPipeline", "type", "(I)I"⟩
abbrev cP_type : ByteArray := prog_1_method_4_code
abbrev wsP_type : List Cond := .code yP_type cP_type 2 (some .int) :: WS0
theorem kP_type : jCalV yP_type "TextPipeline" cP_type 2 (some .int) 1 := ⟨q393, q394, q1, q395, by decide +kernel⟩
abbrev yP_wipe : MethodName := ⟨"TextPipeline", "wipe", "()V"⟩
abbrev cP_wipe : ByteArray := prog_1_method_5_code
abbrev wsP_wipe : List Cond := .code yP_wipe cP_wipe 1 none :: WS0
theorem kP_wipe : jCalV yP_wipe "TextPipeline" cP_wipe 1 none 0 := ⟨q157, q158, q1, q159, by decide +kernel⟩
abbrev yP_bring : MethodName := ⟨"TextPipeline", "bring", "(Z)I"⟩
abbrev cP_bring : ByteArray := prog_1_method_6_code
abbrev wsP_bring : List Cond := .code yP_bring cP_bring 2 (some .int) :: WS0
theorem kP_bring : jCalV yP_bring "TextPipeline" cP_bring 2 (some .int) 1 := ⟨q403, q404, q1, q405, by decide +kernel⟩
abbrev yP_at : MethodName := ⟨"TextPipeline", "at", "(I)I"⟩
abbrev cP_at : ByteArray := prog_1_method_7_code
abbrev wsP_at : List Cond := .code yP_at cP_at 2 (some .int) :: WS0
theorem kP_at : jCalV yP_at "TextPipeline" cP_at 2 (some .int) 1 := ⟨q430, q431, q1, q432, by decide +kernel⟩
abbrev yP_cluster : MethodName := ⟨"TextPipeline", "cluster", "(I)Z"⟩
abbrev cP_cluster : ByteArray := prog_1_method_8_code
abbrev wsP_cluster : List Cond := .code yP_cluster cP_cluster 2 (some .boolean) :: WS0
theorem kP_cluster : jCalV yP_cluster "TextPipeline" cP_cluster 2 (some .boolean) 1 := ⟨q458, q459, q1, q460, by decide +kernel⟩
abbrev yP_clusters : MethodName := ⟨"TextPipeline", "clusters", "()I"⟩
abbrev cP_clusters : ByteArray := prog_1_method_9_code
abbrev wsP_clusters : List Cond := .code yP_clusters cP_clusters 3 (some .int) :: WS0
theorem kP_clusters : jCalV yP_clusters "TextPipeline" cP_clusters 3 (some .int) 0 := ⟨q171, q172, q1, q173, by decide +kernel⟩
abbrev yP_line : MethodName := ⟨"TextPipeline", "line", "(I)I"⟩
abbrev cP_line : ByteArray := prog_1_method_10_code
abbrev wsP_line : List Cond := .code yP_line cP_line 2 (some .int) :: WS0
theorem kP_line : jCalV yP_line "TextPipeline" cP_line 2 (some .int) 1 := ⟨q470, q471, q1, q472, by decide +kernel⟩
abbrev yP_level : MethodName := ⟨"TextPipeline", "level", "(II)I"⟩
abbrev cP_level : ByteArray := prog_1_method_11_code
abbrev wsP_level : List Cond := .code yP_level cP_level 3 (some .int) :: WS0
theorem kP_level : jCalV yP_level "TextPipeline" cP_level 3 (some .int) 2 := ⟨q510, q511, q1, q512, by decide +kernel⟩
abbrev yP_order : MethodName := ⟨"TextPipeline", "order", "(II)I"⟩
abbrev cP_order : ByteArray := prog_1_method_12_code
abbrev wsP_order : List Cond := .code yP_order cP_order 3 (some .int) :: WS0
theorem kP_order : jCalV yP_order "TextPipeline" cP_order 3 (some .int) 2 := ⟨q586, q587, q1, q588, by decide +kernel⟩
abbrev yP_key : MethodName := ⟨"TextPipeline", "key", "()I"⟩
abbrev cP_key : ByteArray := prog_1_method_13_code
abbrev wsP_key : List Cond := .code yP_key cP_key 1 (some .int) :: WS0
theorem kP_key : jCalV yP_key "TextPipeline" cP_key 1 (some .int) 0 := ⟨q222, q223, q1, q224, by decide +kernel⟩
abbrev yP_keyAt : MethodName := ⟨"TextPipeline", "keyAt", "(I)I"⟩
abbrev cP_keyAt : ByteArray := prog_1_method_14_code
abbrev wsP_keyAt : List Cond := .code yP_keyAt cP_keyAt 2 (some .int) :: WS0
theorem kP_keyAt : jCalV yP_keyAt "TextPipeline" cP_keyAt 2 (some .int) 1 := ⟨q609, q610, q1, q611, by decide +kernel⟩
abbrev yP_keep : MethodName := ⟨"TextPipeline", "keep", "(I)V"⟩
abbrev cP_keep : ByteArray := prog_1_method_15_code
abbrev wsP_keep : List Cond := .code yP_keep cP_keep 2 none :: WS0
theorem kP_keep : jCalV yP_keep "TextPipeline" cP_keep 2 none 1 := ⟨q617, q618, q1, q619, by decide +kernel⟩
abbrev yP_compare : MethodName := ⟨"TextPipeline", "compare", "(I)I"⟩
abbrev cP_compare : ByteArray := prog_1_method_16_code
abbrev wsP_compare : List Cond := .code yP_compare cP_compare 2 (some .int) :: WS0
theorem kP_compare : jCalV yP_compare "TextPipeline" cP_compare 2 (some .int) 1 := ⟨q628, q629, q1, q630, by decide +kernel⟩
abbrev yP_same : MethodName := ⟨"TextPipeline", "same", "(I)Z"⟩
abbrev cP_same : ByteArray := prog_1_method_17_code
abbrev wsP_same : List Cond := .code yP_same cP_same 2 (some .boolean) :: WS0
theorem kP_same : jCalV yP_same "TextPipeline" cP_same 2 (some .boolean) 1 := ⟨q642, q643, q1, q644, by decide +kernel⟩
abbrev yP_fillOwnKey : MethodName := ⟨"TextPipeline", "fillOwnKey", "()V"⟩
abbrev cP_fillOwnKey : ByteArray := prog_1_method_18_code
abbrev wsP_fillOwnKey : List Cond := .code yP_fillOwnKey cP_fillOwnKey 1 none :: WS0
theorem kP_fillOwnKey : jCalV yP_fillOwnKey "TextPipeline" cP_fillOwnKey 1 none 0 := ⟨q227, (ws0_s (i := 6) (q := (⟨"TextPipeline", "fillOwnKey", "()V"⟩, 9)) (by decide +kernel) (by decide +kernel)), q1, q228, by decide +kernel⟩
abbrev yP_requireCharacter : MethodName := ⟨"TextPipeline", "requireCharacter", "(I)V"⟩
abbrev cP_requireCharacter : ByteArray := prog_1_method_19_code
abbrev wsP_requireCharacter : List Cond := .code yP_requireCharacter cP_requireCharacter 2 none :: WS0
theorem kP_requireCharacter : jCalV yP_requireCharacter "TextPipeline" cP_requireCharacter 2 none 1 := ⟨q435, (ws0_s (i := 8) (q := (⟨"TextPipeline", "requireCharacter", "(I)V"⟩, 9)) (by decide +kernel) (by decide +kernel)), q1, q436, by decide +kernel⟩
abbrev yP_requirePlace : MethodName := ⟨"TextPipeline", "requirePlace", "(I)V"⟩
abbrev cP_requirePlace : ByteArray := prog_1_method_20_code
abbrev wsP_requirePlace : List Cond := .code yP_requirePlace cP_requirePlace 2 none :: WS0
theorem kP_requirePlace : jCalV yP_requirePlace "TextPipeline" cP_requirePlace 2 none 1 := ⟨q463, (ws0_s (i := 9) (q := (⟨"TextPipeline", "requirePlace", "(I)V"⟩, 9)) (by decide +kernel) (by decide +kernel)), q1, q464, by decide +kernel⟩
abbrev yP_requireSlot : MethodName := ⟨"TextPipeline", "requireSlot", "(I)V"⟩
abbrev cP_requireSlot : ByteArray := prog_1_method_21_code
abbrev wsP_requireSlot : List Cond := .code yP_requireSlot cP_requireSlot 1 none :: WS0
theorem kP_requireSlot : jCalS yP_requireSlot cP_requireSlot 1 none 1 := ⟨q621, q1, q622, by decide +kernel⟩
abbrev yT_init : MethodName := ⟨"TextPipeline$Table", "<init>", "()V"⟩
abbrev cT_init : ByteArray := prog_8_method_1_code
abbrev wsT_init : List Cond := .code yT_init cT_init 1 none :: WS0
abbrev yT_isSettable : MethodName := ⟨"TextPipeline$Table", "isSettable", "(I)Z"⟩
abbrev cT_isSettable : ByteArray := prog_8_method_2_code
abbrev wsT_isSettable : List Cond := .code yT_isSettable cT_isSettable 1 (some .boolean) :: WS0
theorem kT_isSettable : jCalS yT_isSettable cT_isSettable 1 (some .boolean) 1 := ⟨q275, q2, q276, by decide +kernel⟩
abbrev yT_isInRange : MethodName := ⟨"TextPipeline$Table", "isInRange", "(II)Z"⟩
abbrev cT_isInRange : ByteArray := prog_8_method_3_code
abbrev wsT_isInRange : List Cond := .code yT_isInRange cT_isInRange 2 (some .boolean) :: WS0
theorem kT_isInRange : jCalS yT_isInRange cT_isInRange 2 (some .boolean) 2 := ⟨q278, q2, q279, by decide +kernel⟩
abbrev yT_isParting : MethodName := ⟨"TextPipeline$Table", "isParting", "(III)Z"⟩
abbrev cT_isParting : ByteArray := prog_8_method_4_code
abbrev wsT_isParting : List Cond := .code yT_isParting cT_isParting 3 (some .boolean) :: WS0
theorem kT_isParting : jCalS yT_isParting cT_isParting 3 (some .boolean) 3 := ⟨q361, q2, q362, by decide +kernel⟩
abbrev yT_isLead : MethodName := ⟨"TextPipeline$Table", "isLead", "(I)Z"⟩
abbrev cT_isLead : ByteArray := prog_8_method_5_code
abbrev wsT_isLead : List Cond := .code yT_isLead cT_isLead 1 (some .boolean) :: WS0
theorem kT_isLead : jCalS yT_isLead cT_isLead 1 (some .boolean) 1 := ⟨q197, q2, q198, by decide +kernel⟩
abbrev yT_isVowel : MethodName := ⟨"TextPipeline$Table", "isVowel", "(I)Z"⟩
abbrev cT_isVowel : ByteArray := prog_8_method_6_code
abbrev wsT_isVowel : List Cond := .code yT_isVowel cT_isVowel 1 (some .boolean) :: WS0
theorem kT_isVowel : jCalS yT_isVowel cT_isVowel 1 (some .boolean) 1 := ⟨q200, q2, q201, by decide +kernel⟩
abbrev yT_isTail : MethodName := ⟨"TextPipeline$Table", "isTail", "(I)Z"⟩
abbrev cT_isTail : ByteArray := prog_8_method_7_code
abbrev wsT_isTail : List Cond := .code yT_isTail cT_isTail 1 (some .boolean) :: WS0
theorem kT_isTail : jCalS yT_isTail cT_isTail 1 (some .boolean) 1 := ⟨q210, q2, q211, by decide +kernel⟩
abbrev yT_isSyllable : MethodName := ⟨"TextPipeline$Table", "isSyllable", "(I)Z"⟩
abbrev cT_isSyllable : ByteArray := prog_8_method_8_code
abbrev wsT_isSyllable : List Cond := .code yT_isSyllable cT_isSyllable 1 (some .boolean) :: WS0
theorem kT_isSyllable : jCalS yT_isSyllable cT_isSyllable 1 (some .boolean) 1 := ⟨q203, q2, q204, by decide +kernel⟩
abbrev yT_hasTail : MethodName := ⟨"TextPipeline$Table", "hasTail", "(I)Z"⟩
abbrev cT_hasTail : ByteArray := prog_8_method_9_code
abbrev wsT_hasTail : List Cond := .code yT_hasTail cT_hasTail 1 (some .boolean) :: WS0
theorem kT_hasTail : jCalS yT_hasTail cT_hasTail 1 (some .boolean) 1 := ⟨q206, q2, q207, by decide +kernel⟩
abbrev yT_change : MethodName := ⟨"TextPipeline$Table", "change", "(III)V"⟩
abbrev cT_change : ByteArray := prog_8_method_10_code
abbrev wsT_change : List Cond := .code yT_change cT_change 4 none :: WS0
theorem kT_change : jCalV yT_change "TextPipeline$Table" cT_change 4 none 3 := ⟨q349, q350, q2, q351, by decide +kernel⟩
abbrev yT_staysSmall : MethodName := ⟨"TextPipeline$Table", "staysSmall", "(III)Z"⟩
abbrev cT_staysSmall : ByteArray := prog_8_method_11_code
abbrev wsT_staysSmall : List Cond := .code yT_staysSmall cT_staysSmall 7 (some .boolean) :: WS0
theorem kT_staysSmall : jCalV yT_staysSmall "TextPipeline$Table" cT_staysSmall 7 (some .boolean) 3 := ⟨q366, q367, q2, q368, by decide +kernel⟩
abbrev yT_changeParting : MethodName := ⟨"TextPipeline$Table", "changeParting", "(IIIZ)V"⟩
abbrev cT_changeParting : ByteArray := prog_8_method_12_code
abbrev wsT_changeParting : List Cond := .code yT_changeParting cT_changeParting 5 none :: WS0
theorem kT_changeParting : jCalV yT_changeParting "TextPipeline$Table" cT_changeParting 5 none 4 := ⟨q386, q387, q2, q388, by decide +kernel⟩
abbrev yT_rank : MethodName := ⟨"TextPipeline$Table", "rank", "(I)I"⟩
abbrev cT_rank : ByteArray := prog_8_method_13_code
abbrev wsT_rank : List Cond := .code yT_rank cT_rank 2 (some .int) :: WS0
theorem kT_rank : jCalV yT_rank "TextPipeline$Table" cT_rank 2 (some .int) 1 := ⟨q244, q245, q2, q246, by decide +kernel⟩
abbrev yT_clusterClass : MethodName := ⟨"TextPipeline$Table", "clusterClass", "(I)I"⟩
abbrev cT_clusterClass : ByteArray := prog_8_method_14_code
abbrev wsT_clusterClass : List Cond := .code yT_clusterClass cT_clusterClass 2 (some .int) :: WS0
theorem kT_clusterClass : jCalV yT_clusterClass "TextPipeline$Table" cT_clusterClass 2 (some .int) 1 := ⟨q187, q188, q2, q189, by decide +kernel⟩
abbrev yT_lineClass : MethodName := ⟨"TextPipeline$Table", "lineClass", "(I)I"⟩
abbrev cT_lineClass : ByteArray := prog_8_method_15_code
abbrev wsT_lineClass : List Cond := .code yT_lineClass cT_lineClass 2 (some .int) :: WS0
theorem kT_lineClass : jCalV yT_lineClass "TextPipeline$Table" cT_lineClass 2 (some .int) 1 := ⟨q484, q485, q2, q486, by decide +kernel⟩
abbrev yT_sideClass : MethodName := ⟨"TextPipeline$Table", "sideClass", "(I)I"⟩
abbrev cT_sideClass : ByteArray := prog_8_method_16_code
abbrev wsT_sideClass : List Cond := .code yT_sideClass cT_sideClass 2 (some .int) :: WS0
theorem kT_sideClass : jCalV yT_sideClass "TextPipeline$Table" cT_sideClass 2 (some .int) 1 := ⟨q523, q524, q2, q525, by decide +kernel⟩
abbrev yT_weight : MethodName := ⟨"TextPipeline$Table", "weight", "(II)I"⟩
abbrev cT_weight : ByteArray := prog_8_method_17_code
abbrev wsT_weight : List Cond := .code yT_weight cT_weight 3 (some .int) :: WS0
theorem kT_weight : jCalV yT_weight "TextPipeline$Table" cT_weight 3 (some .int) 2 := ⟨q263, q264, q2, q265, by decide +kernel⟩
abbrev yT_partsOf : MethodName := ⟨"TextPipeline$Table", "partsOf", "(I)I"⟩
abbrev cT_partsOf : ByteArray := prog_8_method_18_code
abbrev wsT_partsOf : List Cond := .code yT_partsOf cT_partsOf 2 (some .int) :: WS0
theorem kT_partsOf : jCalV yT_partsOf "TextPipeline$Table" cT_partsOf 2 (some .int) 1 := ⟨q236, q237, q2, q238, by decide +kernel⟩
abbrev yT_partOf : MethodName := ⟨"TextPipeline$Table", "partOf", "(II)I"⟩
abbrev cT_partOf : ByteArray := prog_8_method_19_code
abbrev wsT_partOf : List Cond := .code yT_partOf cT_partOf 3 (some .int) :: WS0
theorem kT_partOf : jCalV yT_partOf "TextPipeline$Table" cT_partOf 3 (some .int) 2 := ⟨q61, q62, q2, q63, by decide +kernel⟩
abbrev yT_joinOf : MethodName := ⟨"TextPipeline$Table", "joinOf", "(II)I"⟩
abbrev cT_joinOf : ByteArray := prog_8_method_20_code
abbrev wsT_joinOf : List Cond := .code yT_joinOf cT_joinOf 5 (some .int) :: WS0
theorem kT_joinOf : jCalV yT_joinOf "TextPipeline$Table" cT_joinOf 5 (some .int) 2 := ⟨q413, q414, q2, q415, by decide +kernel⟩
abbrev yT_fillFixedProperties : MethodName := ⟨"TextPipeline$Table", "fillFixedProperties", "()V"⟩
abbrev cT_fillFixedProperties : ByteArray := prog_8_method_21_code
abbrev wsT_fillFixedProperties : List Cond := .code yT_fillFixedProperties cT_fillFixedProperties 3 none :: WS0
theorem kT_fillFixedProperties : jCalV yT_fillFixedProperties "TextPipeline$Table" cT_fillFixedProperties 3 none 0 := ⟨q38, (ws0_s (i := 0) (q := (⟨"TextPipeline$Table", "fillFixedProperties", "()V"⟩, 7)) (by decide +kernel) (by decide +kernel)), q2, q39, by decide +kernel⟩
abbrev yT_fillPartings : MethodName := ⟨"TextPipeline$Table", "fillPartings", "()V"⟩
abbrev cT_fillPartings : ByteArray := prog_8_method_22_code
abbrev wsT_fillPartings : List Cond := .code yT_fillPartings cT_fillPartings 2 none :: WS0
theorem kT_fillPartings : jCalV yT_fillPartings "TextPipeline$Table" cT_fillPartings 2 none 0 := ⟨q42, (ws0_s (i := 1) (q := (⟨"TextPipeline$Table", "fillPartings", "()V"⟩, 7)) (by decide +kernel) (by decide +kernel)), q2, q43, by decide +kernel⟩
abbrev yT_fillSyllable : MethodName := ⟨"TextPipeline$Table", "fillSyllable", "(II)V"⟩
abbrev cT_fillSyllable : ByteArray := prog_8_method_23_code
abbrev wsT_fillSyllable : List Cond := .code yT_fillSyllable cT_fillSyllable 4 none :: WS0
theorem kT_fillSyllable : jCalV yT_fillSyllable "TextPipeline$Table" cT_fillSyllable 4 none 2 := ⟨q46, (ws0_s (i := 2) (q := (⟨"TextPipeline$Table", "fillSyllable", "(II)V"⟩, 7)) (by decide +kernel) (by decide +kernel)), q2, q47, by decide +kernel⟩
abbrev yT_partAll : MethodName := ⟨"TextPipeline$Table", "partAll", "()V"⟩
abbrev cT_partAll : ByteArray := prog_8_method_24_code
abbrev wsT_partAll : List Cond := .code yT_partAll cT_partAll 2 none :: WS0
theorem kT_partAll : jCalV yT_partAll "TextPipeline$Table" cT_partAll 2 none 0 := ⟨q50, (ws0_s (i := 3) (q := (⟨"TextPipeline$Table", "partAll", "()V"⟩, 7)) (by decide +kernel) (by decide +kernel)), q2, q51, by decide +kernel⟩
abbrev yT_addPartsOf : MethodName := ⟨"TextPipeline$Table", "addPartsOf", "(II)V"⟩
abbrev cT_addPartsOf : ByteArray := prog_8_method_25_code
abbrev wsT_addPartsOf : List Cond := .code yT_addPartsOf cT_addPartsOf 4 none :: WS0
theorem kT_addPartsOf : jCalV yT_addPartsOf "TextPipeline$Table" cT_addPartsOf 4 none 2 := ⟨q58, (ws0_s (i := 5) (q := (⟨"TextPipeline$Table", "addPartsOf", "(II)V"⟩, 7)) (by decide +kernel) (by decide +kernel)), q2, q59, by decide +kernel⟩
abbrev yT_addPart : MethodName := ⟨"TextPipeline$Table", "addPart", "(II)V"⟩
abbrev cT_addPart : ByteArray := prog_8_method_26_code
abbrev wsT_addPart : List Cond := .code yT_addPart cT_addPart 3 none :: WS0
theorem kT_addPart : jCalV yT_addPart "TextPipeline$Table" cT_addPart 3 none 2 := ⟨q54, (ws0_s (i := 4) (q := (⟨"TextPipeline$Table", "addPart", "(II)V"⟩, 7)) (by decide +kernel) (by decide +kernel)), q2, q55, by decide +kernel⟩
abbrev yR_init : MethodName := ⟨"TextPipeline$Row", "<init>", "(I)V"⟩
abbrev cR_init : ByteArray := prog_6_method_1_code
abbrev wsR_init : List Cond := .code yR_init cR_init 2 none :: WS0
abbrev yR_size : MethodName := ⟨"TextPipeline$Row", "size", "()I"⟩
abbrev cR_size : ByteArray := prog_6_method_2_code
abbrev wsR_size : List Cond := .code yR_size cR_size 1 (some .int) :: WS0
theorem kR_size : jCalV yR_size "TextPipeline$Row" cR_size 1 (some .int) 0 := ⟨q175, q176, q3, q177, by decide +kernel⟩
abbrev yR_item : MethodName := ⟨"TextPipeline$Row", "item", "(I)I"⟩
abbrev cR_item : ByteArray := prog_6_method_3_code
abbrev wsR_item : List Cond := .code yR_item cR_item 2 (some .int) :: WS0
theorem kR_item : jCalV yR_item "TextPipeline$Row" cR_item 2 (some .int) 1 := ⟨q183, q184, q3, q185, by decide +kernel⟩
abbrev yR_put : MethodName := ⟨"TextPipeline$Row", "put", "(II)V"⟩
abbrev cR_put : ByteArray := prog_6_method_4_code
abbrev wsR_put : List Cond := .code yR_put cR_put 3 none :: WS0
theorem kR_put : jCalV yR_put "TextPipeline$Row" cR_put 3 none 2 := ⟨q417, q418, q3, q419, by decide +kernel⟩
abbrev yR_add : MethodName := ⟨"TextPipeline$Row", "add", "(I)V"⟩
abbrev cR_add : ByteArray := prog_6_method_5_code
abbrev wsR_add : List Cond := .code yR_add cR_add 2 none :: WS0
theorem kR_add : jCalV yR_add "TextPipeline$Row" cR_add 2 none 1 := ⟨q256, q257, q3, q258, by decide +kernel⟩
abbrev yR_insert : MethodName := ⟨"TextPipeline$Row", "insert", "(II)V"⟩
abbrev cR_insert : ByteArray := prog_6_method_6_code
abbrev wsR_insert : List Cond := .code yR_insert cR_insert 4 none :: WS0
theorem kR_insert : jCalV yR_insert "TextPipeline$Row" cR_insert 4 none 2 := ⟨q248, q249, q3, q250, by decide +kernel⟩
abbrev yR_cutTo : MethodName := ⟨"TextPipeline$Row", "cutTo", "(I)V"⟩
abbrev cR_cutTo : ByteArray := prog_6_method_7_code
abbrev wsR_cutTo : List Cond := .code yR_cutTo cR_cutTo 2 none :: WS0
theorem kR_cutTo : jCalV yR_cutTo "TextPipeline$Row" cR_cutTo 2 none 1 := ⟨q161, q162, q3, q163, by decide +kernel⟩
abbrev yR_copyOf : MethodName := ⟨"TextPipeline$Row", "copyOf", "(LTextPipeline$Row;)V"⟩
abbrev cR_copyOf : ByteArray := prog_6_method_8_code
abbrev wsR_copyOf : List Cond := .code yR_copyOf cR_copyOf 4 none :: WS0
theorem kR_copyOf : jCalV yR_copyOf "TextPipeline$Row" cR_copyOf 4 none 1 := ⟨q422, q423, q3, q424, by decide +kernel⟩
abbrev yR_comparedWith : MethodName := ⟨"TextPipeline$Row", "comparedWith", "(LTextPipeline$Row;)I"⟩
abbrev cR_comparedWith : ByteArray := prog_6_method_9_code
abbrev wsR_comparedWith : List Cond := .code yR_comparedWith cR_comparedWith 4 (some .int) :: WS0
theorem kR_comparedWith : jCalV yR_comparedWith "TextPipeline$Row" cR_comparedWith 4 (some .int) 1 := ⟨q632, q633, q3, q634, by decide +kernel⟩
abbrev yL_init : MethodName := ⟨"TextPipeline$Lines", "<init>", "()V"⟩
abbrev cL_init : ByteArray := prog_5_method_1_code
abbrev wsL_init : List Cond := .code yL_init cL_init 1 none :: WS0
abbrev yL_endBefore : MethodName := ⟨"TextPipeline$Lines", "endBefore", "(LTextPipeline$Table;LTextPipeline$Row;I)I"⟩
abbrev cL_endBefore : ByteArray := prog_5_method_2_code
abbrev wsL_endBefore : List Cond := .code yL_endBefore cL_endBefore 5 (some .int) :: WS0
theorem kL_endBefore : jCalV yL_endBefore "TextPipeline$Lines" cL_endBefore 5 (some .int) 3 := ⟨q474, q475, q4, q476, by decide +kernel⟩
abbrev yL_findKinds : MethodName := ⟨"TextPipeline$Lines", "findKinds", "(LTextPipeline$Table;LTextPipeline$Row;)V"⟩
abbrev cL_findKinds : ByteArray := prog_5_method_3_code
abbrev wsL_findKinds : List Cond := .code yL_findKinds cL_findKinds 6 none :: WS0
theorem kL_findKinds : jCalV yL_findKinds "TextPipeline$Lines" cL_findKinds 6 none 2 := ⟨q480, (ws0_s (i := 10) (q := (⟨"TextPipeline$Lines", "findKinds", "(LTextPipeline$Table;LTextPipeline$Row;)V"⟩, 1)) (by decide +kernel) (by decide +kernel)), q4, q481, by decide +kernel⟩
abbrev yL_kindOverSpaces : MethodName := ⟨"TextPipeline$Lines", "kindOverSpaces", "(I)I"⟩
abbrev cL_kindOverSpaces : ByteArray := prog_5_method_4_code
abbrev wsL_kindOverSpaces : List Cond := .code yL_kindOverSpaces cL_kindOverSpaces 3 (some .int) :: WS0
theorem kL_kindOverSpaces : jCalV yL_kindOverSpaces "TextPipeline$Lines" cL_kindOverSpaces 3 (some .int) 1 := ⟨q492, (ws0_s (i := 11) (q := (⟨"TextPipeline$Lines", "kindOverSpaces", "(I)I"⟩, 1)) (by decide +kernel) (by decide +kernel)), q4, q493, by decide +kernel⟩
abbrev yL_endBetween : MethodName := ⟨"TextPipeline$Lines", "endBetween", "(IIIZ)I"⟩
abbrev cL_endBetween : ByteArray := prog_5_method_5_code
abbrev wsL_endBetween : List Cond := .code yL_endBetween cL_endBetween 4 (some .int) :: WS0
theorem kL_endBetween : jCalS yL_endBetween cL_endBetween 4 (some .int) 4 := ⟨q495, q4, q496, by decide +kernel⟩
abbrev yL_isGap : MethodName := ⟨"TextPipeline$Lines", "isGap", "(I)Z"⟩
abbrev cL_isGap : ByteArray := prog_5_method_6_code
abbrev wsL_isGap : List Cond := .code yL_isGap cL_isGap 1 (some .boolean) :: WS0
theorem kL_isGap : jCalS yL_isGap cL_isGap 1 (some .boolean) 1 := ⟨q488, q4, q489, by decide +kernel⟩
abbrev yL_isWord : MethodName := ⟨"TextPipeline$Lines", "isWord", "(I)Z"⟩
abbrev cL_isWord : ByteArray := prog_5_method_7_code
abbrev wsL_isWord : List Cond := .code yL_isWord cL_isWord 1 (some .boolean) :: WS0
theorem kL_isWord : jCalS yL_isWord cL_isWord 1 (some .boolean) 1 := ⟨q504, q4, q505, by decide +kernel⟩
abbrev yL_holdsOverSpaces : MethodName := ⟨"TextPipeline$Lines", "holdsOverSpaces", "(III)Z"⟩
abbrev cL_holdsOverSpaces : ByteArray := prog_5_method_8_code
abbrev wsL_holdsOverSpaces : List Cond := .code yL_holdsOverSpaces cL_holdsOverSpaces 3 (some .boolean) :: WS0
theorem kL_holdsOverSpaces : jCalS yL_holdsOverSpaces cL_holdsOverSpaces 3 (some .boolean) 3 := ⟨q498, q4, q499, by decide +kernel⟩
abbrev yL_holdsSideBySide : MethodName := ⟨"TextPipeline$Lines", "holdsSideBySide", "(II)Z"⟩
abbrev cL_holdsSideBySide : ByteArray := prog_5_method_9_code
abbrev wsL_holdsSideBySide : List Cond := .code yL_holdsSideBySide cL_holdsSideBySide 2 (some .boolean) :: WS0
theorem kL_holdsSideBySide : jCalS yL_holdsSideBySide cL_holdsSideBySide 2 (some .boolean) 2 := ⟨q501, q4, q502, by decide +kernel⟩
abbrev yS_init : MethodName := ⟨"TextPipeline$Sides", "<init>", "()V"⟩
abbrev cS_init : ByteArray := prog_7_method_1_code
abbrev wsS_init : List Cond := .code yS_init cS_init 1 none :: WS0
abbrev yS_levelOf : MethodName := ⟨"TextPipeline$Sides", "levelOf", "(I)I"⟩
abbrev cS_levelOf : ByteArray := prog_7_method_2_code
abbrev wsS_levelOf : List Cond := .code yS_levelOf cS_levelOf 2 (some .int) :: WS0
theorem kS_levelOf : jCalV yS_levelOf "TextPipeline$Sides" cS_levelOf 2 (some .int) 1 := ⟨q579, q580, q5, q581, by decide +kernel⟩
abbrev yS_readAs : MethodName := ⟨"TextPipeline$Sides", "readAs", "(I)I"⟩
abbrev cS_readAs : ByteArray := prog_7_method_3_code
abbrev wsS_readAs : List Cond := .code yS_readAs cS_readAs 2 (some .int) :: WS0
theorem kS_readAs : jCalV yS_readAs "TextPipeline$Sides" cS_readAs 2 (some .int) 1 := ⟨q602, q603, q5, q604, by decide +kernel⟩
abbrev yS_findLevels : MethodName := ⟨"TextPipeline$Sides", "findLevels", "(LTextPipeline$Table;LTextPipeline$Row;I)V"⟩
abbrev cS_findLevels : ByteArray := prog_7_method_4_code
abbrev wsS_findLevels : List Cond := .code yS_findLevels cS_findLevels 7 none :: WS0
theorem kS_findLevels : jCalV yS_findLevels "TextPipeline$Sides" cS_findLevels 7 none 3 := ⟨q514, q515, q5, q516, by decide +kernel⟩
abbrev yS_findOrder : MethodName := ⟨"TextPipeline$Sides", "findOrder", "(I)V"⟩
abbrev cS_findOrder : ByteArray := prog_7_method_5_code
abbrev wsS_findOrder : List Cond := .code yS_findOrder cS_findOrder 3 none :: WS0
theorem kS_findOrder : jCalV yS_findOrder "TextPipeline$Sides" cS_findOrder 3 none 1 := ⟨q590, q591, q5, q592, by decide +kernel⟩
abbrev yS_baseOf : MethodName := ⟨"TextPipeline$Sides", "baseOf", "(LTextPipeline$Table;LTextPipeline$Row;)I"⟩
abbrev cS_baseOf : ByteArray := prog_7_method_6_code
abbrev wsS_baseOf : List Cond := .code yS_baseOf cS_baseOf 4 (some .int) :: WS0
theorem kS_baseOf : jCalS yS_baseOf cS_baseOf 4 (some .int) 2 := ⟨q519, q5, q520, by decide +kernel⟩
abbrev yS_isLetter : MethodName := ⟨"TextPipeline$Sides", "isLetter", "(I)Z"⟩
abbrev cS_isLetter : ByteArray := prog_7_method_7_code
abbrev wsS_isLetter : List Cond := .code yS_isLetter cS_isLetter 1 (some .boolean) :: WS0
theorem kS_isLetter : jCalS yS_isLetter cS_isLetter 1 (some .boolean) 1 := ⟨q527, q5, q528, by decide +kernel⟩
abbrev yS_isNeutral : MethodName := ⟨"TextPipeline$Sides", "isNeutral", "(I)Z"⟩
abbrev cS_isNeutral : ByteArray := prog_7_method_8_code
abbrev wsS_isNeutral : List Cond := .code yS_isNeutral cS_isNeutral 1 (some .boolean) :: WS0
theorem kS_isNeutral : jCalS yS_isNeutral cS_isNeutral 1 (some .boolean) 1 := ⟨q562, q5, q563, by decide +kernel⟩
abbrev yS_readsRight : MethodName := ⟨"TextPipeline$Sides", "readsRight", "(I)Z"⟩
abbrev cS_readsRight : ByteArray := prog_7_method_9_code
abbrev wsS_readsRight : List Cond := .code yS_readsRight cS_readsRight 1 (some .boolean) :: WS0
theorem kS_readsRight : jCalS yS_readsRight cS_readsRight 1 (some .boolean) 1 := ⟨q569, q5, q570, by decide +kernel⟩
abbrev yS_takeKinds : MethodName := ⟨"TextPipeline$Sides", "takeKinds", "(LTextPipeline$Table;LTextPipeline$Row;I)V"⟩
abbrev cS_takeKinds : ByteArray := prog_7_method_10_code
abbrev wsS_takeKinds : List Cond := .code yS_takeKinds cS_takeKinds 5 none :: WS0
theorem kS_takeKinds : jCalV yS_takeKinds "TextPipeline$Sides" cS_takeKinds 5 none 3 := ⟨q531, (ws0_s (i := 12) (q := (⟨"TextPipeline$Sides", "takeKinds", "(LTextPipeline$Table;LTextPipeline$Row;I)V"⟩, 3)) (by decide +kernel) (by decide +kernel)), q5, q532, by decide +kernel⟩
abbrev yS_takeFromFront : MethodName := ⟨"TextPipeline$Sides", "takeFromFront", "(I)V"⟩
abbrev cS_takeFromFront : ByteArray := prog_7_method_11_code
abbrev wsS_takeFromFront : List Cond := .code yS_takeFromFront cS_takeFromFront 3 none :: WS0
theorem kS_takeFromFront : jCalV yS_takeFromFront "TextPipeline$Sides" cS_takeFromFront 3 none 1 := ⟨q535, (ws0_s (i := 13) (q := (⟨"TextPipeline$Sides", "takeFromFront", "(I)V"⟩, 3)) (by decide +kernel) (by decide +kernel)), q5, q536, by decide +kernel⟩
abbrev yS_changeArabs : MethodName := ⟨"TextPipeline$Sides", "changeArabs", "(I)V"⟩
abbrev cS_changeArabs : ByteArray := prog_7_method_12_code
abbrev wsS_changeArabs : List Cond := .code yS_changeArabs cS_changeArabs 4 none :: WS0
theorem kS_changeArabs : jCalV yS_changeArabs "TextPipeline$Sides" cS_changeArabs 4 none 1 := ⟨q539, (ws0_s (i := 14) (q := (⟨"TextPipeline$Sides", "changeArabs", "(I)V"⟩, 3)) (by decide +kernel) (by decide +kernel)), q5, q540, by decide +kernel⟩
abbrev yS_joinNumbers : MethodName := ⟨"TextPipeline$Sides", "joinNumbers", "(I)V"⟩
abbrev cS_joinNumbers : ByteArray := prog_7_method_13_code
abbrev wsS_joinNumbers : List Cond := .code yS_joinNumbers cS_joinNumbers 5 none :: WS0
theorem kS_joinNumbers : jCalV yS_joinNumbers "TextPipeline$Sides" cS_joinNumbers 5 none 1 := ⟨q543, (ws0_s (i := 15) (q := (⟨"TextPipeline$Sides", "joinNumbers", "(I)V"⟩, 3)) (by decide +kernel) (by decide +kernel)), q5, q544, by decide +kernel⟩
abbrev yS_changeUnits : MethodName := ⟨"TextPipeline$Sides", "changeUnits", "(I)V"⟩
abbrev cS_changeUnits : ByteArray := prog_7_method_14_code
abbrev wsS_changeUnits : List Cond := .code yS_changeUnits cS_changeUnits 5 none :: WS0
theorem kS_changeUnits : jCalV yS_changeUnits "TextPipeline$Sides" cS_changeUnits 5 none 1 := ⟨q547, (ws0_s (i := 16) (q := (⟨"TextPipeline$Sides", "changeUnits", "(I)V"⟩, 3)) (by decide +kernel) (by decide +kernel)), q5, q548, by decide +kernel⟩
abbrev yS_changeLeftNumbers : MethodName := ⟨"TextPipeline$Sides", "changeLeftNumbers", "(I)V"⟩
abbrev cS_changeLeftNumbers : ByteArray := prog_7_method_15_code
abbrev wsS_changeLeftNumbers : List Cond := .code yS_changeLeftNumbers cS_changeLeftNumbers 4 none :: WS0
theorem kS_changeLeftNumbers : jCalV yS_changeLeftNumbers "TextPipeline$Sides" cS_changeLeftNumbers 4 none 1 := ⟨q555, (ws0_s (i := 18) (q := (⟨"TextPipeline$Sides", "changeLeftNumbers", "(I)V"⟩, 3)) (by decide +kernel) (by decide +kernel)), q5, q556, by decide +kernel⟩
abbrev yS_changeNeutrals : MethodName := ⟨"TextPipeline$Sides", "changeNeutrals", "(I)V"⟩
abbrev cS_changeNeutrals : ByteArray := prog_7_method_16_code
abbrev wsS_changeNeutrals : List Cond := .code yS_changeNeutrals cS_changeNeutrals 4 none :: WS0
theorem kS_changeNeutrals : jCalV yS_changeNeutrals "TextPipeline$Sides" cS_changeNeutrals 4 none 1 := ⟨q559, (ws0_s (i := 19) (q := (⟨"TextPipeline$Sides", "changeNeutrals", "(I)V"⟩, 3)) (by decide +kernel) (by decide +kernel)), q5, q560, by decide +kernel⟩
abbrev yS_kindBetween : MethodName := ⟨"TextPipeline$Sides", "kindBetween", "(II)I"⟩
abbrev cS_kindBetween : ByteArray := prog_7_method_17_code
abbrev wsS_kindBetween : List Cond := .code yS_kindBetween cS_kindBetween 3 (some .int) :: WS0
theorem kS_kindBetween : jCalV yS_kindBetween "TextPipeline$Sides" cS_kindBetween 3 (some .int) 2 := ⟨q566, (ws0_s (i := 20) (q := (⟨"TextPipeline$Sides", "kindBetween", "(II)I"⟩, 3)) (by decide +kernel) (by decide +kernel)), q5, q567, by decide +kernel⟩
abbrev yS_fillKinds : MethodName := ⟨"TextPipeline$Sides", "fillKinds", "(III)V"⟩
abbrev cS_fillKinds : ByteArray := prog_7_method_18_code
abbrev wsS_fillKinds : List Cond := .code yS_fillKinds cS_fillKinds 5 none :: WS0
theorem kS_fillKinds : jCalV yS_fillKinds "TextPipeline$Sides" cS_fillKinds 5 none 3 := ⟨q551, (ws0_s (i := 17) (q := (⟨"TextPipeline$Sides", "fillKinds", "(III)V"⟩, 3)) (by decide +kernel) (by decide +kernel)), q5, q552, by decide +kernel⟩
abbrev yS_levelFor : MethodName := ⟨"TextPipeline$Sides", "levelFor", "(II)I"⟩
abbrev cS_levelFor : ByteArray := prog_7_method_19_code
abbrev wsS_levelFor : List Cond := .code yS_levelFor cS_levelFor 2 (some .int) :: WS0
theorem kS_levelFor : jCalS yS_levelFor cS_levelFor 2 (some .int) 2 := ⟨q572, q5, q573, by decide +kernel⟩
abbrev yS_resetGaps : MethodName := ⟨"TextPipeline$Sides", "resetGaps", "(LTextPipeline$Table;LTextPipeline$Row;I)V"⟩
abbrev cS_resetGaps : ByteArray := prog_7_method_20_code
abbrev wsS_resetGaps : List Cond := .code yS_resetGaps cS_resetGaps 7 none :: WS0
theorem kS_resetGaps : jCalV yS_resetGaps "TextPipeline$Sides" cS_resetGaps 7 none 3 := ⟨q576, (ws0_s (i := 21) (q := (⟨"TextPipeline$Sides", "resetGaps", "(LTextPipeline$Table;LTextPipeline$Row;I)V"⟩, 3)) (by decide +kernel) (by decide +kernel)), q5, q577, by decide +kernel⟩
abbrev yS_turnRows : MethodName := ⟨"TextPipeline$Sides", "turnRows", "(II)V"⟩
abbrev cS_turnRows : ByteArray := prog_7_method_21_code
abbrev wsS_turnRows : List Cond := .code yS_turnRows cS_turnRows 5 none :: WS0
theorem kS_turnRows : jCalV yS_turnRows "TextPipeline$Sides" cS_turnRows 5 none 2 := ⟨q595, (ws0_s (i := 22) (q := (⟨"TextPipeline$Sides", "turnRows", "(II)V"⟩, 3)) (by decide +kernel) (by decide +kernel)), q5, q596, by decide +kernel⟩
abbrev yS_turnRound : MethodName := ⟨"TextPipeline$Sides", "turnRound", "(II)V"⟩
abbrev cS_turnRound : ByteArray := prog_7_method_22_code
abbrev wsS_turnRound : List Cond := .code yS_turnRound cS_turnRound 6 none :: WS0
theorem kS_turnRound : jCalV yS_turnRound "TextPipeline$Sides" cS_turnRound 6 none 2 := ⟨q599, (ws0_s (i := 23) (q := (⟨"TextPipeline$Sides", "turnRound", "(II)V"⟩, 3)) (by decide +kernel) (by decide +kernel)), q5, q600, by decide +kernel⟩
abbrev yC_endsBefore : MethodName := ⟨"TextPipeline$Clusters", "endsBefore", "(LTextPipeline$Table;LTextPipeline$Row;I)Z"⟩
abbrev cC_endsBefore : ByteArray := prog_2_method_2_code
abbrev wsC_endsBefore : List Cond := .code yC_endsBefore cC_endsBefore 5 (some .boolean) :: WS0
theorem kC_endsBefore : jCalS yC_endsBefore cC_endsBefore 5 (some .boolean) 3 := ⟨q179, q15, q180, by decide +kernel⟩
abbrev yC_standsAlone : MethodName := ⟨"TextPipeline$Clusters", "standsAlone", "(I)Z"⟩
abbrev cC_standsAlone : ByteArray := prog_2_method_3_code
abbrev wsC_standsAlone : List Cond := .code yC_standsAlone cC_standsAlone 1 (some .boolean) :: WS0
theorem kC_standsAlone : jCalS yC_standsAlone cC_standsAlone 1 (some .boolean) 1 := ⟨q191, q15, q192, by decide +kernel⟩
abbrev yC_staysInSyllable : MethodName := ⟨"TextPipeline$Clusters", "staysInSyllable", "(II)Z"⟩
abbrev cC_staysInSyllable : ByteArray := prog_2_method_4_code
abbrev wsC_staysInSyllable : List Cond := .code yC_staysInSyllable cC_staysInSyllable 2 (some .boolean) :: WS0
theorem kC_staysInSyllable : jCalS yC_staysInSyllable cC_staysInSyllable 2 (some .boolean) 2 := ⟨q194, q15, q195, by decide +kernel⟩
abbrev yC_isAttached : MethodName := ⟨"TextPipeline$Clusters", "isAttached", "(II)Z"⟩
abbrev cC_isAttached : ByteArray := prog_2_method_5_code
abbrev wsC_isAttached : List Cond := .code yC_isAttached cC_isAttached 2 (some .boolean) :: WS0
theorem kC_isAttached : jCalS yC_isAttached cC_isAttached 2 (some .boolean) 2 := ⟨q213, q15, q214, by decide +kernel⟩
abbrev yC_isJoinedPicture : MethodName := ⟨"TextPipeline$Clusters", "isJoinedPicture", "(LTextPipeline$Table;LTextPipeline$Row;I)Z"⟩
abbrev cC_isJoinedPicture : ByteArray := prog_2_method_6_code
abbrev wsC_isJoinedPicture : List Cond := .code yC_isJoinedPicture cC_isJoinedPicture 4 (some .boolean) :: WS0
theorem kC_isJoinedPicture : jCalS yC_isJoinedPicture cC_isJoinedPicture 4 (some .boolean) 3 := ⟨q216, q15, q217, by decide +kernel⟩
abbrev yC_isSecondRegion : MethodName := ⟨"TextPipeline$Clusters", "isSecondRegion", "(LTextPipeline$Table;LTextPipeline$Row;I)Z"⟩
abbrev cC_isSecondRegion : ByteArray := prog_2_method_7_code
abbrev wsC_isSecondRegion : List Cond := .code yC_isSecondRegion cC_isSecondRegion 4 (some .boolean) :: WS0
theorem kC_isSecondRegion : jCalS yC_isSecondRegion cC_isSecondRegion 4 (some .boolean) 3 := ⟨q219, q15, q220, by decide +kernel⟩
abbrev yF_fillParted : MethodName := ⟨"TextPipeline$Forms", "fillParted", "(LTextPipeline$Table;LTextPipeline$Row;LTextPipeline$Row;)V"⟩
abbrev cF_fillParted : ByteArray := prog_3_method_2_code
abbrev wsF_fillParted : List Cond := .code yF_fillParted cF_fillParted 6 none :: WS0
theorem kF_fillParted : jCalS yF_fillParted cF_fillParted 6 none 3 := ⟨q230, q13, q231, by decide +kernel⟩
abbrev yF_joinAll : MethodName := ⟨"TextPipeline$Forms", "joinAll", "(LTextPipeline$Table;LTextPipeline$Row;)V"⟩
abbrev cF_joinAll : ByteArray := prog_3_method_3_code
abbrev wsF_joinAll : List Cond := .code yF_joinAll cF_joinAll 7 none :: WS0
theorem kF_joinAll : jCalS yF_joinAll cF_joinAll 7 none 2 := ⟨q407, q13, q408, by decide +kernel⟩
abbrev yF_insertByRank : MethodName := ⟨"TextPipeline$Forms", "insertByRank", "(LTextPipeline$Table;LTextPipeline$Row;I)V"⟩
abbrev cF_insertByRank : ByteArray := prog_3_method_4_code
abbrev wsF_insertByRank : List Cond := .code yF_insertByRank cF_insertByRank 5 none :: WS0
theorem kF_insertByRank : jCalS yF_insertByRank cF_insertByRank 5 none 3 := ⟨q241, q13, q242, by decide +kernel⟩
abbrev yF_openStarter : MethodName := ⟨"TextPipeline$Forms", "openStarter", "(LTextPipeline$Table;LTextPipeline$Row;II)I"⟩
abbrev cF_openStarter : ByteArray := prog_3_method_5_code
abbrev wsF_openStarter : List Cond := .code yF_openStarter cF_openStarter 6 (some .int) :: WS0
theorem kF_openStarter : jCalS yF_openStarter cF_openStarter 6 (some .int) 4 := ⟨q410, q13, q411, by decide +kernel⟩
abbrev yK_fill : MethodName := ⟨"TextPipeline$Keys", "fill", "(LTextPipeline$Table;LTextPipeline$Row;LTextPipeline$Row;)V"⟩
abbrev cK_fill : ByteArray := prog_4_method_2_code
abbrev wsK_fill : List Cond := .code yK_fill cK_fill 6 none :: WS0
theorem kK_fill : jCalS yK_fill cK_fill 6 none 3 := ⟨q252, q16, q253, by decide +kernel⟩
abbrev yM_init : MethodName := ⟨"TextPipelineModel", "<init>", "()V"⟩
abbrev cM_init : ByteArray := prog_10_method_1_code
abbrev wsM_init : List Cond := .code yM_init cM_init 2 none :: WS0
abbrev yM_thrown : MethodName := ⟨"TextPipelineModel", "thrown", "()I"⟩
abbrev cM_thrown : ByteArray := prog_10_method_2_code
abbrev wsM_thrown : List Cond := .code yM_thrown cM_thrown 1 (some .int) :: WS0
theorem kM_thrown : jCalV yM_thrown "TextPipelineModel" cM_thrown 1 (some .int) 0 := ⟨q725, q726, q6, q727, by decide +kernel⟩
abbrev yM_set : MethodName := ⟨"TextPipelineModel", "set", "(III)V"⟩
abbrev cM_set : ByteArray := prog_10_method_3_code
abbrev wsM_set : List Cond := .code yM_set cM_set 5 none :: WS0
theorem kM_set : jCalV yM_set "TextPipelineModel" cM_set 5 none 3 := ⟨q729, q730, q6, q731, by decide +kernel⟩
abbrev yM_isShort : MethodName := ⟨"TextPipelineModel", "isShort", "()Z"⟩
abbrev cM_isShort : ByteArray := prog_10_method_4_code
abbrev wsM_isShort : List Cond := .code yM_isShort cM_isShort 3 (some .boolean) :: WS0
theorem kM_isShort : jCalV yM_isShort "TextPipelineModel" cM_isShort 3 (some .boolean) 0 := ⟨q738, (ws0_s (i := 24) (q := (⟨"TextPipelineModel", "isShort", "()Z"⟩, 24)) (by decide +kernel) (by decide +kernel)), q6, q739, by decide +kernel⟩
abbrev yM_part : MethodName := ⟨"TextPipelineModel", "part", "(IIIZ)V"⟩
abbrev cM_part : ByteArray := prog_10_method_5_code
abbrev wsM_part : List Cond := .code yM_part cM_part 7 none :: WS0
theorem kM_part : jCalV yM_part "TextPipelineModel" cM_part 7 none 4 := ⟨q733, q734, q6, q735, by decide +kernel⟩
abbrev yM_property : MethodName := ⟨"TextPipelineModel", "property", "(II)I"⟩
abbrev cM_property : ByteArray := prog_10_method_6_code
abbrev wsM_property : List Cond := .code yM_property cM_property 3 (some .int) :: WS0
theorem kM_property : jCalV yM_property "TextPipelineModel" cM_property 3 (some .int) 2 := ⟨q782, (ws0_s (i := 31) (q := (⟨"TextPipelineModel", "property", "(II)I"⟩, 24)) (by decide +kernel) (by decide +kernel)), q6, q783, by decide +kernel⟩
abbrev yM_rank : MethodName := ⟨"TextPipelineModel", "rank", "(I)I"⟩
abbrev cM_rank : ByteArray := prog_10_method_7_code
abbrev wsM_rank : List Cond := .code yM_rank cM_rank 2 (some .int) :: WS0
theorem kM_rank : jCalV yM_rank "TextPipelineModel" cM_rank 2 (some .int) 1 := ⟨q778, (ws0_s (i := 30) (q := (⟨"TextPipelineModel", "rank", "(I)I"⟩, 24)) (by decide +kernel) (by decide +kernel)), q6, q779, by decide +kernel⟩
abbrev yM_weight : MethodName := ⟨"TextPipelineModel", "weight", "(II)I"⟩
abbrev cM_weight : ByteArray := prog_10_method_8_code
abbrev wsM_weight : List Cond := .code yM_weight cM_weight 3 (some .int) :: WS0
theorem kM_weight : jCalV yM_weight "TextPipelineModel" cM_weight 3 (some .int) 2 := ⟨q918, (ws0_s (i := 59) (q := (⟨"TextPipelineModel", "weight", "(II)I"⟩, 24)) (by decide +kernel) (by decide +kernel)), q6, q919, by decide +kernel⟩
abbrev yM_clusterOf : MethodName := ⟨"TextPipelineModel", "clusterOf", "(I)I"⟩
abbrev cM_clusterOf : ByteArray := prog_10_method_9_code
abbrev wsM_clusterOf : List Cond := .code yM_clusterOf cM_clusterOf 2 (some .int) :: WS0
theorem kM_clusterOf : jCalV yM_clusterOf "TextPipelineModel" cM_clusterOf 2 (some .int) 1 := ⟨q826, (ws0_s (i := 41) (q := (⟨"TextPipelineModel", "clusterOf", "(I)I"⟩, 24)) (by decide +kernel) (by decide +kernel)), q6, q827, by decide +kernel⟩
abbrev yM_sideOf : MethodName := ⟨"TextPipelineModel", "sideOf", "(I)I"⟩
abbrev cM_sideOf : ByteArray := prog_10_method_10_code
abbrev wsM_sideOf : List Cond := .code yM_sideOf cM_sideOf 2 (some .int) :: WS0
theorem kM_sideOf : jCalV yM_sideOf "TextPipelineModel" cM_sideOf 2 (some .int) 1 := ⟨q878, (ws0_s (i := 51) (q := (⟨"TextPipelineModel", "sideOf", "(I)I"⟩, 24)) (by decide +kernel) (by decide +kernel)), q6, q879, by decide +kernel⟩
abbrev yM_isLead : MethodName := ⟨"TextPipelineModel", "isLead", "(I)Z"⟩
abbrev cM_isLead : ByteArray := prog_10_method_11_code
abbrev wsM_isLead : List Cond := .code yM_isLead cM_isLead 2 (some .boolean) :: WS0
theorem kM_isLead : jCalV yM_isLead "TextPipelineModel" cM_isLead 2 (some .boolean) 1 := ⟨q798, (ws0_s (i := 35) (q := (⟨"TextPipelineModel", "isLead", "(I)Z"⟩, 24)) (by decide +kernel) (by decide +kernel)), q6, q799, by decide +kernel⟩
abbrev yM_isVowel : MethodName := ⟨"TextPipelineModel", "isVowel", "(I)Z"⟩
abbrev cM_isVowel : ByteArray := prog_10_method_12_code
abbrev wsM_isVowel : List Cond := .code yM_isVowel cM_isVowel 2 (some .boolean) :: WS0
theorem kM_isVowel : jCalV yM_isVowel "TextPipelineModel" cM_isVowel 2 (some .boolean) 1 := ⟨q802, (ws0_s (i := 36) (q := (⟨"TextPipelineModel", "isVowel", "(I)Z"⟩, 24)) (by decide +kernel) (by decide +kernel)), q6, q803, by decide +kernel⟩
abbrev yM_isTail : MethodName := ⟨"TextPipelineModel", "isTail", "(I)Z"⟩
abbrev cM_isTail : ByteArray := prog_10_method_13_code
abbrev wsM_isTail : List Cond := .code yM_isTail cM_isTail 2 (some .boolean) :: WS0
theorem kM_isTail : jCalV yM_isTail "TextPipelineModel" cM_isTail 2 (some .boolean) 1 := ⟨q810, (ws0_s (i := 38) (q := (⟨"TextPipelineModel", "isTail", "(I)Z"⟩, 24)) (by decide +kernel) (by decide +kernel)), q6, q811, by decide +kernel⟩
abbrev yM_isOpen : MethodName := ⟨"TextPipelineModel", "isOpen", "(I)Z"⟩
abbrev cM_isOpen : ByteArray := prog_10_method_14_code
abbrev wsM_isOpen : List Cond := .code yM_isOpen cM_isOpen 2 (some .boolean) :: WS0
theorem kM_isOpen : jCalV yM_isOpen "TextPipelineModel" cM_isOpen 2 (some .boolean) 1 := ⟨q806, (ws0_s (i := 37) (q := (⟨"TextPipelineModel", "isOpen", "(I)Z"⟩, 24)) (by decide +kernel) (by decide +kernel)), q6, q807, by decide +kernel⟩
abbrev yM_isClosed : MethodName := ⟨"TextPipelineModel", "isClosed", "(I)Z"⟩
abbrev cM_isClosed : ByteArray := prog_10_method_15_code
abbrev wsM_isClosed : List Cond := .code yM_isClosed cM_isClosed 2 (some .boolean) :: WS0
theorem kM_isClosed : jCalV yM_isClosed "TextPipelineModel" cM_isClosed 2 (some .boolean) 1 := ⟨q834, (ws0_s (i := 43) (q := (⟨"TextPipelineModel", "isClosed", "(I)Z"⟩, 24)) (by decide +kernel) (by decide +kernel)), q6, q835, by decide +kernel⟩
abbrev yM_type : MethodName := ⟨"TextPipelineModel", "type", "(I)I"⟩
abbrev cM_type : ByteArray := prog_10_method_16_code
abbrev wsM_type : List Cond := .code yM_type cM_type 2 (some .int) :: WS0
theorem kM_type : jCalV yM_type "TextPipelineModel" cM_type 2 (some .int) 1 := ⟨q741, q742, q6, q743, by decide +kernel⟩
abbrev yM_wipe : MethodName := ⟨"TextPipelineModel", "wipe", "()V"⟩
abbrev cM_wipe : ByteArray := prog_10_method_17_code
abbrev wsM_wipe : List Cond := .code yM_wipe cM_wipe 1 none :: WS0
theorem kM_wipe : jCalV yM_wipe "TextPipelineModel" cM_wipe 1 none 0 := ⟨q745, q746, q6, q747, by decide +kernel⟩
abbrev yM_noPlace : MethodName := ⟨"TextPipelineModel", "noPlace", "(II)Z"⟩
abbrev cM_noPlace : ByteArray := prog_10_method_18_code
abbrev wsM_noPlace : List Cond := .code yM_noPlace cM_noPlace 3 (some .boolean) :: WS0
theorem kM_noPlace : jCalV yM_noPlace "TextPipelineModel" cM_noPlace 3 (some .boolean) 2 := ⟨q754, (ws0_s (i := 25) (q := (⟨"TextPipelineModel", "noPlace", "(II)Z"⟩, 24)) (by decide +kernel) (by decide +kernel)), q6, q755, by decide +kernel⟩
abbrev yM_at : MethodName := ⟨"TextPipelineModel", "at", "(I)I"⟩
abbrev cM_at : ByteArray := prog_10_method_19_code
abbrev wsM_at : List Cond := .code yM_at cM_at 2 (some .int) :: WS0
theorem kM_at : jCalV yM_at "TextPipelineModel" cM_at 2 (some .int) 1 := ⟨q749, q750, q6, q751, by decide +kernel⟩
abbrev yM_put : MethodName := ⟨"TextPipelineModel", "put", "(I)V"⟩
abbrev cM_put : ByteArray := prog_10_method_20_code
abbrev wsM_put : List Cond := .code yM_put cM_put 2 none :: WS0
theorem kM_put : jCalV yM_put "TextPipelineModel" cM_put 2 none 1 := ⟨q770, (ws0_s (i := 28) (q := (⟨"TextPipelineModel", "put", "(I)V"⟩, 24)) (by decide +kernel) (by decide +kernel)), q6, q771, by decide +kernel⟩
abbrev yM_putParts : MethodName := ⟨"TextPipelineModel", "putParts", "(I)V"⟩
abbrev cM_putParts : ByteArray := prog_10_method_21_code
abbrev wsM_putParts : List Cond := .code yM_putParts cM_putParts 4 none :: WS0
theorem kM_putParts : jCalV yM_putParts "TextPipelineModel" cM_putParts 4 none 1 := ⟨q766, (ws0_s (i := 27) (q := (⟨"TextPipelineModel", "putParts", "(I)V"⟩, 24)) (by decide +kernel) (by decide +kernel)), q6, q767, by decide +kernel⟩
abbrev yM_rankForm : MethodName := ⟨"TextPipelineModel", "rankForm", "()V"⟩
abbrev cM_rankForm : ByteArray := prog_10_method_22_code
abbrev wsM_rankForm : List Cond := .code yM_rankForm cM_rankForm 5 none :: WS0
theorem kM_rankForm : jCalV yM_rankForm "TextPipelineModel" cM_rankForm 5 none 0 := ⟨q774, (ws0_s (i := 29) (q := (⟨"TextPipelineModel", "rankForm", "()V"⟩, 24)) (by decide +kernel) (by decide +kernel)), q6, q775, by decide +kernel⟩
abbrev yM_partText : MethodName := ⟨"TextPipelineModel", "partText", "()V"⟩
abbrev cM_partText : ByteArray := prog_10_method_23_code
abbrev wsM_partText : List Cond := .code yM_partText cM_partText 2 none :: WS0
theorem kM_partText : jCalV yM_partText "TextPipelineModel" cM_partText 2 none 0 := ⟨q762, (ws0_s (i := 26) (q := (⟨"TextPipelineModel", "partText", "()V"⟩, 24)) (by decide +kernel) (by decide +kernel)), q6, q763, by decide +kernel⟩
abbrev yM_partKept : MethodName := ⟨"TextPipelineModel", "partKept", "(I)V"⟩
abbrev cM_partKept : ByteArray := prog_10_method_24_code
abbrev wsM_partKept : List Cond := .code yM_partKept cM_partKept 3 none :: WS0
theorem kM_partKept : jCalV yM_partKept "TextPipelineModel" cM_partKept 3 none 1 := ⟨q938, (ws0_s (i := 61) (q := (⟨"TextPipelineModel", "partKept", "(I)V"⟩, 24)) (by decide +kernel) (by decide +kernel)), q6, q939, by decide +kernel⟩
abbrev yM_joins : MethodName := ⟨"TextPipelineModel", "joins", "(II)I"⟩
abbrev cM_joins : ByteArray := prog_10_method_25_code
abbrev wsM_joins : List Cond := .code yM_joins cM_joins 5 (some .int) :: WS0
theorem kM_joins : jCalV yM_joins "TextPipelineModel" cM_joins 5 (some .int) 2 := ⟨q794, (ws0_s (i := 34) (q := (⟨"TextPipelineModel", "joins", "(II)I"⟩, 24)) (by decide +kernel) (by decide +kernel)), q6, q795, by decide +kernel⟩
abbrev yM_starter : MethodName := ⟨"TextPipelineModel", "starter", "(I)I"⟩
abbrev cM_starter : ByteArray := prog_10_method_26_code
abbrev wsM_starter : List Cond := .code yM_starter cM_starter 3 (some .int) :: WS0
theorem kM_starter : jCalV yM_starter "TextPipelineModel" cM_starter 3 (some .int) 1 := ⟨q790, (ws0_s (i := 33) (q := (⟨"TextPipelineModel", "starter", "(I)I"⟩, 24)) (by decide +kernel) (by decide +kernel)), q6, q791, by decide +kernel⟩
abbrev yM_isFree : MethodName := ⟨"TextPipelineModel", "isFree", "(II)Z"⟩
abbrev cM_isFree : ByteArray := prog_10_method_27_code
abbrev wsM_isFree : List Cond := .code yM_isFree cM_isFree 5 (some .boolean) :: WS0
theorem kM_isFree : jCalV yM_isFree "TextPipelineModel" cM_isFree 5 (some .boolean) 2 := ⟨q814, (ws0_s (i := 39) (q := (⟨"TextPipelineModel", "isFree", "(II)Z"⟩, 24)) (by decide +kernel) (by decide +kernel)), q6, q815, by decide +kernel⟩
abbrev yM_joinForm : MethodName := ⟨"TextPipelineModel", "joinForm", "()V"⟩
abbrev cM_joinForm : ByteArray := prog_10_method_28_code
abbrev wsM_joinForm : List Cond := .code yM_joinForm cM_joinForm 5 none :: WS0
theorem kM_joinForm : jCalV yM_joinForm "TextPipelineModel" cM_joinForm 5 none 0 := ⟨q786, (ws0_s (i := 32) (q := (⟨"TextPipelineModel", "joinForm", "()V"⟩, 24)) (by decide +kernel) (by decide +kernel)), q6, q787, by decide +kernel⟩
abbrev yM_bring : MethodName := ⟨"TextPipelineModel", "bring", "(Z)I"⟩
abbrev cM_bring : ByteArray := prog_10_method_29_code
abbrev wsM_bring : List Cond := .code yM_bring cM_bring 3 (some .int) :: WS0
theorem kM_bring : jCalV yM_bring "TextPipelineModel" cM_bring 3 (some .int) 1 := ⟨q757, q758, q6, q759, by decide +kernel⟩
abbrev yM_pictureBefore : MethodName := ⟨"TextPipelineModel", "pictureBefore", "(I)Z"⟩
abbrev cM_pictureBefore : ByteArray := prog_10_method_30_code
abbrev wsM_pictureBefore : List Cond := .code yM_pictureBefore cM_pictureBefore 3 (some .boolean) :: WS0
theorem kM_pictureBefore : jCalV yM_pictureBefore "TextPipelineModel" cM_pictureBefore 3 (some .boolean) 1 := ⟨q838, (ws0_s (i := 44) (q := (⟨"TextPipelineModel", "pictureBefore", "(I)Z"⟩, 24)) (by decide +kernel) (by decide +kernel)), q6, q839, by decide +kernel⟩
abbrev yM_oddRegions : MethodName := ⟨"TextPipelineModel", "oddRegions", "(I)Z"⟩
abbrev cM_oddRegions : ByteArray := prog_10_method_31_code
abbrev wsM_oddRegions : List Cond := .code yM_oddRegions cM_oddRegions 3 (some .boolean) :: WS0
theorem kM_oddRegions : jCalV yM_oddRegions "TextPipelineModel" cM_oddRegions 3 (some .boolean) 1 := ⟨q842, (ws0_s (i := 45) (q := (⟨"TextPipelineModel", "oddRegions", "(I)Z"⟩, 24)) (by decide +kernel) (by decide +kernel)), q6, q843, by decide +kernel⟩
abbrev yM_syllabic : MethodName := ⟨"TextPipelineModel", "syllabic", "(II)Z"⟩
abbrev cM_syllabic : ByteArray := prog_10_method_32_code
abbrev wsM_syllabic : List Cond := .code yM_syllabic cM_syllabic 3 (some .boolean) :: WS0
theorem kM_syllabic : jCalV yM_syllabic "TextPipelineModel" cM_syllabic 3 (some .boolean) 2 := ⟨q830, (ws0_s (i := 42) (q := (⟨"TextPipelineModel", "syllabic", "(II)Z"⟩, 24)) (by decide +kernel) (by decide +kernel)), q6, q831, by decide +kernel⟩
abbrev yM_ends : MethodName := ⟨"TextPipelineModel", "ends", "(I)Z"⟩
abbrev cM_ends : ByteArray := prog_10_method_33_code
abbrev wsM_ends : List Cond := .code yM_ends cM_ends 5 (some .boolean) :: WS0
theorem kM_ends : jCalV yM_ends "TextPipelineModel" cM_ends 5 (some .boolean) 1 := ⟨q822, (ws0_s (i := 40) (q := (⟨"TextPipelineModel", "ends", "(I)Z"⟩, 24)) (by decide +kernel) (by decide +kernel)), q6, q823, by decide +kernel⟩
abbrev yM_cluster : MethodName := ⟨"TextPipelineModel", "cluster", "(I)Z"⟩
abbrev cM_cluster : ByteArray := prog_10_method_34_code
abbrev wsM_cluster : List Cond := .code yM_cluster cM_cluster 2 (some .boolean) :: WS0
theorem kM_cluster : jCalV yM_cluster "TextPipelineModel" cM_cluster 2 (some .boolean) 1 := ⟨q817, q818, q6, q819, by decide +kernel⟩
abbrev yM_clusters : MethodName := ⟨"TextPipelineModel", "clusters", "()I"⟩
abbrev cM_clusters : ByteArray := prog_10_method_35_code
abbrev wsM_clusters : List Cond := .code yM_clusters cM_clusters 3 (some .int) :: WS0
theorem kM_clusters : jCalV yM_clusters "TextPipelineModel" cM_clusters 3 (some .int) 0 := ⟨q845, q846, q6, q847, by decide +kernel⟩
abbrev yM_classLines : MethodName := ⟨"TextPipelineModel", "classLines", "()V"⟩
abbrev cM_classLines : ByteArray := prog_10_method_36_code
abbrev wsM_classLines : List Cond := .code yM_classLines cM_classLines 3 none :: WS0
theorem kM_classLines : jCalV yM_classLines "TextPipelineModel" cM_classLines 3 none 0 := ⟨q854, (ws0_s (i := 46) (q := (⟨"TextPipelineModel", "classLines", "()V"⟩, 24)) (by decide +kernel) (by decide +kernel)), q6, q855, by decide +kernel⟩
abbrev yM_overSpaces : MethodName := ⟨"TextPipelineModel", "overSpaces", "(I)I"⟩
abbrev cM_overSpaces : ByteArray := prog_10_method_37_code
abbrev wsM_overSpaces : List Cond := .code yM_overSpaces cM_overSpaces 3 (some .int) :: WS0
theorem kM_overSpaces : jCalV yM_overSpaces "TextPipelineModel" cM_overSpaces 3 (some .int) 1 := ⟨q858, (ws0_s (i := 47) (q := (⟨"TextPipelineModel", "overSpaces", "(I)I"⟩, 24)) (by decide +kernel) (by decide +kernel)), q6, q859, by decide +kernel⟩
abbrev yM_may : MethodName := ⟨"TextPipelineModel", "may", "(II)Z"⟩
abbrev cM_may : ByteArray := prog_10_method_38_code
abbrev wsM_may : List Cond := .code yM_may cM_may 6 (some .boolean) :: WS0
theorem kM_may : jCalV yM_may "TextPipelineModel" cM_may 6 (some .boolean) 2 := ⟨q862, (ws0_s (i := 48) (q := (⟨"TextPipelineModel", "may", "(II)Z"⟩, 24)) (by decide +kernel) (by decide +kernel)), q6, q863, by decide +kernel⟩
abbrev yM_line : MethodName := ⟨"TextPipelineModel", "line", "(I)I"⟩
abbrev cM_line : ByteArray := prog_10_method_39_code
abbrev wsM_line : List Cond := .code yM_line cM_line 6 (some .int) :: WS0
theorem kM_line : jCalV yM_line "TextPipelineModel" cM_line 6 (some .int) 1 := ⟨q849, q850, q6, q851, by decide +kernel⟩
abbrev yM_baseOf : MethodName := ⟨"TextPipelineModel", "baseOf", "(I)I"⟩
abbrev cM_baseOf : ByteArray := prog_10_method_40_code
abbrev wsM_baseOf : List Cond := .code yM_baseOf cM_baseOf 4 (some .int) :: WS0
theorem kM_baseOf : jCalV yM_baseOf "TextPipelineModel" cM_baseOf 4 (some .int) 1 := ⟨q874, (ws0_s (i := 50) (q := (⟨"TextPipelineModel", "baseOf", "(I)I"⟩, 24)) (by decide +kernel) (by decide +kernel)), q6, q875, by decide +kernel⟩
abbrev yM_nearest : MethodName := ⟨"TextPipelineModel", "nearest", "(I)I"⟩
abbrev cM_nearest : ByteArray := prog_10_method_41_code
abbrev wsM_nearest : List Cond := .code yM_nearest cM_nearest 3 (some .int) :: WS0
theorem kM_nearest : jCalV yM_nearest "TextPipelineModel" cM_nearest 3 (some .int) 1 := ⟨q886, (ws0_s (i := 53) (q := (⟨"TextPipelineModel", "nearest", "(I)I"⟩, 24)) (by decide +kernel) (by decide +kernel)), q6, q887, by decide +kernel⟩
abbrev yM_weaken : MethodName := ⟨"TextPipelineModel", "weaken", "()V"⟩
abbrev cM_weaken : ByteArray := prog_10_method_42_code
abbrev wsM_weaken : List Cond := .code yM_weaken cM_weaken 5 none :: WS0
theorem kM_weaken : jCalV yM_weaken "TextPipelineModel" cM_weaken 5 none 0 := ⟨q882, (ws0_s (i := 52) (q := (⟨"TextPipelineModel", "weaken", "()V"⟩, 24)) (by decide +kernel) (by decide +kernel)), q6, q883, by decide +kernel⟩
abbrev yM_units : MethodName := ⟨"TextPipelineModel", "units", "()V"⟩
abbrev cM_units : ByteArray := prog_10_method_43_code
abbrev wsM_units : List Cond := .code yM_units cM_units 5 none :: WS0
theorem kM_units : jCalV yM_units "TextPipelineModel" cM_units 5 none 0 := ⟨q890, (ws0_s (i := 54) (q := (⟨"TextPipelineModel", "units", "()V"⟩, 24)) (by decide +kernel) (by decide +kernel)), q6, q891, by decide +kernel⟩
abbrev yM_neutral : MethodName := ⟨"TextPipelineModel", "neutral", "(I)Z"⟩
abbrev cM_neutral : ByteArray := prog_10_method_44_code
abbrev wsM_neutral : List Cond := .code yM_neutral cM_neutral 2 (some .boolean) :: WS0
theorem kM_neutral : jCalV yM_neutral "TextPipelineModel" cM_neutral 2 (some .boolean) 1 := ⟨q898, (ws0_s (i := 56) (q := (⟨"TextPipelineModel", "neutral", "(I)Z"⟩, 24)) (by decide +kernel) (by decide +kernel)), q6, q899, by decide +kernel⟩
abbrev yM_neutrals : MethodName := ⟨"TextPipelineModel", "neutrals", "(I)V"⟩
abbrev cM_neutrals : ByteArray := prog_10_method_45_code
abbrev wsM_neutrals : List Cond := .code yM_neutrals cM_neutrals 7 none :: WS0
theorem kM_neutrals : jCalV yM_neutrals "TextPipelineModel" cM_neutrals 7 none 1 := ⟨q894, (ws0_s (i := 55) (q := (⟨"TextPipelineModel", "neutrals", "(I)V"⟩, 24)) (by decide +kernel) (by decide +kernel)), q6, q895, by decide +kernel⟩
abbrev yM_findLevels : MethodName := ⟨"TextPipelineModel", "findLevels", "(I)V"⟩
abbrev cM_findLevels : ByteArray := prog_10_method_46_code
abbrev wsM_findLevels : List Cond := .code yM_findLevels cM_findLevels 6 none :: WS0
theorem kM_findLevels : jCalV yM_findLevels "TextPipelineModel" cM_findLevels 6 none 1 := ⟨q870, (ws0_s (i := 49) (q := (⟨"TextPipelineModel", "findLevels", "(I)V"⟩, 24)) (by decide +kernel) (by decide +kernel)), q6, q871, by decide +kernel⟩
abbrev yM_level : MethodName := ⟨"TextPipelineModel", "level", "(II)I"⟩
abbrev cM_level : ByteArray := prog_10_method_47_code
abbrev wsM_level : List Cond := .code yM_level cM_level 3 (some .int) :: WS0
theorem kM_level : jCalV yM_level "TextPipelineModel" cM_level 3 (some .int) 2 := ⟨q865, q866, q6, q867, by decide +kernel⟩
abbrev yM_turnRound : MethodName := ⟨"TextPipelineModel", "turnRound", "(II)V"⟩
abbrev cM_turnRound : ByteArray := prog_10_method_48_code
abbrev wsM_turnRound : List Cond := .code yM_turnRound cM_turnRound 6 none :: WS0
theorem kM_turnRound : jCalV yM_turnRound "TextPipelineModel" cM_turnRound 6 none 2 := ⟨q906, (ws0_s (i := 57) (q := (⟨"TextPipelineModel", "turnRound", "(II)V"⟩, 24)) (by decide +kernel) (by decide +kernel)), q6, q907, by decide +kernel⟩
abbrev yM_order : MethodName := ⟨"TextPipelineModel", "order", "(II)I"⟩
abbrev cM_order : ByteArray := prog_10_method_49_code
abbrev wsM_order : List Cond := .code yM_order cM_order 6 (some .int) :: WS0
theorem kM_order : jCalV yM_order "TextPipelineModel" cM_order 6 (some .int) 2 := ⟨q901, q902, q6, q903, by decide +kernel⟩
abbrev yM_findKey : MethodName := ⟨"TextPipelineModel", "findKey", "()V"⟩
abbrev cM_findKey : ByteArray := prog_10_method_50_code
abbrev wsM_findKey : List Cond := .code yM_findKey cM_findKey 4 none :: WS0
theorem kM_findKey : jCalV yM_findKey "TextPipelineModel" cM_findKey 4 none 0 := ⟨q914, (ws0_s (i := 58) (q := (⟨"TextPipelineModel", "findKey", "()V"⟩, 24)) (by decide +kernel) (by decide +kernel)), q6, q915, by decide +kernel⟩
abbrev yM_key : MethodName := ⟨"TextPipelineModel", "key", "()I"⟩
abbrev cM_key : ByteArray := prog_10_method_51_code
abbrev wsM_key : List Cond := .code yM_key cM_key 1 (some .int) :: WS0
theorem kM_key : jCalV yM_key "TextPipelineModel" cM_key 1 (some .int) 0 := ⟨q909, q910, q6, q911, by decide +kernel⟩
abbrev yM_keyAt : MethodName := ⟨"TextPipelineModel", "keyAt", "(I)I"⟩
abbrev cM_keyAt : ByteArray := prog_10_method_52_code
abbrev wsM_keyAt : List Cond := .code yM_keyAt cM_keyAt 2 (some .int) :: WS0
theorem kM_keyAt : jCalV yM_keyAt "TextPipelineModel" cM_keyAt 2 (some .int) 1 := ⟨q921, q922, q6, q923, by decide +kernel⟩
abbrev yM_noSlot : MethodName := ⟨"TextPipelineModel", "noSlot", "(I)Z"⟩
abbrev cM_noSlot : ByteArray := prog_10_method_53_code
abbrev wsM_noSlot : List Cond := .code yM_noSlot cM_noSlot 2 (some .boolean) :: WS0
theorem kM_noSlot : jCalV yM_noSlot "TextPipelineModel" cM_noSlot 2 (some .boolean) 1 := ⟨q930, (ws0_s (i := 60) (q := (⟨"TextPipelineModel", "noSlot", "(I)Z"⟩, 24)) (by decide +kernel) (by decide +kernel)), q6, q931, by decide +kernel⟩
abbrev yM_keep : MethodName := ⟨"TextPipelineModel", "keep", "(I)V"⟩
abbrev cM_keep : ByteArray := prog_10_method_54_code
abbrev wsM_keep : List Cond := .code yM_keep cM_keep 3 none :: WS0
theorem kM_keep : jCalV yM_keep "TextPipelineModel" cM_keep 3 none 1 := ⟨q925, q926, q6, q927, by decide +kernel⟩
abbrev yM_compare : MethodName := ⟨"TextPipelineModel", "compare", "(I)I"⟩
abbrev cM_compare : ByteArray := prog_10_method_55_code
abbrev wsM_compare : List Cond := .code yM_compare cM_compare 3 (some .int) :: WS0
theorem kM_compare : jCalV yM_compare "TextPipelineModel" cM_compare 3 (some .int) 1 := ⟨q933, q934, q6, q935, by decide +kernel⟩
abbrev yM_same : MethodName := ⟨"TextPipelineModel", "same", "(I)Z"⟩
abbrev cM_same : ByteArray := prog_10_method_56_code
abbrev wsM_same : List Cond := .code yM_same cM_same 4 (some .boolean) :: WS0
theorem kM_same : jCalV yM_same "TextPipelineModel" cM_same 4 (some .boolean) 1 := ⟨q941, q942, q6, q943, by decide +kernel⟩
end
section
theorem dM_init_0 : decode cM_init 0 = .ok (.aload_n 0, 1) := by decide +kernel
theorem dM_init_1 : decode cM_init 1 = .ok (.invokespecial 1, 3) := by decide +kernel
theorem dM_init_4 : decode cM_init 4 = .ok (.aload_n 0, 1) := by decide +kernel
theorem dM_init_5 : decode cM_init 5 = .ok (.sipush 280, 3) := by decide +kernel
theorem dM_init_8 : decode cM_init 8 = .ok (.newarray .int, 2) := by decide +kernel
theorem dM_init_10 : decode cM_init 10 = .ok (.putfield 7, 3) := by decide +kernel
theorem dM_init_13 : decode cM_init 13 = .ok (.aload_n 0, 1) := by decide +kernel
theorem dM_init_14 : decode cM_init 14 = .ok (.bipush 40, 2) := by decide +kernel
theorem dM_init_16 : decode cM_init 16 = .ok (.newarray .int, 2) := by decide +kernel
theorem dM_init_18 : decode cM_init 18 = .ok (.putfield 13, 3) := by decide +kernel
theorem dM_init_21 : decode cM_init 21 = .ok (.aload_n 0, 1) := by decide +kernel
theorem dM_init_22 : decode cM_init 22 = .ok (.bipush 40, 2) := by decide +kernel
theorem dM_init_24 : decode cM_init 24 = .ok (.newarray .int, 2) := by decide +kernel
theorem dM_init_26 : decode cM_init 26 = .ok (.putfield 16, 3) := by decide +kernel
theorem dM_init_29 : decode cM_init 29 = .ok (.aload_n 0, 1) := by decide +kernel
theorem dM_init_30 : decode cM_init 30 = .ok (.bipush 40, 2) := by decide +kernel
theorem dM_init_32 : decode cM_init 32 = .ok (.newarray .boolean, 2) := by decide +kernel
theorem dM_init_34 : decode cM_init 34 = .ok (.putfield 19, 3) := by decide +kernel
theorem dM_init_37 : decode cM_init 37 = .ok (.aload_n 0, 1) := by decide +kernel
theorem dM_init_38 : decode cM_init 38 = .ok (.bipush 40, 2) := by decide +kernel
theorem dM_init_40 : decode cM_init 40 = .ok (.newarray .int, 2) := by decide +kernel
theorem dM_init_42 : decode cM_init 42 = .ok (.putfield 23, 3) := by decide +kernel
theorem dM_init_45 : decode cM_init 45 = .ok (.aload_n 0, 1) := by decide +kernel
theorem dM_init_46 : decode cM_init 46 = .ok (.bipush 40, 2) := by decide +kernel
theorem dM_init_48 : decode cM_init 48 = .ok (.newarray .int, 2) := by decide +kernel
theorem dM_init_50 : decode cM_init 50 = .ok (.putfield 26, 3) := by decide +kernel
theorem dM_init_53 : decode cM_init 53 = .ok (.aload_n 0, 1) := by decide +kernel
theorem dM_init_54 : decode cM_init 54 = .ok (.iconst 4, 1) := by decide +kernel
theorem dM_init_55 : decode cM_init 55 = .ok (.newarray .int, 2) := by decide +kernel
theorem dM_init_57 : decode cM_init 57 = .ok (.putfield 29, 3) := by decide +kernel
theorem dM_init_60 : decode cM_init 60 = .ok (.aload_n 0, 1) := by decide +kernel
theorem dM_init_61 : decode cM_init 61 = .ok (.sipush 160, 3) := by decide +kernel
theorem dM_init_64 : decode cM_init 64 = .ok (.newarray .int, 2) := by decide +kernel
theorem dM_init_66 : decode cM_init 66 = .ok (.putfield 32, 3) := by decide +kernel
theorem dM_init_69 : decode cM_init 69 = .ok (.aload_n 0, 1) := by decide +kernel
theorem dM_init_70 : decode cM_init 70 = .ok (.sipush 170, 3) := by decide +kernel
theorem dM_init_73 : decode cM_init 73 = .ok (.newarray .int, 2) := by decide +kernel
theorem dM_init_75 : decode cM_init 75 = .ok (.putfield 35, 3) := by decide +kernel
theorem dM_init_78 : decode cM_init 78 = .ok (.aload_n 0, 1) := by decide +kernel
theorem dM_init_79 : decode cM_init 79 = .ok (.sipush 170, 3) := by decide +kernel
theorem dM_init_82 : decode cM_init 82 = .ok (.newarray .int, 2) := by decide +kernel
theorem dM_init_84 : decode cM_init 84 = .ok (.putfield 38, 3) := by decide +kernel
theorem dM_init_87 : decode cM_init 87 = .ok (.aload_n 0, 1) := by decide +kernel
theorem dM_init_88 : decode cM_init 88 = .ok (.bipush 12, 2) := by decide +kernel
theorem dM_init_90 : decode cM_init 90 = .ok (.newarray .int, 2) := by decide +kernel
theorem dM_init_92 : decode cM_init 92 = .ok (.putfield 41, 3) := by decide +kernel
theorem dM_init_95 : decode cM_init 95 = .ok (.aload_n 0, 1) := by decide +kernel
theorem dM_init_96 : decode cM_init 96 = .ok (.sipush 520, 3) := by decide +kernel
theorem dM_init_99 : decode cM_init 99 = .ok (.newarray .int, 2) := by decide +kernel
theorem dM_init_101 : decode cM_init 101 = .ok (.putfield 44, 3) := by decide +kernel
theorem dM_init_104 : decode cM_init 104 = .ok (.aload_n 0, 1) := by decide +kernel
theorem dM_init_105 : decode cM_init 105 = .ok (.sipush 520, 3) := by decide +kernel
theorem dM_init_108 : decode cM_init 108 = .ok (.newarray .int, 2) := by decide +kernel
theorem dM_init_110 : decode cM_init 110 = .ok (.putfield 47, 3) := by decide +kernel
theorem dM_init_113 : decode cM_init 113 = .ok (.aload_n 0, 1) := by decide +kernel
theorem dM_init_114 : decode cM_init 114 = .ok (.bipush 40, 2) := by decide +kernel
theorem dM_init_116 : decode cM_init 116 = .ok (.newarray .int, 2) := by decide +kernel
theorem dM_init_118 : decode cM_init 118 = .ok (.putfield 50, 3) := by decide +kernel
theorem dM_init_121 : decode cM_init 121 = .ok (.aload_n 0, 1) := by decide +kernel
theorem dM_init_122 : decode cM_init 122 = .ok (.bipush 40, 2) := by decide +kernel
theorem dM_init_124 : decode cM_init 124 = .ok (.newarray .boolean, 2) := by decide +kernel
theorem dM_init_126 : decode cM_init 126 = .ok (.putfield 53, 3) := by decide +kernel
theorem dM_init_129 : decode cM_init 129 = .ok (.aload_n 0, 1) := by decide +kernel
theorem dM_init_130 : decode cM_init 130 = .ok (.bipush 42, 2) := by decide +kernel
theorem dM_init_132 : decode cM_init 132 = .ok (.newarray .int, 2) := by decide +kernel
theorem dM_init_134 : decode cM_init 134 = .ok (.putfield 56, 3) := by decide +kernel
theorem dM_init_137 : decode cM_init 137 = .ok (.aload_n 0, 1) := by decide +kernel
theorem dM_init_138 : decode cM_init 138 = .ok (.bipush 40, 2) := by decide +kernel
theorem dM_init_140 : decode cM_init 140 = .ok (.newarray .int, 2) := by decide +kernel
theorem dM_init_142 : decode cM_init 142 = .ok (.putfield 59, 3) := by decide +kernel
theorem dM_init_145 : decode cM_init 145 = .ok (.aload_n 0, 1) := by decide +kernel
theorem dM_init_146 : decode cM_init 146 = .ok (.bipush 40, 2) := by decide +kernel
theorem dM_init_148 : decode cM_init 148 = .ok (.newarray .int, 2) := by decide +kernel
theorem dM_init_150 : decode cM_init 150 = .ok (.putfield 62, 3) := by decide +kernel
theorem dM_init_153 : decode cM_init 153 = .ok (.iconst 0, 1) := by decide +kernel
theorem dM_init_154 : decode cM_init 154 = .ok (.istore_n 1, 1) := by decide +kernel
theorem dM_init_155 : decode cM_init 155 = .ok (.iload_n 1, 1) := by decide +kernel
theorem dM_init_156 : decode cM_init 156 = .ok (.bipush 40, 2) := by decide +kernel
theorem dM_init_158 : decode cM_init 158 = .ok (.if_icmp .ge 23, 3) := by decide +kernel
theorem dM_init_161 : decode cM_init 161 = .ok (.aload_n 0, 1) := by decide +kernel
theorem dM_init_162 : decode cM_init 162 = .ok (.getfield 13, 3) := by decide +kernel
theorem dM_init_165 : decode cM_init 165 = .ok (.iload_n 1, 1) := by decide +kernel
theorem dM_init_166 : decode cM_init 166 = .ok (.iconst (-1), 1) := by decide +kernel
theorem dM_init_167 : decode cM_init 167 = .ok (.iastore, 1) := by decide +kernel
theorem dM_init_168 : decode cM_init 168 = .ok (.aload_n 0, 1) := by decide +kernel
theorem dM_init_169 : decode cM_init 169 = .ok (.getfield 16, 3) := by decide +kernel
theorem dM_init_172 : decode cM_init 172 = .ok (.iload_n 1, 1) := by decide +kernel
theorem dM_init_173 : decode cM_init 173 = .ok (.iconst (-1), 1) := by decide +kernel
theorem dM_init_174 : decode cM_init 174 = .ok (.iastore, 1) := by decide +kernel
theorem dM_init_175 : decode cM_init 175 = .ok (.iinc 1 1, 3) := by decide +kernel
theorem dM_init_178 : decode cM_init 178 = .ok (.goto (-23), 3) := by decide +kernel
theorem dM_init_181 : decode cM_init 181 = .ok (.return_, 1) := by decide +kernel
theorem dM_thrown_0 : decode cM_thrown 0 = .ok (.aload_n 0, 1) := by decide +kernel
theorem dM_thrown_1 : decode cM_thrown 1 = .ok (.getfield 65, 3) := by decide +kernel
theorem dM_thrown_4 : decode cM_thrown 4 = .ok (.ireturn, 1) := by decide +kernel
theorem dM_set_0 : decode cM_set 0 = .ok (.iload_n 2, 1) := by decide +kernel
theorem dM_set_1 : decode cM_set 1 = .ok (.ifCond .ne 9, 3) := by decide +kernel
theorem dM_set_4 : decode cM_set 4 = .ok (.sipush 254, 3) := by decide +kernel
theorem dM_set_7 : decode cM_set 7 = .ok (.goto 36, 3) := by decide +kernel
theorem dM_set_10 : decode cM_set 10 = .ok (.iload_n 2, 1) := by decide +kernel
theorem dM_set_11 : decode cM_set 11 = .ok (.iconst 1, 1) := by decide +kernel
theorem dM_set_12 : decode cM_set 12 = .ok (.if_icmp .ne 8, 3) := by decide +kernel
theorem dM_set_15 : decode cM_set 15 = .ok (.bipush 9, 2) := by decide +kernel
theorem dM_set_17 : decode cM_set 17 = .ok (.goto 26, 3) := by decide +kernel
theorem dM_set_20 : decode cM_set 20 = .ok (.iload_n 2, 1) := by decide +kernel
theorem dM_set_21 : decode cM_set 21 = .ok (.iconst 2, 1) := by decide +kernel
theorem dM_set_22 : decode cM_set 22 = .ok (.if_icmp .ne 8, 3) := by decide +kernel
theorem dM_set_25 : decode cM_set 25 = .ok (.bipush 12, 2) := by decide +kernel
theorem dM_set_27 : decode cM_set 27 = .ok (.goto 16, 3) := by decide +kernel
theorem dM_set_30 : decode cM_set 30 = .ok (.iload_n 2, 1) := by decide +kernel
theorem dM_set_31 : decode cM_set 31 = .ok (.iconst 3, 1) := by decide +kernel
theorem dM_set_32 : decode cM_set 32 = .ok (.if_icmp .ne 8, 3) := by decide +kernel
theorem dM_set_35 : decode cM_set 35 = .ok (.bipush 11, 2) := by decide +kernel
theorem dM_set_37 : decode cM_set 37 = .ok (.goto 6, 3) := by decide +kernel
theorem dM_set_40 : decode cM_set 40 = .ok (.sipush 999, 3) := by decide +kernel
theorem dM_set_43 : decode cM_set 43 = .ok (.istore 4, 2) := by decide +kernel
theorem dM_set_45 : decode cM_set 45 = .ok (.aload_n 0, 1) := by decide +kernel
theorem dM_set_46 : decode cM_set 46 = .ok (.iload_n 1, 1) := by decide +kernel
theorem dM_set_47 : decode cM_set 47 = .ok (.ifCond .lt 29, 3) := by decide +kernel
theorem dM_set_50 : decode cM_set 50 = .ok (.iload_n 1, 1) := by decide +kernel
theorem dM_set_51 : decode cM_set 51 = .ok (.bipush 39, 2) := by decide +kernel
theorem dM_set_53 : decode cM_set 53 = .ok (.if_icmp .gt 23, 3) := by decide +kernel
theorem dM_set_56 : decode cM_set 56 = .ok (.iload_n 2, 1) := by decide +kernel
theorem dM_set_57 : decode cM_set 57 = .ok (.ifCond .lt 19, 3) := by decide +kernel
theorem dM_set_60 : decode cM_set 60 = .ok (.iload_n 2, 1) := by decide +kernel
theorem dM_set_61 : decode cM_set 61 = .ok (.bipush 6, 2) := by decide +kernel
theorem dM_set_63 : decode cM_set 63 = .ok (.if_icmp .gt 13, 3) := by decide +kernel
theorem dM_set_66 : decode cM_set 66 = .ok (.iload_n 3, 1) := by decide +kernel
theorem dM_set_67 : decode cM_set 67 = .ok (.ifCond .lt 9, 3) := by decide +kernel
theorem dM_set_70 : decode cM_set 70 = .ok (.iload_n 3, 1) := by decide +kernel
theorem dM_set_71 : decode cM_set 71 = .ok (.iload 4, 2) := by decide +kernel
theorem dM_set_73 : decode cM_set 73 = .ok (.if_icmp .le 7, 3) := by decide +kernel
theorem dM_set_76 : decode cM_set 76 = .ok (.iconst 1, 1) := by decide +kernel
theorem dM_set_77 : decode cM_set 77 = .ok (.goto 4, 3) := by decide +kernel
theorem dM_set_80 : decode cM_set 80 = .ok (.iconst 0, 1) := by decide +kernel
theorem dM_set_81 : decode cM_set 81 = .ok (.putfield 65, 3) := by decide +kernel
theorem dM_set_84 : decode cM_set 84 = .ok (.aload_n 0, 1) := by decide +kernel
theorem dM_set_85 : decode cM_set 85 = .ok (.getfield 65, 3) := by decide +kernel
theorem dM_set_88 : decode cM_set 88 = .ok (.ifCond .ne 15, 3) := by decide +kernel
theorem dM_set_91 : decode cM_set 91 = .ok (.aload_n 0, 1) := by decide +kernel
theorem dM_set_92 : decode cM_set 92 = .ok (.getfield 7, 3) := by decide +kernel
theorem dM_set_95 : decode cM_set 95 = .ok (.bipush 40, 2) := by decide +kernel
theorem dM_set_97 : decode cM_set 97 = .ok (.iload_n 2, 1) := by decide +kernel
theorem dM_set_98 : decode cM_set 98 = .ok (.imul, 1) := by decide +kernel
theorem dM_set_99 : decode cM_set 99 = .ok (.iload_n 1, 1) := by decide +kernel
theorem dM_set_100 : decode cM_set 100 = .ok (.iadd, 1) := by decide +kernel
theorem dM_set_101 : decode cM_set 101 = .ok (.iload_n 3, 1) := by decide +kernel
theorem dM_set_102 : decode cM_set 102 = .ok (.iastore, 1) := by decide +kernel
theorem dM_set_103 : decode cM_set 103 = .ok (.return_, 1) := by decide +kernel
theorem dM_isShort_0 : decode cM_isShort 0 = .ok (.iconst 1, 1) := by decide +kernel
theorem dM_isShort_1 : decode cM_isShort 1 = .ok (.istore_n 1, 1) := by decide +kernel
theorem dM_isShort_2 : decode cM_isShort 2 = .ok (.iconst 0, 1) := by decide +kernel
theorem dM_isShort_3 : decode cM_isShort 3 = .ok (.istore_n 2, 1) := by decide +kernel
theorem dM_isShort_4 : decode cM_isShort 4 = .ok (.iload_n 2, 1) := by decide +kernel
theorem dM_isShort_5 : decode cM_isShort 5 = .ok (.bipush 40, 2) := by decide +kernel
theorem dM_isShort_7 : decode cM_isShort 7 = .ok (.if_icmp .ge 110, 3) := by decide +kernel
theorem dM_isShort_10 : decode cM_isShort 10 = .ok (.aload_n 0, 1) := by decide +kernel
theorem dM_isShort_11 : decode cM_isShort 11 = .ok (.getfield 23, 3) := by decide +kernel
theorem dM_isShort_14 : decode cM_isShort 14 = .ok (.iload_n 2, 1) := by decide +kernel
theorem dM_isShort_15 : decode cM_isShort 15 = .ok (.aload_n 0, 1) := by decide +kernel
theorem dM_isShort_16 : decode cM_isShort 16 = .ok (.getfield 13, 3) := by decide +kernel
theorem dM_isShort_19 : decode cM_isShort 19 = .ok (.iload_n 2, 1) := by decide +kernel
theorem dM_isShort_20 : decode cM_isShort 20 = .ok (.iaload, 1) := by decide +kernel
theorem dM_isShort_21 : decode cM_isShort 21 = .ok (.ifCond .ge 7, 3) := by decide +kernel
theorem dM_isShort_24 : decode cM_isShort 24 = .ok (.iconst 1, 1) := by decide +kernel
theorem dM_isShort_25 : decode cM_isShort 25 = .ok (.goto 39, 3) := by decide +kernel
theorem dM_isShort_28 : decode cM_isShort 28 = .ok (.aload_n 0, 1) := by decide +kernel
theorem dM_isShort_29 : decode cM_isShort 29 = .ok (.getfield 23, 3) := by decide +kernel
theorem dM_isShort_32 : decode cM_isShort 32 = .ok (.aload_n 0, 1) := by decide +kernel
theorem dM_isShort_33 : decode cM_isShort 33 = .ok (.getfield 13, 3) := by decide +kernel
theorem dM_isShort_36 : decode cM_isShort 36 = .ok (.iload_n 2, 1) := by decide +kernel
theorem dM_isShort_37 : decode cM_isShort 37 = .ok (.iaload, 1) := by decide +kernel
theorem dM_isShort_38 : decode cM_isShort 38 = .ok (.iaload, 1) := by decide +kernel
theorem dM_isShort_39 : decode cM_isShort 39 = .ok (.aload_n 0, 1) := by decide +kernel
theorem dM_isShort_40 : decode cM_isShort 40 = .ok (.getfield 16, 3) := by decide +kernel
theorem dM_isShort_43 : decode cM_isShort 43 = .ok (.iload_n 2, 1) := by decide +kernel
theorem dM_isShort_44 : decode cM_isShort 44 = .ok (.iaload, 1) := by decide +kernel
theorem dM_isShort_45 : decode cM_isShort 45 = .ok (.ifCond .ge 7, 3) := by decide +kernel
theorem dM_isShort_48 : decode cM_isShort 48 = .ok (.iconst 0, 1) := by decide +kernel
theorem dM_isShort_49 : decode cM_isShort 49 = .ok (.goto 14, 3) := by decide +kernel
theorem dM_isShort_52 : decode cM_isShort 52 = .ok (.aload_n 0, 1) := by decide +kernel
theorem dM_isShort_53 : decode cM_isShort 53 = .ok (.getfield 23, 3) := by decide +kernel
theorem dM_isShort_56 : decode cM_isShort 56 = .ok (.aload_n 0, 1) := by decide +kernel
theorem dM_isShort_57 : decode cM_isShort 57 = .ok (.getfield 16, 3) := by decide +kernel
theorem dM_isShort_60 : decode cM_isShort 60 = .ok (.iload_n 2, 1) := by decide +kernel
theorem dM_isShort_61 : decode cM_isShort 61 = .ok (.iaload, 1) := by decide +kernel
theorem dM_isShort_62 : decode cM_isShort 62 = .ok (.iaload, 1) := by decide +kernel
theorem dM_isShort_63 : decode cM_isShort 63 = .ok (.iadd, 1) := by decide +kernel
theorem dM_isShort_64 : decode cM_isShort 64 = .ok (.iastore, 1) := by decide +kernel
theorem dM_isShort_65 : decode cM_isShort 65 = .ok (.aload_n 0, 1) := by decide +kernel
theorem dM_isShort_66 : decode cM_isShort 66 = .ok (.getfield 23, 3) := by decide +kernel
theorem dM_isShort_69 : decode cM_isShort 69 = .ok (.iload_n 2, 1) := by decide +kernel
theorem dM_isShort_70 : decode cM_isShort 70 = .ok (.aload_n 0, 1) := by decide +kernel
theorem dM_isShort_71 : decode cM_isShort 71 = .ok (.getfield 23, 3) := by decide +kernel
theorem dM_isShort_74 : decode cM_isShort 74 = .ok (.iload_n 2, 1) := by decide +kernel
theorem dM_isShort_75 : decode cM_isShort 75 = .ok (.iaload, 1) := by decide +kernel
theorem dM_isShort_76 : decode cM_isShort 76 = .ok (.iconst 5, 1) := by decide +kernel
theorem dM_isShort_77 : decode cM_isShort 77 = .ok (.if_icmp .le 7, 3) := by decide +kernel
theorem dM_isShort_80 : decode cM_isShort 80 = .ok (.iconst 5, 1) := by decide +kernel
theorem dM_isShort_81 : decode cM_isShort 81 = .ok (.goto 9, 3) := by decide +kernel
theorem dM_isShort_84 : decode cM_isShort 84 = .ok (.aload_n 0, 1) := by decide +kernel
theorem dM_isShort_85 : decode cM_isShort 85 = .ok (.getfield 23, 3) := by decide +kernel
theorem dM_isShort_88 : decode cM_isShort 88 = .ok (.iload_n 2, 1) := by decide +kernel
theorem dM_isShort_89 : decode cM_isShort 89 = .ok (.iaload, 1) := by decide +kernel
theorem dM_isShort_90 : decode cM_isShort 90 = .ok (.iastore, 1) := by decide +kernel
theorem dM_isShort_91 : decode cM_isShort 91 = .ok (.iload_n 1, 1) := by decide +kernel
theorem dM_isShort_92 : decode cM_isShort 92 = .ok (.ifCond .eq 17, 3) := by decide +kernel
theorem dM_isShort_95 : decode cM_isShort 95 = .ok (.aload_n 0, 1) := by decide +kernel
theorem dM_isShort_96 : decode cM_isShort 96 = .ok (.getfield 23, 3) := by decide +kernel
theorem dM_isShort_99 : decode cM_isShort 99 = .ok (.iload_n 2, 1) := by decide +kernel
theorem dM_isShort_100 : decode cM_isShort 100 = .ok (.iaload, 1) := by decide +kernel
theorem dM_isShort_101 : decode cM_isShort 101 = .ok (.iconst 4, 1) := by decide +kernel
theorem dM_isShort_102 : decode cM_isShort 102 = .ok (.if_icmp .gt 7, 3) := by decide +kernel
theorem dM_isShort_105 : decode cM_isShort 105 = .ok (.iconst 1, 1) := by decide +kernel
theorem dM_isShort_106 : decode cM_isShort 106 = .ok (.goto 4, 3) := by decide +kernel
theorem dM_isShort_109 : decode cM_isShort 109 = .ok (.iconst 0, 1) := by decide +kernel
theorem dM_isShort_110 : decode cM_isShort 110 = .ok (.istore_n 1, 1) := by decide +kernel
theorem dM_isShort_111 : decode cM_isShort 111 = .ok (.iinc 2 1, 3) := by decide +kernel
theorem dM_isShort_114 : decode cM_isShort 114 = .ok (.goto (-110), 3) := by decide +kernel
theorem dM_isShort_117 : decode cM_isShort 117 = .ok (.iload_n 1, 1) := by decide +kernel
theorem dM_isShort_118 : decode cM_isShort 118 = .ok (.ireturn, 1) := by decide +kernel
theorem dM_part_0 : decode cM_part 0 = .ok (.aload_n 0, 1) := by decide +kernel
theorem dM_part_1 : decode cM_part 1 = .ok (.iload_n 1, 1) := by decide +kernel
theorem dM_part_2 : decode cM_part 2 = .ok (.ifCond .lt 37, 3) := by decide +kernel
theorem dM_part_5 : decode cM_part 5 = .ok (.iload_n 1, 1) := by decide +kernel
theorem dM_part_6 : decode cM_part 6 = .ok (.bipush 39, 2) := by decide +kernel
theorem dM_part_8 : decode cM_part 8 = .ok (.if_icmp .gt 31, 3) := by decide +kernel
theorem dM_part_11 : decode cM_part 11 = .ok (.iload_n 2, 1) := by decide +kernel
theorem dM_part_12 : decode cM_part 12 = .ok (.iconst (-1), 1) := by decide +kernel
theorem dM_part_13 : decode cM_part 13 = .ok (.if_icmp .lt 26, 3) := by decide +kernel
theorem dM_part_16 : decode cM_part 16 = .ok (.iload_n 2, 1) := by decide +kernel
theorem dM_part_17 : decode cM_part 17 = .ok (.iload_n 1, 1) := by decide +kernel
theorem dM_part_18 : decode cM_part 18 = .ok (.if_icmp .ge 21, 3) := by decide +kernel
theorem dM_part_21 : decode cM_part 21 = .ok (.iload_n 3, 1) := by decide +kernel
theorem dM_part_22 : decode cM_part 22 = .ok (.iconst (-1), 1) := by decide +kernel
theorem dM_part_23 : decode cM_part 23 = .ok (.if_icmp .lt 16, 3) := by decide +kernel
theorem dM_part_26 : decode cM_part 26 = .ok (.iload_n 3, 1) := by decide +kernel
theorem dM_part_27 : decode cM_part 27 = .ok (.iload_n 1, 1) := by decide +kernel
theorem dM_part_28 : decode cM_part 28 = .ok (.if_icmp .ge 11, 3) := by decide +kernel
theorem dM_part_31 : decode cM_part 31 = .ok (.iload_n 2, 1) := by decide +kernel
theorem dM_part_32 : decode cM_part 32 = .ok (.ifCond .ge 11, 3) := by decide +kernel
theorem dM_part_35 : decode cM_part 35 = .ok (.iload_n 3, 1) := by decide +kernel
theorem dM_part_36 : decode cM_part 36 = .ok (.ifCond .lt 7, 3) := by decide +kernel
theorem dM_part_39 : decode cM_part 39 = .ok (.iconst 1, 1) := by decide +kernel
theorem dM_part_40 : decode cM_part 40 = .ok (.goto 4, 3) := by decide +kernel
theorem dM_part_43 : decode cM_part 43 = .ok (.iconst 0, 1) := by decide +kernel
theorem dM_part_44 : decode cM_part 44 = .ok (.putfield 65, 3) := by decide +kernel
theorem dM_part_47 : decode cM_part 47 = .ok (.aload_n 0, 1) := by decide +kernel
theorem dM_part_48 : decode cM_part 48 = .ok (.getfield 65, 3) := by decide +kernel
theorem dM_part_51 : decode cM_part 51 = .ok (.ifCond .eq 4, 3) := by decide +kernel
theorem dM_part_54 : decode cM_part 54 = .ok (.return_, 1) := by decide +kernel
theorem dM_part_55 : decode cM_part 55 = .ok (.aload_n 0, 1) := by decide +kernel
theorem dM_part_56 : decode cM_part 56 = .ok (.getfield 13, 3) := by decide +kernel
theorem dM_part_59 : decode cM_part 59 = .ok (.iload_n 1, 1) := by decide +kernel
theorem dM_part_60 : decode cM_part 60 = .ok (.iaload, 1) := by decide +kernel
theorem dM_part_61 : decode cM_part 61 = .ok (.istore 5, 2) := by decide +kernel
theorem dM_part_63 : decode cM_part 63 = .ok (.aload_n 0, 1) := by decide +kernel
theorem dM_part_64 : decode cM_part 64 = .ok (.getfield 16, 3) := by decide +kernel
theorem dM_part_67 : decode cM_part 67 = .ok (.iload_n 1, 1) := by decide +kernel
theorem dM_part_68 : decode cM_part 68 = .ok (.iaload, 1) := by decide +kernel
theorem dM_part_69 : decode cM_part 69 = .ok (.istore 6, 2) := by decide +kernel
theorem dM_part_71 : decode cM_part 71 = .ok (.aload_n 0, 1) := by decide +kernel
theorem dM_part_72 : decode cM_part 72 = .ok (.getfield 13, 3) := by decide +kernel
theorem dM_part_75 : decode cM_part 75 = .ok (.iload_n 1, 1) := by decide +kernel
theorem dM_part_76 : decode cM_part 76 = .ok (.iload_n 2, 1) := by decide +kernel
theorem dM_part_77 : decode cM_part 77 = .ok (.iastore, 1) := by decide +kernel
theorem dM_part_78 : decode cM_part 78 = .ok (.aload_n 0, 1) := by decide +kernel
theorem dM_part_79 : decode cM_part 79 = .ok (.getfield 16, 3) := by decide +kernel
theorem dM_part_82 : decode cM_part 82 = .ok (.iload_n 1, 1) := by decide +kernel
theorem dM_part_83 : decode cM_part 83 = .ok (.iload_n 3, 1) := by decide +kernel
theorem dM_part_84 : decode cM_part 84 = .ok (.iastore, 1) := by decide +kernel
theorem dM_part_85 : decode cM_part 85 = .ok (.aload_n 0, 1) := by decide +kernel
theorem dM_part_86 : decode cM_part 86 = .ok (.invokevirtual 69, 3) := by decide +kernel
theorem dM_part_89 : decode cM_part 89 = .ok (.ifCond .ne 25, 3) := by decide +kernel
theorem dM_part_92 : decode cM_part 92 = .ok (.aload_n 0, 1) := by decide +kernel
theorem dM_part_93 : decode cM_part 93 = .ok (.getfield 13, 3) := by decide +kernel
theorem dM_part_96 : decode cM_part 96 = .ok (.iload_n 1, 1) := by decide +kernel
theorem dM_part_97 : decode cM_part 97 = .ok (.iload 5, 2) := by decide +kernel
theorem dM_part_99 : decode cM_part 99 = .ok (.iastore, 1) := by decide +kernel
theorem dM_part_100 : decode cM_part 100 = .ok (.aload_n 0, 1) := by decide +kernel
theorem dM_part_101 : decode cM_part 101 = .ok (.getfield 16, 3) := by decide +kernel
theorem dM_part_104 : decode cM_part 104 = .ok (.iload_n 1, 1) := by decide +kernel
theorem dM_part_105 : decode cM_part 105 = .ok (.iload 6, 2) := by decide +kernel
theorem dM_part_107 : decode cM_part 107 = .ok (.iastore, 1) := by decide +kernel
theorem dM_part_108 : decode cM_part 108 = .ok (.aload_n 0, 1) := by decide +kernel
theorem dM_part_109 : decode cM_part 109 = .ok (.iconst 2, 1) := by decide +kernel
theorem dM_part_110 : decode cM_part 110 = .ok (.putfield 65, 3) := by decide +kernel
theorem dM_part_113 : decode cM_part 113 = .ok (.return_, 1) := by decide +kernel
theorem dM_part_114 : decode cM_part 114 = .ok (.aload_n 0, 1) := by decide +kernel
theorem dM_part_115 : decode cM_part 115 = .ok (.getfield 19, 3) := by decide +kernel
theorem dM_part_118 : decode cM_part 118 = .ok (.iload_n 1, 1) := by decide +kernel
theorem dM_part_119 : decode cM_part 119 = .ok (.iload 4, 2) := by decide +kernel
theorem dM_part_121 : decode cM_part 121 = .ok (.bastore, 1) := by decide +kernel
theorem dM_part_122 : decode cM_part 122 = .ok (.return_, 1) := by decide +kernel
theorem dM_property_0 : decode cM_property 0 = .ok (.aload_n 0, 1) := by decide +kernel
theorem dM_property_1 : decode cM_property 1 = .ok (.getfield 7, 3) := by decide +kernel
theorem dM_property_4 : decode cM_property 4 = .ok (.bipush 40, 2) := by decide +kernel
theorem dM_property_6 : decode cM_property 6 = .ok (.iload_n 2, 1) := by decide +kernel
theorem dM_property_7 : decode cM_property 7 = .ok (.imul, 1) := by decide +kernel
theorem dM_property_8 : decode cM_property 8 = .ok (.iload_n 1, 1) := by decide +kernel
theorem dM_property_9 : decode cM_property 9 = .ok (.iadd, 1) := by decide +kernel
theorem dM_property_10 : decode cM_property 10 = .ok (.iaload, 1) := by decide +kernel
theorem dM_property_11 : decode cM_property 11 = .ok (.ireturn, 1) := by decide +kernel
theorem dM_rank_0 : decode cM_rank 0 = .ok (.iload_n 1, 1) := by decide +kernel
theorem dM_rank_1 : decode cM_rank 1 = .ok (.bipush 40, 2) := by decide +kernel
theorem dM_rank_3 : decode cM_rank 3 = .ok (.if_icmp .ge 12, 3) := by decide +kernel
theorem dM_rank_6 : decode cM_rank 6 = .ok (.aload_n 0, 1) := by decide +kernel
theorem dM_rank_7 : decode cM_rank 7 = .ok (.iload_n 1, 1) := by decide +kernel
theorem dM_rank_8 : decode cM_rank 8 = .ok (.iconst 0, 1) := by decide +kernel
theorem dM_rank_9 : decode cM_rank 9 = .ok (.invokevirtual 73, 3) := by decide +kernel
theorem dM_rank_12 : decode cM_rank 12 = .ok (.goto 4, 3) := by decide +kernel
theorem dM_rank_15 : decode cM_rank 15 = .ok (.iconst 0, 1) := by decide +kernel
theorem dM_rank_16 : decode cM_rank 16 = .ok (.ireturn, 1) := by decide +kernel
theorem dM_weight_0 : decode cM_weight 0 = .ok (.iload_n 1, 1) := by decide +kernel
theorem dM_weight_1 : decode cM_weight 1 = .ok (.bipush 40, 2) := by decide +kernel
theorem dM_weight_3 : decode cM_weight 3 = .ok (.if_icmp .ge 14, 3) := by decide +kernel
theorem dM_weight_6 : decode cM_weight 6 = .ok (.aload_n 0, 1) := by decide +kernel
theorem dM_weight_7 : decode cM_weight 7 = .ok (.iload_n 1, 1) := by decide +kernel
theorem dM_weight_8 : decode cM_weight 8 = .ok (.iconst 4, 1) := by decide +kernel
theorem dM_weight_9 : decode cM_weight 9 = .ok (.iload_n 2, 1) := by decide +kernel
theorem dM_weight_10 : decode cM_weight 10 = .ok (.iadd, 1) := by decide +kernel
theorem dM_weight_11 : decode cM_weight 11 = .ok (.invokevirtual 73, 3) := by decide +kernel
theorem dM_weight_14 : decode cM_weight 14 = .ok (.goto 16, 3) := by decide +kernel
theorem dM_weight_17 : decode cM_weight 17 = .ok (.iload_n 2, 1) := by decide +kernel
theorem dM_weight_18 : decode cM_weight 18 = .ok (.ifCond .ne 11, 3) := by decide +kernel
theorem dM_weight_21 : decode cM_weight 21 = .ok (.sipush 1000, 3) := by decide +kernel
theorem dM_weight_24 : decode cM_weight 24 = .ok (.iload_n 1, 1) := by decide +kernel
theorem dM_weight_25 : decode cM_weight 25 = .ok (.iadd, 1) := by decide +kernel
theorem dM_weight_26 : decode cM_weight 26 = .ok (.goto 4, 3) := by decide +kernel
theorem dM_weight_29 : decode cM_weight 29 = .ok (.iconst 1, 1) := by decide +kernel
theorem dM_weight_30 : decode cM_weight 30 = .ok (.ireturn, 1) := by decide +kernel
theorem dM_clusterOf_0 : decode cM_clusterOf 0 = .ok (.iload_n 1, 1) := by decide +kernel
theorem dM_clusterOf_1 : decode cM_clusterOf 1 = .ok (.bipush 40, 2) := by decide +kernel
theorem dM_clusterOf_3 : decode cM_clusterOf 3 = .ok (.if_icmp .ge 12, 3) := by decide +kernel
theorem dM_clusterOf_6 : decode cM_clusterOf 6 = .ok (.aload_n 0, 1) := by decide +kernel
theorem dM_clusterOf_7 : decode cM_clusterOf 7 = .ok (.iload_n 1, 1) := by decide +kernel
theorem dM_clusterOf_8 : decode cM_clusterOf 8 = .ok (.iconst 1, 1) := by decide +kernel
theorem dM_clusterOf_9 : decode cM_clusterOf 9 = .ok (.invokevirtual 73, 3) := by decide +kernel
theorem dM_clusterOf_12 : decode cM_clusterOf 12 = .ok (.goto 4, 3) := by decide +kernel
theorem dM_clusterOf_15 : decode cM_clusterOf 15 = .ok (.iconst 0, 1) := by decide +kernel
theorem dM_clusterOf_16 : decode cM_clusterOf 16 = .ok (.ireturn, 1) := by decide +kernel
theorem dM_sideOf_0 : decode cM_sideOf 0 = .ok (.iload_n 1, 1) := by decide +kernel
theorem dM_sideOf_1 : decode cM_sideOf 1 = .ok (.bipush 40, 2) := by decide +kernel
theorem dM_sideOf_3 : decode cM_sideOf 3 = .ok (.if_icmp .ge 12, 3) := by decide +kernel
theorem dM_sideOf_6 : decode cM_sideOf 6 = .ok (.aload_n 0, 1) := by decide +kernel
theorem dM_sideOf_7 : decode cM_sideOf 7 = .ok (.iload_n 1, 1) := by decide +kernel
theorem dM_sideOf_8 : decode cM_sideOf 8 = .ok (.iconst 3, 1) := by decide +kernel
theorem dM_sideOf_9 : decode cM_sideOf 9 = .ok (.invokevirtual 73, 3) := by decide +kernel
theorem dM_sideOf_12 : decode cM_sideOf 12 = .ok (.goto 4, 3) := by decide +kernel
theorem dM_sideOf_15 : decode cM_sideOf 15 = .ok (.iconst 0, 1) := by decide +kernel
theorem dM_sideOf_16 : decode cM_sideOf 16 = .ok (.ireturn, 1) := by decide +kernel
theorem dM_isLead_0 : decode cM_isLead 0 = .ok (.iload_n 1, 1) := by decide +kernel
theorem dM_isLead_1 : decode cM_isLead 1 = .ok (.bipush 40, 2) := by decide +kernel
theorem dM_isLead_3 : decode cM_isLead 3 = .ok (.if_icmp .lt 13, 3) := by decide +kernel
theorem dM_isLead_6 : decode cM_isLead 6 = .ok (.iload_n 1, 1) := by decide +kernel
theorem dM_isLead_7 : decode cM_isLead 7 = .ok (.bipush 43, 2) := by decide +kernel
theorem dM_isLead_9 : decode cM_isLead 9 = .ok (.if_icmp .ge 7, 3) := by decide +kernel
theorem dM_isLead_12 : decode cM_isLead 12 = .ok (.iconst 1, 1) := by decide +kernel
theorem dM_isLead_13 : decode cM_isLead 13 = .ok (.goto 4, 3) := by decide +kernel
theorem dM_isLead_16 : decode cM_isLead 16 = .ok (.iconst 0, 1) := by decide +kernel
theorem dM_isLead_17 : decode cM_isLead 17 = .ok (.ireturn, 1) := by decide +kernel
theorem dM_isVowel_0 : decode cM_isVowel 0 = .ok (.iload_n 1, 1) := by decide +kernel
theorem dM_isVowel_1 : decode cM_isVowel 1 = .ok (.bipush 43, 2) := by decide +kernel
theorem dM_isVowel_3 : decode cM_isVowel 3 = .ok (.if_icmp .lt 13, 3) := by decide +kernel
theorem dM_isVowel_6 : decode cM_isVowel 6 = .ok (.iload_n 1, 1) := by decide +kernel
theorem dM_isVowel_7 : decode cM_isVowel 7 = .ok (.bipush 46, 2) := by decide +kernel
theorem dM_isVowel_9 : decode cM_isVowel 9 = .ok (.if_icmp .ge 7, 3) := by decide +kernel
theorem dM_isVowel_12 : decode cM_isVowel 12 = .ok (.iconst 1, 1) := by decide +kernel
theorem dM_isVowel_13 : decode cM_isVowel 13 = .ok (.goto 4, 3) := by decide +kernel
theorem dM_isVowel_16 : decode cM_isVowel 16 = .ok (.iconst 0, 1) := by decide +kernel
theorem dM_isVowel_17 : decode cM_isVowel 17 = .ok (.ireturn, 1) := by decide +kernel
theorem dM_isTail_0 : decode cM_isTail 0 = .ok (.iload_n 1, 1) := by decide +kernel
theorem dM_isTail_1 : decode cM_isTail 1 = .ok (.bipush 46, 2) := by decide +kernel
theorem dM_isTail_3 : decode cM_isTail 3 = .ok (.if_icmp .eq 9, 3) := by decide +kernel
theorem dM_isTail_6 : decode cM_isTail 6 = .ok (.iload_n 1, 1) := by decide +kernel
theorem dM_isTail_7 : decode cM_isTail 7 = .ok (.bipush 47, 2) := by decide +kernel
theorem dM_isTail_9 : decode cM_isTail 9 = .ok (.if_icmp .ne 7, 3) := by decide +kernel
theorem dM_isTail_12 : decode cM_isTail 12 = .ok (.iconst 1, 1) := by decide +kernel
theorem dM_isTail_13 : decode cM_isTail 13 = .ok (.goto 4, 3) := by decide +kernel
theorem dM_isTail_16 : decode cM_isTail 16 = .ok (.iconst 0, 1) := by decide +kernel
theorem dM_isTail_17 : decode cM_isTail 17 = .ok (.ireturn, 1) := by decide +kernel
theorem dM_isOpen_0 : decode cM_isOpen 0 = .ok (.iload_n 1, 1) := by decide +kernel
theorem dM_isOpen_1 : decode cM_isOpen 1 = .ok (.bipush 47, 2) := by decide +kernel
theorem dM_isOpen_3 : decode cM_isOpen 3 = .ok (.if_icmp .le 13, 3) := by decide +kernel
theorem dM_isOpen_6 : decode cM_isOpen 6 = .ok (.iload_n 1, 1) := by decide +kernel
theorem dM_isOpen_7 : decode cM_isOpen 7 = .ok (.iconst 3, 1) := by decide +kernel
theorem dM_isOpen_8 : decode cM_isOpen 8 = .ok (.irem, 1) := by decide +kernel
theorem dM_isOpen_9 : decode cM_isOpen 9 = .ok (.ifCond .ne 7, 3) := by decide +kernel
theorem dM_isOpen_12 : decode cM_isOpen 12 = .ok (.iconst 1, 1) := by decide +kernel
theorem dM_isOpen_13 : decode cM_isOpen 13 = .ok (.goto 4, 3) := by decide +kernel
theorem dM_isOpen_16 : decode cM_isOpen 16 = .ok (.iconst 0, 1) := by decide +kernel
theorem dM_isOpen_17 : decode cM_isOpen 17 = .ok (.ireturn, 1) := by decide +kernel
theorem dM_isClosed_0 : decode cM_isClosed 0 = .ok (.iload_n 1, 1) := by decide +kernel
theorem dM_isClosed_1 : decode cM_isClosed 1 = .ok (.bipush 47, 2) := by decide +kernel
theorem dM_isClosed_3 : decode cM_isClosed 3 = .ok (.if_icmp .le 13, 3) := by decide +kernel
theorem dM_isClosed_6 : decode cM_isClosed 6 = .ok (.iload_n 1, 1) := by decide +kernel
theorem dM_isClosed_7 : decode cM_isClosed 7 = .ok (.iconst 3, 1) := by decide +kernel
theorem dM_isClosed_8 : decode cM_isClosed 8 = .ok (.irem, 1) := by decide +kernel
theorem dM_isClosed_9 : decode cM_isClosed 9 = .ok (.ifCond .eq 7, 3) := by decide +kernel
theorem dM_isClosed_12 : decode cM_isClosed 12 = .ok (.iconst 1, 1) := by decide +kernel
theorem dM_isClosed_13 : decode cM_isClosed 13 = .ok (.goto 4, 3) := by decide +kernel
theorem dM_isClosed_16 : decode cM_isClosed 16 = .ok (.iconst 0, 1) := by decide +kernel
theorem dM_isClosed_17 : decode cM_isClosed 17 = .ok (.ireturn, 1) := by decide +kernel
theorem dM_type_0 : decode cM_type 0 = .ok (.aload_n 0, 1) := by decide +kernel
theorem dM_type_1 : decode cM_type 1 = .ok (.iload_n 1, 1) := by decide +kernel
theorem dM_type_2 : decode cM_type 2 = .ok (.ifCond .lt 9, 3) := by decide +kernel
theorem dM_type_5 : decode cM_type 5 = .ok (.iload_n 1, 1) := by decide +kernel
theorem dM_type_6 : decode cM_type 6 = .ok (.bipush 74, 2) := by decide +kernel
theorem dM_type_8 : decode cM_type 8 = .ok (.if_icmp .le 7, 3) := by decide +kernel
theorem dM_type_11 : decode cM_type 11 = .ok (.iconst 1, 1) := by decide +kernel
theorem dM_type_12 : decode cM_type 12 = .ok (.goto 17, 3) := by decide +kernel
theorem dM_type_15 : decode cM_type 15 = .ok (.aload_n 0, 1) := by decide +kernel
theorem dM_type_16 : decode cM_type 16 = .ok (.getfield 77, 3) := by decide +kernel
theorem dM_type_19 : decode cM_type 19 = .ok (.bipush 40, 2) := by decide +kernel
theorem dM_type_21 : decode cM_type 21 = .ok (.if_icmp .ne 7, 3) := by decide +kernel
theorem dM_type_24 : decode cM_type 24 = .ok (.iconst 2, 1) := by decide +kernel
theorem dM_type_25 : decode cM_type 25 = .ok (.goto 4, 3) := by decide +kernel
theorem dM_type_28 : decode cM_type 28 = .ok (.iconst 0, 1) := by decide +kernel
theorem dM_type_29 : decode cM_type 29 = .ok (.putfield 65, 3) := by decide +kernel
theorem dM_type_32 : decode cM_type 32 = .ok (.aload_n 0, 1) := by decide +kernel
theorem dM_type_33 : decode cM_type 33 = .ok (.getfield 65, 3) := by decide +kernel
theorem dM_type_36 : decode cM_type 36 = .ok (.ifCond .eq 5, 3) := by decide +kernel
theorem dM_type_39 : decode cM_type 39 = .ok (.iconst 0, 1) := by decide +kernel
theorem dM_type_40 : decode cM_type 40 = .ok (.ireturn, 1) := by decide +kernel
theorem dM_type_41 : decode cM_type 41 = .ok (.aload_n 0, 1) := by decide +kernel
theorem dM_type_42 : decode cM_type 42 = .ok (.getfield 26, 3) := by decide +kernel
theorem dM_type_45 : decode cM_type 45 = .ok (.aload_n 0, 1) := by decide +kernel
theorem dM_type_46 : decode cM_type 46 = .ok (.getfield 77, 3) := by decide +kernel
theorem dM_type_49 : decode cM_type 49 = .ok (.iload_n 1, 1) := by decide +kernel
theorem dM_type_50 : decode cM_type 50 = .ok (.iastore, 1) := by decide +kernel
theorem dM_type_51 : decode cM_type 51 = .ok (.aload_n 0, 1) := by decide +kernel
theorem dM_type_52 : decode cM_type 52 = .ok (.dup, 1) := by decide +kernel
theorem dM_type_53 : decode cM_type 53 = .ok (.getfield 77, 3) := by decide +kernel
theorem dM_type_56 : decode cM_type 56 = .ok (.iconst 1, 1) := by decide +kernel
theorem dM_type_57 : decode cM_type 57 = .ok (.iadd, 1) := by decide +kernel
theorem dM_type_58 : decode cM_type 58 = .ok (.putfield 77, 3) := by decide +kernel
theorem dM_type_61 : decode cM_type 61 = .ok (.aload_n 0, 1) := by decide +kernel
theorem dM_type_62 : decode cM_type 62 = .ok (.getfield 77, 3) := by decide +kernel
theorem dM_type_65 : decode cM_type 65 = .ok (.ireturn, 1) := by decide +kernel
theorem dM_wipe_0 : decode cM_wipe 0 = .ok (.aload_n 0, 1) := by decide +kernel
theorem dM_wipe_1 : decode cM_wipe 1 = .ok (.iconst 0, 1) := by decide +kernel
theorem dM_wipe_2 : decode cM_wipe 2 = .ok (.putfield 65, 3) := by decide +kernel
theorem dM_wipe_5 : decode cM_wipe 5 = .ok (.aload_n 0, 1) := by decide +kernel
theorem dM_wipe_6 : decode cM_wipe 6 = .ok (.iconst 0, 1) := by decide +kernel
theorem dM_wipe_7 : decode cM_wipe 7 = .ok (.putfield 77, 3) := by decide +kernel
theorem dM_wipe_10 : decode cM_wipe 10 = .ok (.return_, 1) := by decide +kernel
theorem dM_noPlace_0 : decode cM_noPlace 0 = .ok (.iload_n 1, 1) := by decide +kernel
theorem dM_noPlace_1 : decode cM_noPlace 1 = .ok (.ifCond .lt 8, 3) := by decide +kernel
theorem dM_noPlace_4 : decode cM_noPlace 4 = .ok (.iload_n 1, 1) := by decide +kernel
theorem dM_noPlace_5 : decode cM_noPlace 5 = .ok (.iload_n 2, 1) := by decide +kernel
theorem dM_noPlace_6 : decode cM_noPlace 6 = .ok (.if_icmp .lt 7, 3) := by decide +kernel
theorem dM_noPlace_9 : decode cM_noPlace 9 = .ok (.iconst 1, 1) := by decide +kernel
theorem dM_noPlace_10 : decode cM_noPlace 10 = .ok (.goto 4, 3) := by decide +kernel
theorem dM_noPlace_13 : decode cM_noPlace 13 = .ok (.iconst 0, 1) := by decide +kernel
theorem dM_noPlace_14 : decode cM_noPlace 14 = .ok (.ireturn, 1) := by decide +kernel
theorem dM_at_0 : decode cM_at 0 = .ok (.aload_n 0, 1) := by decide +kernel
theorem dM_at_1 : decode cM_at 1 = .ok (.aload_n 0, 1) := by decide +kernel
theorem dM_at_2 : decode cM_at 2 = .ok (.iload_n 1, 1) := by decide +kernel
theorem dM_at_3 : decode cM_at 3 = .ok (.aload_n 0, 1) := by decide +kernel
theorem dM_at_4 : decode cM_at 4 = .ok (.getfield 77, 3) := by decide +kernel
theorem dM_at_7 : decode cM_at 7 = .ok (.invokevirtual 80, 3) := by decide +kernel
theorem dM_at_10 : decode cM_at 10 = .ok (.ifCond .eq 7, 3) := by decide +kernel
theorem dM_at_13 : decode cM_at 13 = .ok (.iconst 1, 1) := by decide +kernel
theorem dM_at_14 : decode cM_at 14 = .ok (.goto 4, 3) := by decide +kernel
theorem dM_at_17 : decode cM_at 17 = .ok (.iconst 0, 1) := by decide +kernel
theorem dM_at_18 : decode cM_at 18 = .ok (.putfield 65, 3) := by decide +kernel
theorem dM_at_21 : decode cM_at 21 = .ok (.aload_n 0, 1) := by decide +kernel
theorem dM_at_22 : decode cM_at 22 = .ok (.getfield 65, 3) := by decide +kernel
theorem dM_at_25 : decode cM_at 25 = .ok (.ifCond .ne 12, 3) := by decide +kernel
theorem dM_at_28 : decode cM_at 28 = .ok (.aload_n 0, 1) := by decide +kernel
theorem dM_at_29 : decode cM_at 29 = .ok (.getfield 26, 3) := by decide +kernel
theorem dM_at_32 : decode cM_at 32 = .ok (.iload_n 1, 1) := by decide +kernel
theorem dM_at_33 : decode cM_at 33 = .ok (.iaload, 1) := by decide +kernel
theorem dM_at_34 : decode cM_at 34 = .ok (.goto 4, 3) := by decide +kernel
theorem dM_at_37 : decode cM_at 37 = .ok (.iconst 0, 1) := by decide +kernel
theorem dM_at_38 : decode cM_at 38 = .ok (.ireturn, 1) := by decide +kernel
theorem dM_put_0 : decode cM_put 0 = .ok (.aload_n 0, 1) := by decide +kernel
theorem dM_put_1 : decode cM_put 1 = .ok (.getfield 35, 3) := by decide +kernel
theorem dM_put_4 : decode cM_put 4 = .ok (.aload_n 0, 1) := by decide +kernel
theorem dM_put_5 : decode cM_put 5 = .ok (.getfield 84, 3) := by decide +kernel
theorem dM_put_8 : decode cM_put 8 = .ok (.iload_n 1, 1) := by decide +kernel
theorem dM_put_9 : decode cM_put 9 = .ok (.iastore, 1) := by decide +kernel
theorem dM_put_10 : decode cM_put 10 = .ok (.aload_n 0, 1) := by decide +kernel
theorem dM_put_11 : decode cM_put 11 = .ok (.dup, 1) := by decide +kernel
theorem dM_put_12 : decode cM_put 12 = .ok (.getfield 84, 3) := by decide +kernel
theorem dM_put_15 : decode cM_put 15 = .ok (.iconst 1, 1) := by decide +kernel
theorem dM_put_16 : decode cM_put 16 = .ok (.iadd, 1) := by decide +kernel
theorem dM_put_17 : decode cM_put 17 = .ok (.putfield 84, 3) := by decide +kernel
theorem dM_put_20 : decode cM_put 20 = .ok (.return_, 1) := by decide +kernel
theorem dM_putParts_0 : decode cM_putParts 0 = .ok (.iconst 1, 1) := by decide +kernel
theorem dM_putParts_1 : decode cM_putParts 1 = .ok (.istore_n 2, 1) := by decide +kernel
theorem dM_putParts_2 : decode cM_putParts 2 = .ok (.aload_n 0, 1) := by decide +kernel
theorem dM_putParts_3 : decode cM_putParts 3 = .ok (.getfield 41, 3) := by decide +kernel
theorem dM_putParts_6 : decode cM_putParts 6 = .ok (.iconst 0, 1) := by decide +kernel
theorem dM_putParts_7 : decode cM_putParts 7 = .ok (.iload_n 1, 1) := by decide +kernel
theorem dM_putParts_8 : decode cM_putParts 8 = .ok (.iastore, 1) := by decide +kernel
theorem dM_putParts_9 : decode cM_putParts 9 = .ok (.iload_n 2, 1) := by decide +kernel
theorem dM_putParts_10 : decode cM_putParts 10 = .ok (.ifCond .le 132, 3) := by decide +kernel
theorem dM_putParts_13 : decode cM_putParts 13 = .ok (.iinc 2 (-1), 3) := by decide +kernel
theorem dM_putParts_16 : decode cM_putParts 16 = .ok (.aload_n 0, 1) := by decide +kernel
theorem dM_putParts_17 : decode cM_putParts 17 = .ok (.getfield 41, 3) := by decide +kernel
theorem dM_putParts_20 : decode cM_putParts 20 = .ok (.iload_n 2, 1) := by decide +kernel
theorem dM_putParts_21 : decode cM_putParts 21 = .ok (.iaload, 1) := by decide +kernel
theorem dM_putParts_22 : decode cM_putParts 22 = .ok (.istore_n 3, 1) := by decide +kernel
theorem dM_putParts_23 : decode cM_putParts 23 = .ok (.iload_n 3, 1) := by decide +kernel
theorem dM_putParts_24 : decode cM_putParts 24 = .ok (.bipush 47, 2) := by decide +kernel
theorem dM_putParts_26 : decode cM_putParts 26 = .ok (.if_icmp .le 51, 3) := by decide +kernel
theorem dM_putParts_29 : decode cM_putParts 29 = .ok (.aload_n 0, 1) := by decide +kernel
theorem dM_putParts_30 : decode cM_putParts 30 = .ok (.bipush 40, 2) := by decide +kernel
theorem dM_putParts_32 : decode cM_putParts 32 = .ok (.iload_n 3, 1) := by decide +kernel
theorem dM_putParts_33 : decode cM_putParts 33 = .ok (.bipush 48, 2) := by decide +kernel
theorem dM_putParts_35 : decode cM_putParts 35 = .ok (.isub, 1) := by decide +kernel
theorem dM_putParts_36 : decode cM_putParts 36 = .ok (.bipush 9, 2) := by decide +kernel
theorem dM_putParts_38 : decode cM_putParts 38 = .ok (.idiv, 1) := by decide +kernel
theorem dM_putParts_39 : decode cM_putParts 39 = .ok (.iadd, 1) := by decide +kernel
theorem dM_putParts_40 : decode cM_putParts 40 = .ok (.invokevirtual 87, 3) := by decide +kernel
theorem dM_putParts_43 : decode cM_putParts 43 = .ok (.aload_n 0, 1) := by decide +kernel
theorem dM_putParts_44 : decode cM_putParts 44 = .ok (.bipush 43, 2) := by decide +kernel
theorem dM_putParts_46 : decode cM_putParts 46 = .ok (.iload_n 3, 1) := by decide +kernel
theorem dM_putParts_47 : decode cM_putParts 47 = .ok (.bipush 48, 2) := by decide +kernel
theorem dM_putParts_49 : decode cM_putParts 49 = .ok (.isub, 1) := by decide +kernel
theorem dM_putParts_50 : decode cM_putParts 50 = .ok (.iconst 3, 1) := by decide +kernel
theorem dM_putParts_51 : decode cM_putParts 51 = .ok (.idiv, 1) := by decide +kernel
theorem dM_putParts_52 : decode cM_putParts 52 = .ok (.iconst 3, 1) := by decide +kernel
theorem dM_putParts_53 : decode cM_putParts 53 = .ok (.irem, 1) := by decide +kernel
theorem dM_putParts_54 : decode cM_putParts 54 = .ok (.iadd, 1) := by decide +kernel
theorem dM_putParts_55 : decode cM_putParts 55 = .ok (.invokevirtual 87, 3) := by decide +kernel
theorem dM_putParts_58 : decode cM_putParts 58 = .ok (.iload_n 3, 1) := by decide +kernel
theorem dM_putParts_59 : decode cM_putParts 59 = .ok (.iconst 3, 1) := by decide +kernel
theorem dM_putParts_60 : decode cM_putParts 60 = .ok (.irem, 1) := by decide +kernel
theorem dM_putParts_61 : decode cM_putParts 61 = .ok (.ifCond .eq 78, 3) := by decide +kernel
theorem dM_putParts_64 : decode cM_putParts 64 = .ok (.aload_n 0, 1) := by decide +kernel
theorem dM_putParts_65 : decode cM_putParts 65 = .ok (.bipush 45, 2) := by decide +kernel
theorem dM_putParts_67 : decode cM_putParts 67 = .ok (.iload_n 3, 1) := by decide +kernel
theorem dM_putParts_68 : decode cM_putParts 68 = .ok (.iconst 3, 1) := by decide +kernel
theorem dM_putParts_69 : decode cM_putParts 69 = .ok (.irem, 1) := by decide +kernel
theorem dM_putParts_70 : decode cM_putParts 70 = .ok (.iadd, 1) := by decide +kernel
theorem dM_putParts_71 : decode cM_putParts 71 = .ok (.invokevirtual 87, 3) := by decide +kernel
theorem dM_putParts_74 : decode cM_putParts 74 = .ok (.goto 65, 3) := by decide +kernel
theorem dM_putParts_77 : decode cM_putParts 77 = .ok (.iload_n 3, 1) := by decide +kernel
theorem dM_putParts_78 : decode cM_putParts 78 = .ok (.bipush 40, 2) := by decide +kernel
theorem dM_putParts_80 : decode cM_putParts 80 = .ok (.if_icmp .ge 54, 3) := by decide +kernel
theorem dM_putParts_83 : decode cM_putParts 83 = .ok (.aload_n 0, 1) := by decide +kernel
theorem dM_putParts_84 : decode cM_putParts 84 = .ok (.getfield 13, 3) := by decide +kernel
theorem dM_putParts_87 : decode cM_putParts 87 = .ok (.iload_n 3, 1) := by decide +kernel
theorem dM_putParts_88 : decode cM_putParts 88 = .ok (.iaload, 1) := by decide +kernel
theorem dM_putParts_89 : decode cM_putParts 89 = .ok (.ifCond .lt 45, 3) := by decide +kernel
theorem dM_putParts_92 : decode cM_putParts 92 = .ok (.aload_n 0, 1) := by decide +kernel
theorem dM_putParts_93 : decode cM_putParts 93 = .ok (.getfield 16, 3) := by decide +kernel
theorem dM_putParts_96 : decode cM_putParts 96 = .ok (.iload_n 3, 1) := by decide +kernel
theorem dM_putParts_97 : decode cM_putParts 97 = .ok (.iaload, 1) := by decide +kernel
theorem dM_putParts_98 : decode cM_putParts 98 = .ok (.ifCond .lt 18, 3) := by decide +kernel
theorem dM_putParts_101 : decode cM_putParts 101 = .ok (.aload_n 0, 1) := by decide +kernel
theorem dM_putParts_102 : decode cM_putParts 102 = .ok (.getfield 41, 3) := by decide +kernel
theorem dM_putParts_105 : decode cM_putParts 105 = .ok (.iload_n 2, 1) := by decide +kernel
theorem dM_putParts_106 : decode cM_putParts 106 = .ok (.aload_n 0, 1) := by decide +kernel
theorem dM_putParts_107 : decode cM_putParts 107 = .ok (.getfield 16, 3) := by decide +kernel
theorem dM_putParts_110 : decode cM_putParts 110 = .ok (.iload_n 3, 1) := by decide +kernel
theorem dM_putParts_111 : decode cM_putParts 111 = .ok (.iaload, 1) := by decide +kernel
theorem dM_putParts_112 : decode cM_putParts 112 = .ok (.iastore, 1) := by decide +kernel
theorem dM_putParts_113 : decode cM_putParts 113 = .ok (.iinc 2 1, 3) := by decide +kernel
theorem dM_putParts_116 : decode cM_putParts 116 = .ok (.aload_n 0, 1) := by decide +kernel
theorem dM_putParts_117 : decode cM_putParts 117 = .ok (.getfield 41, 3) := by decide +kernel
theorem dM_putParts_120 : decode cM_putParts 120 = .ok (.iload_n 2, 1) := by decide +kernel
theorem dM_putParts_121 : decode cM_putParts 121 = .ok (.aload_n 0, 1) := by decide +kernel
theorem dM_putParts_122 : decode cM_putParts 122 = .ok (.getfield 13, 3) := by decide +kernel
theorem dM_putParts_125 : decode cM_putParts 125 = .ok (.iload_n 3, 1) := by decide +kernel
theorem dM_putParts_126 : decode cM_putParts 126 = .ok (.iaload, 1) := by decide +kernel
theorem dM_putParts_127 : decode cM_putParts 127 = .ok (.iastore, 1) := by decide +kernel
theorem dM_putParts_128 : decode cM_putParts 128 = .ok (.iinc 2 1, 3) := by decide +kernel
theorem dM_putParts_131 : decode cM_putParts 131 = .ok (.goto 8, 3) := by decide +kernel
theorem dM_putParts_134 : decode cM_putParts 134 = .ok (.aload_n 0, 1) := by decide +kernel
theorem dM_putParts_135 : decode cM_putParts 135 = .ok (.iload_n 3, 1) := by decide +kernel
theorem dM_putParts_136 : decode cM_putParts 136 = .ok (.invokevirtual 87, 3) := by decide +kernel
theorem dM_putParts_139 : decode cM_putParts 139 = .ok (.goto (-130), 3) := by decide +kernel
theorem dM_putParts_142 : decode cM_putParts 142 = .ok (.return_, 1) := by decide +kernel
theorem dM_rankForm_0 : decode cM_rankForm 0 = .ok (.iconst 0, 1) := by decide +kernel
theorem dM_rankForm_1 : decode cM_rankForm 1 = .ok (.istore_n 1, 1) := by decide +kernel
theorem dM_rankForm_2 : decode cM_rankForm 2 = .ok (.iload_n 1, 1) := by decide +kernel
theorem dM_rankForm_3 : decode cM_rankForm 3 = .ok (.aload_n 0, 1) := by decide +kernel
theorem dM_rankForm_4 : decode cM_rankForm 4 = .ok (.getfield 84, 3) := by decide +kernel
theorem dM_rankForm_7 : decode cM_rankForm 7 = .ok (.if_icmp .ge 84, 3) := by decide +kernel
theorem dM_rankForm_10 : decode cM_rankForm 10 = .ok (.iconst 0, 1) := by decide +kernel
theorem dM_rankForm_11 : decode cM_rankForm 11 = .ok (.istore_n 2, 1) := by decide +kernel
theorem dM_rankForm_12 : decode cM_rankForm 12 = .ok (.iload_n 2, 1) := by decide +kernel
theorem dM_rankForm_13 : decode cM_rankForm 13 = .ok (.iconst 1, 1) := by decide +kernel
theorem dM_rankForm_14 : decode cM_rankForm 14 = .ok (.iadd, 1) := by decide +kernel
theorem dM_rankForm_15 : decode cM_rankForm 15 = .ok (.aload_n 0, 1) := by decide +kernel
theorem dM_rankForm_16 : decode cM_rankForm 16 = .ok (.getfield 84, 3) := by decide +kernel
theorem dM_rankForm_19 : decode cM_rankForm 19 = .ok (.if_icmp .ge 66, 3) := by decide +kernel
theorem dM_rankForm_22 : decode cM_rankForm 22 = .ok (.aload_n 0, 1) := by decide +kernel
theorem dM_rankForm_23 : decode cM_rankForm 23 = .ok (.getfield 35, 3) := by decide +kernel
theorem dM_rankForm_26 : decode cM_rankForm 26 = .ok (.iload_n 2, 1) := by decide +kernel
theorem dM_rankForm_27 : decode cM_rankForm 27 = .ok (.iaload, 1) := by decide +kernel
theorem dM_rankForm_28 : decode cM_rankForm 28 = .ok (.istore_n 3, 1) := by decide +kernel
theorem dM_rankForm_29 : decode cM_rankForm 29 = .ok (.aload_n 0, 1) := by decide +kernel
theorem dM_rankForm_30 : decode cM_rankForm 30 = .ok (.getfield 35, 3) := by decide +kernel
theorem dM_rankForm_33 : decode cM_rankForm 33 = .ok (.iload_n 2, 1) := by decide +kernel
theorem dM_rankForm_34 : decode cM_rankForm 34 = .ok (.iconst 1, 1) := by decide +kernel
theorem dM_rankForm_35 : decode cM_rankForm 35 = .ok (.iadd, 1) := by decide +kernel
theorem dM_rankForm_36 : decode cM_rankForm 36 = .ok (.iaload, 1) := by decide +kernel
theorem dM_rankForm_37 : decode cM_rankForm 37 = .ok (.istore 4, 2) := by decide +kernel
theorem dM_rankForm_39 : decode cM_rankForm 39 = .ok (.aload_n 0, 1) := by decide +kernel
theorem dM_rankForm_40 : decode cM_rankForm 40 = .ok (.iload_n 3, 1) := by decide +kernel
theorem dM_rankForm_41 : decode cM_rankForm 41 = .ok (.invokevirtual 91, 3) := by decide +kernel
theorem dM_rankForm_44 : decode cM_rankForm 44 = .ok (.aload_n 0, 1) := by decide +kernel
theorem dM_rankForm_45 : decode cM_rankForm 45 = .ok (.iload 4, 2) := by decide +kernel
theorem dM_rankForm_47 : decode cM_rankForm 47 = .ok (.invokevirtual 91, 3) := by decide +kernel
theorem dM_rankForm_50 : decode cM_rankForm 50 = .ok (.if_icmp .le 29, 3) := by decide +kernel
theorem dM_rankForm_53 : decode cM_rankForm 53 = .ok (.aload_n 0, 1) := by decide +kernel
theorem dM_rankForm_54 : decode cM_rankForm 54 = .ok (.iload 4, 2) := by decide +kernel
theorem dM_rankForm_56 : decode cM_rankForm 56 = .ok (.invokevirtual 91, 3) := by decide +kernel
theorem dM_rankForm_59 : decode cM_rankForm 59 = .ok (.ifCond .le 20, 3) := by decide +kernel
theorem dM_rankForm_62 : decode cM_rankForm 62 = .ok (.aload_n 0, 1) := by decide +kernel
theorem dM_rankForm_63 : decode cM_rankForm 63 = .ok (.getfield 35, 3) := by decide +kernel
theorem dM_rankForm_66 : decode cM_rankForm 66 = .ok (.iload_n 2, 1) := by decide +kernel
theorem dM_rankForm_67 : decode cM_rankForm 67 = .ok (.iload 4, 2) := by decide +kernel
theorem dM_rankForm_69 : decode cM_rankForm 69 = .ok (.iastore, 1) := by decide +kernel
theorem dM_rankForm_70 : decode cM_rankForm 70 = .ok (.aload_n 0, 1) := by decide +kernel
theorem dM_rankForm_71 : decode cM_rankForm 71 = .ok (.getfield 35, 3) := by decide +kernel
theorem dM_rankForm_74 : decode cM_rankForm 74 = .ok (.iload_n 2, 1) := by decide +kernel
theorem dM_rankForm_75 : decode cM_rankForm 75 = .ok (.iconst 1, 1) := by decide +kernel
theorem dM_rankForm_76 : decode cM_rankForm 76 = .ok (.iadd, 1) := by decide +kernel
theorem dM_rankForm_77 : decode cM_rankForm 77 = .ok (.iload_n 3, 1) := by decide +kernel
theorem dM_rankForm_78 : decode cM_rankForm 78 = .ok (.iastore, 1) := by decide +kernel
theorem dM_rankForm_79 : decode cM_rankForm 79 = .ok (.iinc 2 1, 3) := by decide +kernel
theorem dM_rankForm_82 : decode cM_rankForm 82 = .ok (.goto (-70), 3) := by decide +kernel
theorem dM_rankForm_85 : decode cM_rankForm 85 = .ok (.iinc 1 1, 3) := by decide +kernel
theorem dM_rankForm_88 : decode cM_rankForm 88 = .ok (.goto (-86), 3) := by decide +kernel
theorem dM_rankForm_91 : decode cM_rankForm 91 = .ok (.return_, 1) := by decide +kernel
theorem dM_partText_0 : decode cM_partText 0 = .ok (.aload_n 0, 1) := by decide +kernel
theorem dM_partText_1 : decode cM_partText 1 = .ok (.iconst 0, 1) := by decide +kernel
theorem dM_partText_2 : decode cM_partText 2 = .ok (.putfield 84, 3) := by decide +kernel
theorem dM_partText_5 : decode cM_partText 5 = .ok (.iconst 0, 1) := by decide +kernel
theorem dM_partText_6 : decode cM_partText 6 = .ok (.istore_n 1, 1) := by decide +kernel
theorem dM_partText_7 : decode cM_partText 7 = .ok (.iload_n 1, 1) := by decide +kernel
theorem dM_partText_8 : decode cM_partText 8 = .ok (.aload_n 0, 1) := by decide +kernel
theorem dM_partText_9 : decode cM_partText 9 = .ok (.getfield 77, 3) := by decide +kernel
theorem dM_partText_12 : decode cM_partText 12 = .ok (.if_icmp .ge 19, 3) := by decide +kernel
theorem dM_partText_15 : decode cM_partText 15 = .ok (.aload_n 0, 1) := by decide +kernel
theorem dM_partText_16 : decode cM_partText 16 = .ok (.aload_n 0, 1) := by decide +kernel
theorem dM_partText_17 : decode cM_partText 17 = .ok (.getfield 26, 3) := by decide +kernel
theorem dM_partText_20 : decode cM_partText 20 = .ok (.iload_n 1, 1) := by decide +kernel
theorem dM_partText_21 : decode cM_partText 21 = .ok (.iaload, 1) := by decide +kernel
theorem dM_partText_22 : decode cM_partText 22 = .ok (.invokevirtual 95, 3) := by decide +kernel
theorem dM_partText_25 : decode cM_partText 25 = .ok (.iinc 1 1, 3) := by decide +kernel
theorem dM_partText_28 : decode cM_partText 28 = .ok (.goto (-21), 3) := by decide +kernel
theorem dM_partText_31 : decode cM_partText 31 = .ok (.aload_n 0, 1) := by decide +kernel
theorem dM_partText_32 : decode cM_partText 32 = .ok (.invokevirtual 98, 3) := by decide +kernel
theorem dM_partText_35 : decode cM_partText 35 = .ok (.return_, 1) := by decide +kernel
theorem dM_partKept_0 : decode cM_partKept 0 = .ok (.aload_n 0, 1) := by decide +kernel
theorem dM_partKept_1 : decode cM_partKept 1 = .ok (.iconst 0, 1) := by decide +kernel
theorem dM_partKept_2 : decode cM_partKept 2 = .ok (.putfield 84, 3) := by decide +kernel
theorem dM_partKept_5 : decode cM_partKept 5 = .ok (.iconst 0, 1) := by decide +kernel
theorem dM_partKept_6 : decode cM_partKept 6 = .ok (.istore_n 2, 1) := by decide +kernel
theorem dM_partKept_7 : decode cM_partKept 7 = .ok (.iload_n 2, 1) := by decide +kernel
theorem dM_partKept_8 : decode cM_partKept 8 = .ok (.aload_n 0, 1) := by decide +kernel
theorem dM_partKept_9 : decode cM_partKept 9 = .ok (.getfield 29, 3) := by decide +kernel
theorem dM_partKept_12 : decode cM_partKept 12 = .ok (.iload_n 1, 1) := by decide +kernel
theorem dM_partKept_13 : decode cM_partKept 13 = .ok (.iaload, 1) := by decide +kernel
theorem dM_partKept_14 : decode cM_partKept 14 = .ok (.if_icmp .ge 24, 3) := by decide +kernel
theorem dM_partKept_17 : decode cM_partKept 17 = .ok (.aload_n 0, 1) := by decide +kernel
theorem dM_partKept_18 : decode cM_partKept 18 = .ok (.aload_n 0, 1) := by decide +kernel
theorem dM_partKept_19 : decode cM_partKept 19 = .ok (.getfield 32, 3) := by decide +kernel
theorem dM_partKept_22 : decode cM_partKept 22 = .ok (.bipush 40, 2) := by decide +kernel
theorem dM_partKept_24 : decode cM_partKept 24 = .ok (.iload_n 1, 1) := by decide +kernel
theorem dM_partKept_25 : decode cM_partKept 25 = .ok (.imul, 1) := by decide +kernel
theorem dM_partKept_26 : decode cM_partKept 26 = .ok (.iload_n 2, 1) := by decide +kernel
theorem dM_partKept_27 : decode cM_partKept 27 = .ok (.iadd, 1) := by decide +kernel
theorem dM_partKept_28 : decode cM_partKept 28 = .ok (.iaload, 1) := by decide +kernel
theorem dM_partKept_29 : decode cM_partKept 29 = .ok (.invokevirtual 95, 3) := by decide +kernel
theorem dM_partKept_32 : decode cM_partKept 32 = .ok (.iinc 2 1, 3) := by decide +kernel
theorem dM_partKept_35 : decode cM_partKept 35 = .ok (.goto (-28), 3) := by decide +kernel
theorem dM_partKept_38 : decode cM_partKept 38 = .ok (.aload_n 0, 1) := by decide +kernel
theorem dM_partKept_39 : decode cM_partKept 39 = .ok (.invokevirtual 98, 3) := by decide +kernel
theorem dM_partKept_42 : decode cM_partKept 42 = .ok (.return_, 1) := by decide +kernel
theorem dM_joins_0 : decode cM_joins 0 = .ok (.aload_n 0, 1) := by decide +kernel
theorem dM_joins_1 : decode cM_joins 1 = .ok (.iload_n 1, 1) := by decide +kernel
theorem dM_joins_2 : decode cM_joins 2 = .ok (.invokevirtual 101, 3) := by decide +kernel
theorem dM_joins_5 : decode cM_joins 5 = .ok (.ifCond .eq 29, 3) := by decide +kernel
theorem dM_joins_8 : decode cM_joins 8 = .ok (.aload_n 0, 1) := by decide +kernel
theorem dM_joins_9 : decode cM_joins 9 = .ok (.iload_n 2, 1) := by decide +kernel
theorem dM_joins_10 : decode cM_joins 10 = .ok (.invokevirtual 105, 3) := by decide +kernel
theorem dM_joins_13 : decode cM_joins 13 = .ok (.ifCond .eq 21, 3) := by decide +kernel
theorem dM_joins_16 : decode cM_joins 16 = .ok (.bipush 48, 2) := by decide +kernel
theorem dM_joins_18 : decode cM_joins 18 = .ok (.bipush 9, 2) := by decide +kernel
theorem dM_joins_20 : decode cM_joins 20 = .ok (.iload_n 1, 1) := by decide +kernel
theorem dM_joins_21 : decode cM_joins 21 = .ok (.bipush 40, 2) := by decide +kernel
theorem dM_joins_23 : decode cM_joins 23 = .ok (.isub, 1) := by decide +kernel
theorem dM_joins_24 : decode cM_joins 24 = .ok (.imul, 1) := by decide +kernel
theorem dM_joins_25 : decode cM_joins 25 = .ok (.iadd, 1) := by decide +kernel
theorem dM_joins_26 : decode cM_joins 26 = .ok (.iconst 3, 1) := by decide +kernel
theorem dM_joins_27 : decode cM_joins 27 = .ok (.iload_n 2, 1) := by decide +kernel
theorem dM_joins_28 : decode cM_joins 28 = .ok (.bipush 43, 2) := by decide +kernel
theorem dM_joins_30 : decode cM_joins 30 = .ok (.isub, 1) := by decide +kernel
theorem dM_joins_31 : decode cM_joins 31 = .ok (.imul, 1) := by decide +kernel
theorem dM_joins_32 : decode cM_joins 32 = .ok (.iadd, 1) := by decide +kernel
theorem dM_joins_33 : decode cM_joins 33 = .ok (.ireturn, 1) := by decide +kernel
theorem dM_joins_34 : decode cM_joins 34 = .ok (.aload_n 0, 1) := by decide +kernel
theorem dM_joins_35 : decode cM_joins 35 = .ok (.iload_n 1, 1) := by decide +kernel
theorem dM_joins_36 : decode cM_joins 36 = .ok (.invokevirtual 108, 3) := by decide +kernel
theorem dM_joins_39 : decode cM_joins 39 = .ok (.ifCond .eq 18, 3) := by decide +kernel
theorem dM_joins_42 : decode cM_joins 42 = .ok (.aload_n 0, 1) := by decide +kernel
theorem dM_joins_43 : decode cM_joins 43 = .ok (.iload_n 2, 1) := by decide +kernel
theorem dM_joins_44 : decode cM_joins 44 = .ok (.invokevirtual 111, 3) := by decide +kernel
theorem dM_joins_47 : decode cM_joins 47 = .ok (.ifCond .eq 10, 3) := by decide +kernel
theorem dM_joins_50 : decode cM_joins 50 = .ok (.iload_n 1, 1) := by decide +kernel
theorem dM_joins_51 : decode cM_joins 51 = .ok (.iload_n 2, 1) := by decide +kernel
theorem dM_joins_52 : decode cM_joins 52 = .ok (.iadd, 1) := by decide +kernel
theorem dM_joins_53 : decode cM_joins 53 = .ok (.bipush 45, 2) := by decide +kernel
theorem dM_joins_55 : decode cM_joins 55 = .ok (.isub, 1) := by decide +kernel
theorem dM_joins_56 : decode cM_joins 56 = .ok (.ireturn, 1) := by decide +kernel
theorem dM_joins_57 : decode cM_joins 57 = .ok (.iconst (-1), 1) := by decide +kernel
theorem dM_joins_58 : decode cM_joins 58 = .ok (.istore_n 3, 1) := by decide +kernel
theorem dM_joins_59 : decode cM_joins 59 = .ok (.bipush 39, 2) := by decide +kernel
theorem dM_joins_61 : decode cM_joins 61 = .ok (.istore 4, 2) := by decide +kernel
theorem dM_joins_63 : decode cM_joins 63 = .ok (.iload 4, 2) := by decide +kernel
theorem dM_joins_65 : decode cM_joins 65 = .ok (.ifCond .lt 61, 3) := by decide +kernel
theorem dM_joins_68 : decode cM_joins 68 = .ok (.aload_n 0, 1) := by decide +kernel
theorem dM_joins_69 : decode cM_joins 69 = .ok (.iload 4, 2) := by decide +kernel
theorem dM_joins_71 : decode cM_joins 71 = .ok (.invokevirtual 91, 3) := by decide +kernel
theorem dM_joins_74 : decode cM_joins 74 = .ok (.ifCond .ne 44, 3) := by decide +kernel
theorem dM_joins_77 : decode cM_joins 77 = .ok (.aload_n 0, 1) := by decide +kernel
theorem dM_joins_78 : decode cM_joins 78 = .ok (.getfield 13, 3) := by decide +kernel
theorem dM_joins_81 : decode cM_joins 81 = .ok (.iload 4, 2) := by decide +kernel
theorem dM_joins_83 : decode cM_joins 83 = .ok (.iaload, 1) := by decide +kernel
theorem dM_joins_84 : decode cM_joins 84 = .ok (.iload_n 1, 1) := by decide +kernel
theorem dM_joins_85 : decode cM_joins 85 = .ok (.if_icmp .ne 33, 3) := by decide +kernel
theorem dM_joins_88 : decode cM_joins 88 = .ok (.aload_n 0, 1) := by decide +kernel
theorem dM_joins_89 : decode cM_joins 89 = .ok (.getfield 16, 3) := by decide +kernel
theorem dM_joins_92 : decode cM_joins 92 = .ok (.iload 4, 2) := by decide +kernel
theorem dM_joins_94 : decode cM_joins 94 = .ok (.iaload, 1) := by decide +kernel
theorem dM_joins_95 : decode cM_joins 95 = .ok (.iload_n 2, 1) := by decide +kernel
theorem dM_joins_96 : decode cM_joins 96 = .ok (.if_icmp .ne 22, 3) := by decide +kernel
theorem dM_joins_99 : decode cM_joins 99 = .ok (.iload_n 2, 1) := by decide +kernel
theorem dM_joins_100 : decode cM_joins 100 = .ok (.ifCond .lt 18, 3) := by decide +kernel
theorem dM_joins_103 : decode cM_joins 103 = .ok (.aload_n 0, 1) := by decide +kernel
theorem dM_joins_104 : decode cM_joins 104 = .ok (.getfield 19, 3) := by decide +kernel
theorem dM_joins_107 : decode cM_joins 107 = .ok (.iload 4, 2) := by decide +kernel
theorem dM_joins_109 : decode cM_joins 109 = .ok (.baload, 1) := by decide +kernel
theorem dM_joins_110 : decode cM_joins 110 = .ok (.ifCond .ne 8, 3) := by decide +kernel
theorem dM_joins_113 : decode cM_joins 113 = .ok (.iload 4, 2) := by decide +kernel
theorem dM_joins_115 : decode cM_joins 115 = .ok (.goto 4, 3) := by decide +kernel
theorem dM_joins_118 : decode cM_joins 118 = .ok (.iload_n 3, 1) := by decide +kernel
theorem dM_joins_119 : decode cM_joins 119 = .ok (.istore_n 3, 1) := by decide +kernel
theorem dM_joins_120 : decode cM_joins 120 = .ok (.iinc 4 (-1), 3) := by decide +kernel
theorem dM_joins_123 : decode cM_joins 123 = .ok (.goto (-60), 3) := by decide +kernel
theorem dM_joins_126 : decode cM_joins 126 = .ok (.iload_n 3, 1) := by decide +kernel
theorem dM_joins_127 : decode cM_joins 127 = .ok (.ireturn, 1) := by decide +kernel
theorem dM_starter_0 : decode cM_starter 0 = .ok (.iload_n 1, 1) := by decide +kernel
theorem dM_starter_1 : decode cM_starter 1 = .ok (.iconst 1, 1) := by decide +kernel
theorem dM_starter_2 : decode cM_starter 2 = .ok (.isub, 1) := by decide +kernel
theorem dM_starter_3 : decode cM_starter 3 = .ok (.istore_n 2, 1) := by decide +kernel
theorem dM_starter_4 : decode cM_starter 4 = .ok (.iload_n 2, 1) := by decide +kernel
theorem dM_starter_5 : decode cM_starter 5 = .ok (.ifCond .lt 22, 3) := by decide +kernel
theorem dM_starter_8 : decode cM_starter 8 = .ok (.aload_n 0, 1) := by decide +kernel
theorem dM_starter_9 : decode cM_starter 9 = .ok (.aload_n 0, 1) := by decide +kernel
theorem dM_starter_10 : decode cM_starter 10 = .ok (.getfield 35, 3) := by decide +kernel
theorem dM_starter_13 : decode cM_starter 13 = .ok (.iload_n 2, 1) := by decide +kernel
theorem dM_starter_14 : decode cM_starter 14 = .ok (.iaload, 1) := by decide +kernel
theorem dM_starter_15 : decode cM_starter 15 = .ok (.invokevirtual 91, 3) := by decide +kernel
theorem dM_starter_18 : decode cM_starter 18 = .ok (.ifCond .le 9, 3) := by decide +kernel
theorem dM_starter_21 : decode cM_starter 21 = .ok (.iinc 2 (-1), 3) := by decide +kernel
theorem dM_starter_24 : decode cM_starter 24 = .ok (.goto (-20), 3) := by decide +kernel
theorem dM_starter_27 : decode cM_starter 27 = .ok (.iload_n 2, 1) := by decide +kernel
theorem dM_starter_28 : decode cM_starter 28 = .ok (.ireturn, 1) := by decide +kernel
theorem dM_isFree_0 : decode cM_isFree 0 = .ok (.iconst 1, 1) := by decide +kernel
theorem dM_isFree_1 : decode cM_isFree 1 = .ok (.istore_n 3, 1) := by decide +kernel
theorem dM_isFree_2 : decode cM_isFree 2 = .ok (.iload_n 1, 1) := by decide +kernel
theorem dM_isFree_3 : decode cM_isFree 3 = .ok (.iconst 1, 1) := by decide +kernel
theorem dM_isFree_4 : decode cM_isFree 4 = .ok (.iadd, 1) := by decide +kernel
theorem dM_isFree_5 : decode cM_isFree 5 = .ok (.istore 4, 2) := by decide +kernel
theorem dM_isFree_7 : decode cM_isFree 7 = .ok (.iload 4, 2) := by decide +kernel
theorem dM_isFree_9 : decode cM_isFree 9 = .ok (.iload_n 2, 1) := by decide +kernel
theorem dM_isFree_10 : decode cM_isFree 10 = .ok (.if_icmp .ge 43, 3) := by decide +kernel
theorem dM_isFree_13 : decode cM_isFree 13 = .ok (.iload_n 3, 1) := by decide +kernel
theorem dM_isFree_14 : decode cM_isFree 14 = .ok (.ifCond .eq 31, 3) := by decide +kernel
theorem dM_isFree_17 : decode cM_isFree 17 = .ok (.aload_n 0, 1) := by decide +kernel
theorem dM_isFree_18 : decode cM_isFree 18 = .ok (.aload_n 0, 1) := by decide +kernel
theorem dM_isFree_19 : decode cM_isFree 19 = .ok (.getfield 35, 3) := by decide +kernel
theorem dM_isFree_22 : decode cM_isFree 22 = .ok (.iload 4, 2) := by decide +kernel
theorem dM_isFree_24 : decode cM_isFree 24 = .ok (.iaload, 1) := by decide +kernel
theorem dM_isFree_25 : decode cM_isFree 25 = .ok (.invokevirtual 91, 3) := by decide +kernel
theorem dM_isFree_28 : decode cM_isFree 28 = .ok (.aload_n 0, 1) := by decide +kernel
theorem dM_isFree_29 : decode cM_isFree 29 = .ok (.aload_n 0, 1) := by decide +kernel
theorem dM_isFree_30 : decode cM_isFree 30 = .ok (.getfield 35, 3) := by decide +kernel
theorem dM_isFree_33 : decode cM_isFree 33 = .ok (.iload_n 2, 1) := by decide +kernel
theorem dM_isFree_34 : decode cM_isFree 34 = .ok (.iaload, 1) := by decide +kernel
theorem dM_isFree_35 : decode cM_isFree 35 = .ok (.invokevirtual 91, 3) := by decide +kernel
theorem dM_isFree_38 : decode cM_isFree 38 = .ok (.if_icmp .ge 7, 3) := by decide +kernel
theorem dM_isFree_41 : decode cM_isFree 41 = .ok (.iconst 1, 1) := by decide +kernel
theorem dM_isFree_42 : decode cM_isFree 42 = .ok (.goto 4, 3) := by decide +kernel
theorem dM_isFree_45 : decode cM_isFree 45 = .ok (.iconst 0, 1) := by decide +kernel
theorem dM_isFree_46 : decode cM_isFree 46 = .ok (.istore_n 3, 1) := by decide +kernel
theorem dM_isFree_47 : decode cM_isFree 47 = .ok (.iinc 4 1, 3) := by decide +kernel
theorem dM_isFree_50 : decode cM_isFree 50 = .ok (.goto (-43), 3) := by decide +kernel
theorem dM_isFree_53 : decode cM_isFree 53 = .ok (.iload_n 3, 1) := by decide +kernel
theorem dM_isFree_54 : decode cM_isFree 54 = .ok (.ireturn, 1) := by decide +kernel
theorem dM_joinForm_0 : decode cM_joinForm 0 = .ok (.iconst 1, 1) := by decide +kernel
theorem dM_joinForm_1 : decode cM_joinForm 1 = .ok (.istore_n 1, 1) := by decide +kernel
theorem dM_joinForm_2 : decode cM_joinForm 2 = .ok (.iload_n 1, 1) := by decide +kernel
theorem dM_joinForm_3 : decode cM_joinForm 3 = .ok (.aload_n 0, 1) := by decide +kernel
theorem dM_joinForm_4 : decode cM_joinForm 4 = .ok (.getfield 84, 3) := by decide +kernel
theorem dM_joinForm_7 : decode cM_joinForm 7 = .ok (.if_icmp .ge 107, 3) := by decide +kernel
theorem dM_joinForm_10 : decode cM_joinForm 10 = .ok (.aload_n 0, 1) := by decide +kernel
theorem dM_joinForm_11 : decode cM_joinForm 11 = .ok (.iload_n 1, 1) := by decide +kernel
theorem dM_joinForm_12 : decode cM_joinForm 12 = .ok (.invokevirtual 114, 3) := by decide +kernel
theorem dM_joinForm_15 : decode cM_joinForm 15 = .ok (.istore_n 2, 1) := by decide +kernel
theorem dM_joinForm_16 : decode cM_joinForm 16 = .ok (.iload_n 2, 1) := by decide +kernel
theorem dM_joinForm_17 : decode cM_joinForm 17 = .ok (.ifCond .ge 7, 3) := by decide +kernel
theorem dM_joinForm_20 : decode cM_joinForm 20 = .ok (.iconst (-1), 1) := by decide +kernel
theorem dM_joinForm_21 : decode cM_joinForm 21 = .ok (.goto 19, 3) := by decide +kernel
theorem dM_joinForm_24 : decode cM_joinForm 24 = .ok (.aload_n 0, 1) := by decide +kernel
theorem dM_joinForm_25 : decode cM_joinForm 25 = .ok (.aload_n 0, 1) := by decide +kernel
theorem dM_joinForm_26 : decode cM_joinForm 26 = .ok (.getfield 35, 3) := by decide +kernel
theorem dM_joinForm_29 : decode cM_joinForm 29 = .ok (.iload_n 2, 1) := by decide +kernel
theorem dM_joinForm_30 : decode cM_joinForm 30 = .ok (.iaload, 1) := by decide +kernel
theorem dM_joinForm_31 : decode cM_joinForm 31 = .ok (.aload_n 0, 1) := by decide +kernel
theorem dM_joinForm_32 : decode cM_joinForm 32 = .ok (.getfield 35, 3) := by decide +kernel
theorem dM_joinForm_35 : decode cM_joinForm 35 = .ok (.iload_n 1, 1) := by decide +kernel
theorem dM_joinForm_36 : decode cM_joinForm 36 = .ok (.iaload, 1) := by decide +kernel
theorem dM_joinForm_37 : decode cM_joinForm 37 = .ok (.invokevirtual 117, 3) := by decide +kernel
theorem dM_joinForm_40 : decode cM_joinForm 40 = .ok (.istore_n 3, 1) := by decide +kernel
theorem dM_joinForm_41 : decode cM_joinForm 41 = .ok (.iload_n 3, 1) := by decide +kernel
theorem dM_joinForm_42 : decode cM_joinForm 42 = .ok (.ifCond .lt 66, 3) := by decide +kernel
theorem dM_joinForm_45 : decode cM_joinForm 45 = .ok (.aload_n 0, 1) := by decide +kernel
theorem dM_joinForm_46 : decode cM_joinForm 46 = .ok (.iload_n 2, 1) := by decide +kernel
theorem dM_joinForm_47 : decode cM_joinForm 47 = .ok (.iload_n 1, 1) := by decide +kernel
theorem dM_joinForm_48 : decode cM_joinForm 48 = .ok (.invokevirtual 120, 3) := by decide +kernel
theorem dM_joinForm_51 : decode cM_joinForm 51 = .ok (.ifCond .eq 57, 3) := by decide +kernel
theorem dM_joinForm_54 : decode cM_joinForm 54 = .ok (.aload_n 0, 1) := by decide +kernel
theorem dM_joinForm_55 : decode cM_joinForm 55 = .ok (.getfield 35, 3) := by decide +kernel
theorem dM_joinForm_58 : decode cM_joinForm 58 = .ok (.iload_n 2, 1) := by decide +kernel
theorem dM_joinForm_59 : decode cM_joinForm 59 = .ok (.iload_n 3, 1) := by decide +kernel
theorem dM_joinForm_60 : decode cM_joinForm 60 = .ok (.iastore, 1) := by decide +kernel
theorem dM_joinForm_61 : decode cM_joinForm 61 = .ok (.aload_n 0, 1) := by decide +kernel
theorem dM_joinForm_62 : decode cM_joinForm 62 = .ok (.dup, 1) := by decide +kernel
theorem dM_joinForm_63 : decode cM_joinForm 63 = .ok (.getfield 84, 3) := by decide +kernel
theorem dM_joinForm_66 : decode cM_joinForm 66 = .ok (.iconst 1, 1) := by decide +kernel
theorem dM_joinForm_67 : decode cM_joinForm 67 = .ok (.isub, 1) := by decide +kernel
theorem dM_joinForm_68 : decode cM_joinForm 68 = .ok (.putfield 84, 3) := by decide +kernel
theorem dM_joinForm_71 : decode cM_joinForm 71 = .ok (.iload_n 1, 1) := by decide +kernel
theorem dM_joinForm_72 : decode cM_joinForm 72 = .ok (.istore 4, 2) := by decide +kernel
theorem dM_joinForm_74 : decode cM_joinForm 74 = .ok (.iload 4, 2) := by decide +kernel
theorem dM_joinForm_76 : decode cM_joinForm 76 = .ok (.aload_n 0, 1) := by decide +kernel
theorem dM_joinForm_77 : decode cM_joinForm 77 = .ok (.getfield 84, 3) := by decide +kernel
theorem dM_joinForm_80 : decode cM_joinForm 80 = .ok (.if_icmp .ge 25, 3) := by decide +kernel
theorem dM_joinForm_83 : decode cM_joinForm 83 = .ok (.aload_n 0, 1) := by decide +kernel
theorem dM_joinForm_84 : decode cM_joinForm 84 = .ok (.getfield 35, 3) := by decide +kernel
theorem dM_joinForm_87 : decode cM_joinForm 87 = .ok (.iload 4, 2) := by decide +kernel
theorem dM_joinForm_89 : decode cM_joinForm 89 = .ok (.aload_n 0, 1) := by decide +kernel
theorem dM_joinForm_90 : decode cM_joinForm 90 = .ok (.getfield 35, 3) := by decide +kernel
theorem dM_joinForm_93 : decode cM_joinForm 93 = .ok (.iload 4, 2) := by decide +kernel
theorem dM_joinForm_95 : decode cM_joinForm 95 = .ok (.iconst 1, 1) := by decide +kernel
theorem dM_joinForm_96 : decode cM_joinForm 96 = .ok (.iadd, 1) := by decide +kernel
theorem dM_joinForm_97 : decode cM_joinForm 97 = .ok (.iaload, 1) := by decide +kernel
theorem dM_joinForm_98 : decode cM_joinForm 98 = .ok (.iastore, 1) := by decide +kernel
theorem dM_joinForm_99 : decode cM_joinForm 99 = .ok (.iinc 4 1, 3) := by decide +kernel
theorem dM_joinForm_102 : decode cM_joinForm 102 = .ok (.goto (-28), 3) := by decide +kernel
theorem dM_joinForm_105 : decode cM_joinForm 105 = .ok (.goto 6, 3) := by decide +kernel
theorem dM_joinForm_108 : decode cM_joinForm 108 = .ok (.iinc 1 1, 3) := by decide +kernel
theorem dM_joinForm_111 : decode cM_joinForm 111 = .ok (.goto (-109), 3) := by decide +kernel
theorem dM_joinForm_114 : decode cM_joinForm 114 = .ok (.return_, 1) := by decide +kernel
theorem dM_bring_0 : decode cM_bring 0 = .ok (.aload_n 0, 1) := by decide +kernel
theorem dM_bring_1 : decode cM_bring 1 = .ok (.invokevirtual 123, 3) := by decide +kernel
theorem dM_bring_4 : decode cM_bring 4 = .ok (.iload_n 1, 1) := by decide +kernel
theorem dM_bring_5 : decode cM_bring 5 = .ok (.ifCond .eq 7, 3) := by decide +kernel
theorem dM_bring_8 : decode cM_bring 8 = .ok (.aload_n 0, 1) := by decide +kernel
theorem dM_bring_9 : decode cM_bring 9 = .ok (.invokevirtual 126, 3) := by decide +kernel
theorem dM_bring_12 : decode cM_bring 12 = .ok (.aload_n 0, 1) := by decide +kernel
theorem dM_bring_13 : decode cM_bring 13 = .ok (.aload_n 0, 1) := by decide +kernel
theorem dM_bring_14 : decode cM_bring 14 = .ok (.getfield 84, 3) := by decide +kernel
theorem dM_bring_17 : decode cM_bring 17 = .ok (.bipush 40, 2) := by decide +kernel
theorem dM_bring_19 : decode cM_bring 19 = .ok (.if_icmp .le 7, 3) := by decide +kernel
theorem dM_bring_22 : decode cM_bring 22 = .ok (.iconst 1, 1) := by decide +kernel
theorem dM_bring_23 : decode cM_bring 23 = .ok (.goto 4, 3) := by decide +kernel
theorem dM_bring_26 : decode cM_bring 26 = .ok (.iconst 0, 1) := by decide +kernel
theorem dM_bring_27 : decode cM_bring 27 = .ok (.putfield 65, 3) := by decide +kernel
theorem dM_bring_30 : decode cM_bring 30 = .ok (.aload_n 0, 1) := by decide +kernel
theorem dM_bring_31 : decode cM_bring 31 = .ok (.getfield 65, 3) := by decide +kernel
theorem dM_bring_34 : decode cM_bring 34 = .ok (.ifCond .eq 5, 3) := by decide +kernel
theorem dM_bring_37 : decode cM_bring 37 = .ok (.iconst 0, 1) := by decide +kernel
theorem dM_bring_38 : decode cM_bring 38 = .ok (.ireturn, 1) := by decide +kernel
theorem dM_bring_39 : decode cM_bring 39 = .ok (.aload_n 0, 1) := by decide +kernel
theorem dM_bring_40 : decode cM_bring 40 = .ok (.aload_n 0, 1) := by decide +kernel
theorem dM_bring_41 : decode cM_bring 41 = .ok (.getfield 84, 3) := by decide +kernel
theorem dM_bring_44 : decode cM_bring 44 = .ok (.putfield 77, 3) := by decide +kernel
theorem dM_bring_47 : decode cM_bring 47 = .ok (.iconst 0, 1) := by decide +kernel
theorem dM_bring_48 : decode cM_bring 48 = .ok (.istore_n 2, 1) := by decide +kernel
theorem dM_bring_49 : decode cM_bring 49 = .ok (.iload_n 2, 1) := by decide +kernel
theorem dM_bring_50 : decode cM_bring 50 = .ok (.aload_n 0, 1) := by decide +kernel
theorem dM_bring_51 : decode cM_bring 51 = .ok (.getfield 77, 3) := by decide +kernel
theorem dM_bring_54 : decode cM_bring 54 = .ok (.if_icmp .ge 21, 3) := by decide +kernel
theorem dM_bring_57 : decode cM_bring 57 = .ok (.aload_n 0, 1) := by decide +kernel
theorem dM_bring_58 : decode cM_bring 58 = .ok (.getfield 26, 3) := by decide +kernel
theorem dM_bring_61 : decode cM_bring 61 = .ok (.iload_n 2, 1) := by decide +kernel
theorem dM_bring_62 : decode cM_bring 62 = .ok (.aload_n 0, 1) := by decide +kernel
theorem dM_bring_63 : decode cM_bring 63 = .ok (.getfield 35, 3) := by decide +kernel
theorem dM_bring_66 : decode cM_bring 66 = .ok (.iload_n 2, 1) := by decide +kernel
theorem dM_bring_67 : decode cM_bring 67 = .ok (.iaload, 1) := by decide +kernel
theorem dM_bring_68 : decode cM_bring 68 = .ok (.iastore, 1) := by decide +kernel
theorem dM_bring_69 : decode cM_bring 69 = .ok (.iinc 2 1, 3) := by decide +kernel
theorem dM_bring_72 : decode cM_bring 72 = .ok (.goto (-23), 3) := by decide +kernel
theorem dM_bring_75 : decode cM_bring 75 = .ok (.aload_n 0, 1) := by decide +kernel
theorem dM_bring_76 : decode cM_bring 76 = .ok (.getfield 77, 3) := by decide +kernel
theorem dM_bring_79 : decode cM_bring 79 = .ok (.ireturn, 1) := by decide +kernel
theorem dM_pictureBefore_0 : decode cM_pictureBefore 0 = .ok (.iload_n 1, 1) := by decide +kernel
theorem dM_pictureBefore_1 : decode cM_pictureBefore 1 = .ok (.iconst 1, 1) := by decide +kernel
theorem dM_pictureBefore_2 : decode cM_pictureBefore 2 = .ok (.isub, 1) := by decide +kernel
theorem dM_pictureBefore_3 : decode cM_pictureBefore 3 = .ok (.istore_n 2, 1) := by decide +kernel
theorem dM_pictureBefore_4 : decode cM_pictureBefore 4 = .ok (.iload_n 2, 1) := by decide +kernel
theorem dM_pictureBefore_5 : decode cM_pictureBefore 5 = .ok (.ifCond .lt 23, 3) := by decide +kernel
theorem dM_pictureBefore_8 : decode cM_pictureBefore 8 = .ok (.aload_n 0, 1) := by decide +kernel
theorem dM_pictureBefore_9 : decode cM_pictureBefore 9 = .ok (.aload_n 0, 1) := by decide +kernel
theorem dM_pictureBefore_10 : decode cM_pictureBefore 10 = .ok (.getfield 26, 3) := by decide +kernel
theorem dM_pictureBefore_13 : decode cM_pictureBefore 13 = .ok (.iload_n 2, 1) := by decide +kernel
theorem dM_pictureBefore_14 : decode cM_pictureBefore 14 = .ok (.iaload, 1) := by decide +kernel
theorem dM_pictureBefore_15 : decode cM_pictureBefore 15 = .ok (.invokevirtual 129, 3) := by decide +kernel
theorem dM_pictureBefore_18 : decode cM_pictureBefore 18 = .ok (.iconst 4, 1) := by decide +kernel
theorem dM_pictureBefore_19 : decode cM_pictureBefore 19 = .ok (.if_icmp .ne 9, 3) := by decide +kernel
theorem dM_pictureBefore_22 : decode cM_pictureBefore 22 = .ok (.iinc 2 (-1), 3) := by decide +kernel
theorem dM_pictureBefore_25 : decode cM_pictureBefore 25 = .ok (.goto (-21), 3) := by decide +kernel
theorem dM_pictureBefore_28 : decode cM_pictureBefore 28 = .ok (.iload_n 2, 1) := by decide +kernel
theorem dM_pictureBefore_29 : decode cM_pictureBefore 29 = .ok (.ifCond .lt 22, 3) := by decide +kernel
theorem dM_pictureBefore_32 : decode cM_pictureBefore 32 = .ok (.aload_n 0, 1) := by decide +kernel
theorem dM_pictureBefore_33 : decode cM_pictureBefore 33 = .ok (.aload_n 0, 1) := by decide +kernel
theorem dM_pictureBefore_34 : decode cM_pictureBefore 34 = .ok (.getfield 26, 3) := by decide +kernel
theorem dM_pictureBefore_37 : decode cM_pictureBefore 37 = .ok (.iload_n 2, 1) := by decide +kernel
theorem dM_pictureBefore_38 : decode cM_pictureBefore 38 = .ok (.iaload, 1) := by decide +kernel
theorem dM_pictureBefore_39 : decode cM_pictureBefore 39 = .ok (.invokevirtual 129, 3) := by decide +kernel
theorem dM_pictureBefore_42 : decode cM_pictureBefore 42 = .ok (.bipush 9, 2) := by decide +kernel
theorem dM_pictureBefore_44 : decode cM_pictureBefore 44 = .ok (.if_icmp .ne 7, 3) := by decide +kernel
theorem dM_pictureBefore_47 : decode cM_pictureBefore 47 = .ok (.iconst 1, 1) := by decide +kernel
theorem dM_pictureBefore_48 : decode cM_pictureBefore 48 = .ok (.goto 4, 3) := by decide +kernel
theorem dM_pictureBefore_51 : decode cM_pictureBefore 51 = .ok (.iconst 0, 1) := by decide +kernel
theorem dM_pictureBefore_52 : decode cM_pictureBefore 52 = .ok (.ireturn, 1) := by decide +kernel
theorem dM_oddRegions_0 : decode cM_oddRegions 0 = .ok (.iconst 0, 1) := by decide +kernel
theorem dM_oddRegions_1 : decode cM_oddRegions 1 = .ok (.istore_n 2, 1) := by decide +kernel
theorem dM_oddRegions_2 : decode cM_oddRegions 2 = .ok (.iload_n 1, 1) := by decide +kernel
theorem dM_oddRegions_3 : decode cM_oddRegions 3 = .ok (.iload_n 2, 1) := by decide +kernel
theorem dM_oddRegions_4 : decode cM_oddRegions 4 = .ok (.isub, 1) := by decide +kernel
theorem dM_oddRegions_5 : decode cM_oddRegions 5 = .ok (.ifCond .lt 26, 3) := by decide +kernel
theorem dM_oddRegions_8 : decode cM_oddRegions 8 = .ok (.aload_n 0, 1) := by decide +kernel
theorem dM_oddRegions_9 : decode cM_oddRegions 9 = .ok (.aload_n 0, 1) := by decide +kernel
theorem dM_oddRegions_10 : decode cM_oddRegions 10 = .ok (.getfield 26, 3) := by decide +kernel
theorem dM_oddRegions_13 : decode cM_oddRegions 13 = .ok (.iload_n 1, 1) := by decide +kernel
theorem dM_oddRegions_14 : decode cM_oddRegions 14 = .ok (.iload_n 2, 1) := by decide +kernel
theorem dM_oddRegions_15 : decode cM_oddRegions 15 = .ok (.isub, 1) := by decide +kernel
theorem dM_oddRegions_16 : decode cM_oddRegions 16 = .ok (.iaload, 1) := by decide +kernel
theorem dM_oddRegions_17 : decode cM_oddRegions 17 = .ok (.invokevirtual 129, 3) := by decide +kernel
theorem dM_oddRegions_20 : decode cM_oddRegions 20 = .ok (.bipush 6, 2) := by decide +kernel
theorem dM_oddRegions_22 : decode cM_oddRegions 22 = .ok (.if_icmp .ne 9, 3) := by decide +kernel
theorem dM_oddRegions_25 : decode cM_oddRegions 25 = .ok (.iinc 2 1, 3) := by decide +kernel
theorem dM_oddRegions_28 : decode cM_oddRegions 28 = .ok (.goto (-26), 3) := by decide +kernel
theorem dM_oddRegions_31 : decode cM_oddRegions 31 = .ok (.iload_n 2, 1) := by decide +kernel
theorem dM_oddRegions_32 : decode cM_oddRegions 32 = .ok (.iconst 2, 1) := by decide +kernel
theorem dM_oddRegions_33 : decode cM_oddRegions 33 = .ok (.irem, 1) := by decide +kernel
theorem dM_oddRegions_34 : decode cM_oddRegions 34 = .ok (.iconst 1, 1) := by decide +kernel
theorem dM_oddRegions_35 : decode cM_oddRegions 35 = .ok (.if_icmp .ne 7, 3) := by decide +kernel
theorem dM_oddRegions_38 : decode cM_oddRegions 38 = .ok (.iconst 1, 1) := by decide +kernel
theorem dM_oddRegions_39 : decode cM_oddRegions 39 = .ok (.goto 4, 3) := by decide +kernel
theorem dM_oddRegions_42 : decode cM_oddRegions 42 = .ok (.iconst 0, 1) := by decide +kernel
theorem dM_oddRegions_43 : decode cM_oddRegions 43 = .ok (.ireturn, 1) := by decide +kernel
theorem dM_syllabic_0 : decode cM_syllabic 0 = .ok (.aload_n 0, 1) := by decide +kernel
theorem dM_syllabic_1 : decode cM_syllabic 1 = .ok (.iload_n 1, 1) := by decide +kernel
theorem dM_syllabic_2 : decode cM_syllabic 2 = .ok (.invokevirtual 101, 3) := by decide +kernel
theorem dM_syllabic_5 : decode cM_syllabic 5 = .ok (.ifCond .eq 25, 3) := by decide +kernel
theorem dM_syllabic_8 : decode cM_syllabic 8 = .ok (.aload_n 0, 1) := by decide +kernel
theorem dM_syllabic_9 : decode cM_syllabic 9 = .ok (.iload_n 2, 1) := by decide +kernel
theorem dM_syllabic_10 : decode cM_syllabic 10 = .ok (.invokevirtual 101, 3) := by decide +kernel
theorem dM_syllabic_13 : decode cM_syllabic 13 = .ok (.ifCond .ne 73, 3) := by decide +kernel
theorem dM_syllabic_16 : decode cM_syllabic 16 = .ok (.aload_n 0, 1) := by decide +kernel
theorem dM_syllabic_17 : decode cM_syllabic 17 = .ok (.iload_n 2, 1) := by decide +kernel
theorem dM_syllabic_18 : decode cM_syllabic 18 = .ok (.invokevirtual 105, 3) := by decide +kernel
theorem dM_syllabic_21 : decode cM_syllabic 21 = .ok (.ifCond .ne 65, 3) := by decide +kernel
theorem dM_syllabic_24 : decode cM_syllabic 24 = .ok (.iload_n 2, 1) := by decide +kernel
theorem dM_syllabic_25 : decode cM_syllabic 25 = .ok (.bipush 47, 2) := by decide +kernel
theorem dM_syllabic_27 : decode cM_syllabic 27 = .ok (.if_icmp .gt 59, 3) := by decide +kernel
theorem dM_syllabic_30 : decode cM_syllabic 30 = .ok (.aload_n 0, 1) := by decide +kernel
theorem dM_syllabic_31 : decode cM_syllabic 31 = .ok (.iload_n 1, 1) := by decide +kernel
theorem dM_syllabic_32 : decode cM_syllabic 32 = .ok (.invokevirtual 105, 3) := by decide +kernel
theorem dM_syllabic_35 : decode cM_syllabic 35 = .ok (.ifCond .ne 11, 3) := by decide +kernel
theorem dM_syllabic_38 : decode cM_syllabic 38 = .ok (.aload_n 0, 1) := by decide +kernel
theorem dM_syllabic_39 : decode cM_syllabic 39 = .ok (.iload_n 1, 1) := by decide +kernel
theorem dM_syllabic_40 : decode cM_syllabic 40 = .ok (.invokevirtual 108, 3) := by decide +kernel
theorem dM_syllabic_43 : decode cM_syllabic 43 = .ok (.ifCond .eq 19, 3) := by decide +kernel
theorem dM_syllabic_46 : decode cM_syllabic 46 = .ok (.aload_n 0, 1) := by decide +kernel
theorem dM_syllabic_47 : decode cM_syllabic 47 = .ok (.iload_n 2, 1) := by decide +kernel
theorem dM_syllabic_48 : decode cM_syllabic 48 = .ok (.invokevirtual 105, 3) := by decide +kernel
theorem dM_syllabic_51 : decode cM_syllabic 51 = .ok (.ifCond .ne 35, 3) := by decide +kernel
theorem dM_syllabic_54 : decode cM_syllabic 54 = .ok (.aload_n 0, 1) := by decide +kernel
theorem dM_syllabic_55 : decode cM_syllabic 55 = .ok (.iload_n 2, 1) := by decide +kernel
theorem dM_syllabic_56 : decode cM_syllabic 56 = .ok (.invokevirtual 111, 3) := by decide +kernel
theorem dM_syllabic_59 : decode cM_syllabic 59 = .ok (.ifCond .ne 27, 3) := by decide +kernel
theorem dM_syllabic_62 : decode cM_syllabic 62 = .ok (.aload_n 0, 1) := by decide +kernel
theorem dM_syllabic_63 : decode cM_syllabic 63 = .ok (.iload_n 1, 1) := by decide +kernel
theorem dM_syllabic_64 : decode cM_syllabic 64 = .ok (.invokevirtual 111, 3) := by decide +kernel
theorem dM_syllabic_67 : decode cM_syllabic 67 = .ok (.ifCond .ne 11, 3) := by decide +kernel
theorem dM_syllabic_70 : decode cM_syllabic 70 = .ok (.aload_n 0, 1) := by decide +kernel
theorem dM_syllabic_71 : decode cM_syllabic 71 = .ok (.iload_n 1, 1) := by decide +kernel
theorem dM_syllabic_72 : decode cM_syllabic 72 = .ok (.invokevirtual 132, 3) := by decide +kernel
theorem dM_syllabic_75 : decode cM_syllabic 75 = .ok (.ifCond .eq 15, 3) := by decide +kernel
theorem dM_syllabic_78 : decode cM_syllabic 78 = .ok (.aload_n 0, 1) := by decide +kernel
theorem dM_syllabic_79 : decode cM_syllabic 79 = .ok (.iload_n 2, 1) := by decide +kernel
theorem dM_syllabic_80 : decode cM_syllabic 80 = .ok (.invokevirtual 111, 3) := by decide +kernel
theorem dM_syllabic_83 : decode cM_syllabic 83 = .ok (.ifCond .eq 7, 3) := by decide +kernel
theorem dM_syllabic_86 : decode cM_syllabic 86 = .ok (.iconst 1, 1) := by decide +kernel
theorem dM_syllabic_87 : decode cM_syllabic 87 = .ok (.goto 4, 3) := by decide +kernel
theorem dM_syllabic_90 : decode cM_syllabic 90 = .ok (.iconst 0, 1) := by decide +kernel
theorem dM_syllabic_91 : decode cM_syllabic 91 = .ok (.ireturn, 1) := by decide +kernel
theorem dM_ends_0 : decode cM_ends 0 = .ok (.aload_n 0, 1) := by decide +kernel
theorem dM_ends_1 : decode cM_ends 1 = .ok (.aload_n 0, 1) := by decide +kernel
theorem dM_ends_2 : decode cM_ends 2 = .ok (.getfield 26, 3) := by decide +kernel
theorem dM_ends_5 : decode cM_ends 5 = .ok (.iload_n 1, 1) := by decide +kernel
theorem dM_ends_6 : decode cM_ends 6 = .ok (.iconst 1, 1) := by decide +kernel
theorem dM_ends_7 : decode cM_ends 7 = .ok (.isub, 1) := by decide +kernel
theorem dM_ends_8 : decode cM_ends 8 = .ok (.iaload, 1) := by decide +kernel
theorem dM_ends_9 : decode cM_ends 9 = .ok (.invokevirtual 129, 3) := by decide +kernel
theorem dM_ends_12 : decode cM_ends 12 = .ok (.istore_n 2, 1) := by decide +kernel
theorem dM_ends_13 : decode cM_ends 13 = .ok (.aload_n 0, 1) := by decide +kernel
theorem dM_ends_14 : decode cM_ends 14 = .ok (.aload_n 0, 1) := by decide +kernel
theorem dM_ends_15 : decode cM_ends 15 = .ok (.getfield 26, 3) := by decide +kernel
theorem dM_ends_18 : decode cM_ends 18 = .ok (.iload_n 1, 1) := by decide +kernel
theorem dM_ends_19 : decode cM_ends 19 = .ok (.iaload, 1) := by decide +kernel
theorem dM_ends_20 : decode cM_ends 20 = .ok (.invokevirtual 129, 3) := by decide +kernel
theorem dM_ends_23 : decode cM_ends 23 = .ok (.istore_n 3, 1) := by decide +kernel
theorem dM_ends_24 : decode cM_ends 24 = .ok (.iload_n 2, 1) := by decide +kernel
theorem dM_ends_25 : decode cM_ends 25 = .ok (.iconst 1, 1) := by decide +kernel
theorem dM_ends_26 : decode cM_ends 26 = .ok (.if_icmp .ne 10, 3) := by decide +kernel
theorem dM_ends_29 : decode cM_ends 29 = .ok (.iload_n 3, 1) := by decide +kernel
theorem dM_ends_30 : decode cM_ends 30 = .ok (.iconst 2, 1) := by decide +kernel
theorem dM_ends_31 : decode cM_ends 31 = .ok (.if_icmp .ne 5, 3) := by decide +kernel
theorem dM_ends_34 : decode cM_ends 34 = .ok (.iconst 0, 1) := by decide +kernel
theorem dM_ends_35 : decode cM_ends 35 = .ok (.ireturn, 1) := by decide +kernel
theorem dM_ends_36 : decode cM_ends 36 = .ok (.iload_n 2, 1) := by decide +kernel
theorem dM_ends_37 : decode cM_ends 37 = .ok (.ifCond .le 8, 3) := by decide +kernel
theorem dM_ends_40 : decode cM_ends 40 = .ok (.iload_n 2, 1) := by decide +kernel
theorem dM_ends_41 : decode cM_ends 41 = .ok (.iconst 4, 1) := by decide +kernel
theorem dM_ends_42 : decode cM_ends 42 = .ok (.if_icmp .lt 12, 3) := by decide +kernel
theorem dM_ends_45 : decode cM_ends 45 = .ok (.iload_n 3, 1) := by decide +kernel
theorem dM_ends_46 : decode cM_ends 46 = .ok (.ifCond .le 10, 3) := by decide +kernel
theorem dM_ends_49 : decode cM_ends 49 = .ok (.iload_n 3, 1) := by decide +kernel
theorem dM_ends_50 : decode cM_ends 50 = .ok (.iconst 4, 1) := by decide +kernel
theorem dM_ends_51 : decode cM_ends 51 = .ok (.if_icmp .ge 5, 3) := by decide +kernel
theorem dM_ends_54 : decode cM_ends 54 = .ok (.iconst 1, 1) := by decide +kernel
theorem dM_ends_55 : decode cM_ends 55 = .ok (.ireturn, 1) := by decide +kernel
theorem dM_ends_56 : decode cM_ends 56 = .ok (.aload_n 0, 1) := by decide +kernel
theorem dM_ends_57 : decode cM_ends 57 = .ok (.aload_n 0, 1) := by decide +kernel
theorem dM_ends_58 : decode cM_ends 58 = .ok (.getfield 26, 3) := by decide +kernel
theorem dM_ends_61 : decode cM_ends 61 = .ok (.iload_n 1, 1) := by decide +kernel
theorem dM_ends_62 : decode cM_ends 62 = .ok (.iconst 1, 1) := by decide +kernel
theorem dM_ends_63 : decode cM_ends 63 = .ok (.isub, 1) := by decide +kernel
theorem dM_ends_64 : decode cM_ends 64 = .ok (.iaload, 1) := by decide +kernel
theorem dM_ends_65 : decode cM_ends 65 = .ok (.aload_n 0, 1) := by decide +kernel
theorem dM_ends_66 : decode cM_ends 66 = .ok (.getfield 26, 3) := by decide +kernel
theorem dM_ends_69 : decode cM_ends 69 = .ok (.iload_n 1, 1) := by decide +kernel
theorem dM_ends_70 : decode cM_ends 70 = .ok (.iaload, 1) := by decide +kernel
theorem dM_ends_71 : decode cM_ends 71 = .ok (.invokevirtual 135, 3) := by decide +kernel
theorem dM_ends_74 : decode cM_ends 74 = .ok (.ifCond .ne 68, 3) := by decide +kernel
theorem dM_ends_77 : decode cM_ends 77 = .ok (.iload_n 3, 1) := by decide +kernel
theorem dM_ends_78 : decode cM_ends 78 = .ok (.iconst 4, 1) := by decide +kernel
theorem dM_ends_79 : decode cM_ends 79 = .ok (.if_icmp .eq 63, 3) := by decide +kernel
theorem dM_ends_82 : decode cM_ends 82 = .ok (.iload_n 3, 1) := by decide +kernel
theorem dM_ends_83 : decode cM_ends 83 = .ok (.iconst 5, 1) := by decide +kernel
theorem dM_ends_84 : decode cM_ends 84 = .ok (.if_icmp .eq 58, 3) := by decide +kernel
theorem dM_ends_87 : decode cM_ends 87 = .ok (.iload_n 3, 1) := by decide +kernel
theorem dM_ends_88 : decode cM_ends 88 = .ok (.bipush 8, 2) := by decide +kernel
theorem dM_ends_90 : decode cM_ends 90 = .ok (.if_icmp .eq 52, 3) := by decide +kernel
theorem dM_ends_93 : decode cM_ends 93 = .ok (.iload_n 2, 1) := by decide +kernel
theorem dM_ends_94 : decode cM_ends 94 = .ok (.bipush 7, 2) := by decide +kernel
theorem dM_ends_96 : decode cM_ends 96 = .ok (.if_icmp .eq 46, 3) := by decide +kernel
theorem dM_ends_99 : decode cM_ends 99 = .ok (.iload_n 2, 1) := by decide +kernel
theorem dM_ends_100 : decode cM_ends 100 = .ok (.iconst 5, 1) := by decide +kernel
theorem dM_ends_101 : decode cM_ends 101 = .ok (.if_icmp .ne 19, 3) := by decide +kernel
theorem dM_ends_104 : decode cM_ends 104 = .ok (.iload_n 3, 1) := by decide +kernel
theorem dM_ends_105 : decode cM_ends 105 = .ok (.bipush 9, 2) := by decide +kernel
theorem dM_ends_107 : decode cM_ends 107 = .ok (.if_icmp .ne 13, 3) := by decide +kernel
theorem dM_ends_110 : decode cM_ends 110 = .ok (.aload_n 0, 1) := by decide +kernel
theorem dM_ends_111 : decode cM_ends 111 = .ok (.iload_n 1, 1) := by decide +kernel
theorem dM_ends_112 : decode cM_ends 112 = .ok (.iconst 1, 1) := by decide +kernel
theorem dM_ends_113 : decode cM_ends 113 = .ok (.isub, 1) := by decide +kernel
theorem dM_ends_114 : decode cM_ends 114 = .ok (.invokevirtual 138, 3) := by decide +kernel
theorem dM_ends_117 : decode cM_ends 117 = .ok (.ifCond .ne 25, 3) := by decide +kernel
theorem dM_ends_120 : decode cM_ends 120 = .ok (.iload_n 2, 1) := by decide +kernel
theorem dM_ends_121 : decode cM_ends 121 = .ok (.bipush 6, 2) := by decide +kernel
theorem dM_ends_123 : decode cM_ends 123 = .ok (.if_icmp .ne 23, 3) := by decide +kernel
theorem dM_ends_126 : decode cM_ends 126 = .ok (.iload_n 3, 1) := by decide +kernel
theorem dM_ends_127 : decode cM_ends 127 = .ok (.bipush 6, 2) := by decide +kernel
theorem dM_ends_129 : decode cM_ends 129 = .ok (.if_icmp .ne 17, 3) := by decide +kernel
theorem dM_ends_132 : decode cM_ends 132 = .ok (.aload_n 0, 1) := by decide +kernel
theorem dM_ends_133 : decode cM_ends 133 = .ok (.iload_n 1, 1) := by decide +kernel
theorem dM_ends_134 : decode cM_ends 134 = .ok (.iconst 1, 1) := by decide +kernel
theorem dM_ends_135 : decode cM_ends 135 = .ok (.isub, 1) := by decide +kernel
theorem dM_ends_136 : decode cM_ends 136 = .ok (.invokevirtual 141, 3) := by decide +kernel
theorem dM_ends_139 : decode cM_ends 139 = .ok (.ifCond .eq 7, 3) := by decide +kernel
theorem dM_ends_142 : decode cM_ends 142 = .ok (.iconst 1, 1) := by decide +kernel
theorem dM_ends_143 : decode cM_ends 143 = .ok (.goto 4, 3) := by decide +kernel
theorem dM_ends_146 : decode cM_ends 146 = .ok (.iconst 0, 1) := by decide +kernel
theorem dM_ends_147 : decode cM_ends 147 = .ok (.istore 4, 2) := by decide +kernel
theorem dM_ends_149 : decode cM_ends 149 = .ok (.iload 4, 2) := by decide +kernel
theorem dM_ends_151 : decode cM_ends 151 = .ok (.ifCond .ne 7, 3) := by decide +kernel
theorem dM_ends_154 : decode cM_ends 154 = .ok (.iconst 1, 1) := by decide +kernel
theorem dM_ends_155 : decode cM_ends 155 = .ok (.goto 4, 3) := by decide +kernel
theorem dM_ends_158 : decode cM_ends 158 = .ok (.iconst 0, 1) := by decide +kernel
theorem dM_ends_159 : decode cM_ends 159 = .ok (.ireturn, 1) := by decide +kernel
theorem dM_cluster_0 : decode cM_cluster 0 = .ok (.aload_n 0, 1) := by decide +kernel
theorem dM_cluster_1 : decode cM_cluster 1 = .ok (.aload_n 0, 1) := by decide +kernel
theorem dM_cluster_2 : decode cM_cluster 2 = .ok (.iload_n 1, 1) := by decide +kernel
theorem dM_cluster_3 : decode cM_cluster 3 = .ok (.aload_n 0, 1) := by decide +kernel
theorem dM_cluster_4 : decode cM_cluster 4 = .ok (.getfield 77, 3) := by decide +kernel
theorem dM_cluster_7 : decode cM_cluster 7 = .ok (.iconst 1, 1) := by decide +kernel
theorem dM_cluster_8 : decode cM_cluster 8 = .ok (.iadd, 1) := by decide +kernel
theorem dM_cluster_9 : decode cM_cluster 9 = .ok (.invokevirtual 80, 3) := by decide +kernel
theorem dM_cluster_12 : decode cM_cluster 12 = .ok (.ifCond .eq 7, 3) := by decide +kernel
theorem dM_cluster_15 : decode cM_cluster 15 = .ok (.iconst 1, 1) := by decide +kernel
theorem dM_cluster_16 : decode cM_cluster 16 = .ok (.goto 4, 3) := by decide +kernel
theorem dM_cluster_19 : decode cM_cluster 19 = .ok (.iconst 0, 1) := by decide +kernel
theorem dM_cluster_20 : decode cM_cluster 20 = .ok (.putfield 65, 3) := by decide +kernel
theorem dM_cluster_23 : decode cM_cluster 23 = .ok (.aload_n 0, 1) := by decide +kernel
theorem dM_cluster_24 : decode cM_cluster 24 = .ok (.getfield 65, 3) := by decide +kernel
theorem dM_cluster_27 : decode cM_cluster 27 = .ok (.ifCond .ne 27, 3) := by decide +kernel
theorem dM_cluster_30 : decode cM_cluster 30 = .ok (.iload_n 1, 1) := by decide +kernel
theorem dM_cluster_31 : decode cM_cluster 31 = .ok (.ifCond .eq 19, 3) := by decide +kernel
theorem dM_cluster_34 : decode cM_cluster 34 = .ok (.iload_n 1, 1) := by decide +kernel
theorem dM_cluster_35 : decode cM_cluster 35 = .ok (.aload_n 0, 1) := by decide +kernel
theorem dM_cluster_36 : decode cM_cluster 36 = .ok (.getfield 77, 3) := by decide +kernel
theorem dM_cluster_39 : decode cM_cluster 39 = .ok (.if_icmp .eq 11, 3) := by decide +kernel
theorem dM_cluster_42 : decode cM_cluster 42 = .ok (.aload_n 0, 1) := by decide +kernel
theorem dM_cluster_43 : decode cM_cluster 43 = .ok (.iload_n 1, 1) := by decide +kernel
theorem dM_cluster_44 : decode cM_cluster 44 = .ok (.invokevirtual 144, 3) := by decide +kernel
theorem dM_cluster_47 : decode cM_cluster 47 = .ok (.ifCond .eq 7, 3) := by decide +kernel
theorem dM_cluster_50 : decode cM_cluster 50 = .ok (.iconst 1, 1) := by decide +kernel
theorem dM_cluster_51 : decode cM_cluster 51 = .ok (.goto 4, 3) := by decide +kernel
theorem dM_cluster_54 : decode cM_cluster 54 = .ok (.iconst 0, 1) := by decide +kernel
theorem dM_cluster_55 : decode cM_cluster 55 = .ok (.ireturn, 1) := by decide +kernel
theorem dM_clusters_0 : decode cM_clusters 0 = .ok (.aload_n 0, 1) := by decide +kernel
theorem dM_clusters_1 : decode cM_clusters 1 = .ok (.iconst 0, 1) := by decide +kernel
theorem dM_clusters_2 : decode cM_clusters 2 = .ok (.putfield 65, 3) := by decide +kernel
theorem dM_clusters_5 : decode cM_clusters 5 = .ok (.aload_n 0, 1) := by decide +kernel
theorem dM_clusters_6 : decode cM_clusters 6 = .ok (.getfield 77, 3) := by decide +kernel
theorem dM_clusters_9 : decode cM_clusters 9 = .ok (.ifCond .le 7, 3) := by decide +kernel
theorem dM_clusters_12 : decode cM_clusters 12 = .ok (.iconst 1, 1) := by decide +kernel
theorem dM_clusters_13 : decode cM_clusters 13 = .ok (.goto 4, 3) := by decide +kernel
theorem dM_clusters_16 : decode cM_clusters 16 = .ok (.iconst 0, 1) := by decide +kernel
theorem dM_clusters_17 : decode cM_clusters 17 = .ok (.istore_n 1, 1) := by decide +kernel
theorem dM_clusters_18 : decode cM_clusters 18 = .ok (.iconst 1, 1) := by decide +kernel
theorem dM_clusters_19 : decode cM_clusters 19 = .ok (.istore_n 2, 1) := by decide +kernel
theorem dM_clusters_20 : decode cM_clusters 20 = .ok (.iload_n 2, 1) := by decide +kernel
theorem dM_clusters_21 : decode cM_clusters 21 = .ok (.aload_n 0, 1) := by decide +kernel
theorem dM_clusters_22 : decode cM_clusters 22 = .ok (.getfield 77, 3) := by decide +kernel
theorem dM_clusters_25 : decode cM_clusters 25 = .ok (.if_icmp .ge 25, 3) := by decide +kernel
theorem dM_clusters_28 : decode cM_clusters 28 = .ok (.iload_n 1, 1) := by decide +kernel
theorem dM_clusters_29 : decode cM_clusters 29 = .ok (.aload_n 0, 1) := by decide +kernel
theorem dM_clusters_30 : decode cM_clusters 30 = .ok (.iload_n 2, 1) := by decide +kernel
theorem dM_clusters_31 : decode cM_clusters 31 = .ok (.invokevirtual 144, 3) := by decide +kernel
theorem dM_clusters_34 : decode cM_clusters 34 = .ok (.ifCond .eq 7, 3) := by decide +kernel
theorem dM_clusters_37 : decode cM_clusters 37 = .ok (.iconst 1, 1) := by decide +kernel
theorem dM_clusters_38 : decode cM_clusters 38 = .ok (.goto 4, 3) := by decide +kernel
theorem dM_clusters_41 : decode cM_clusters 41 = .ok (.iconst 0, 1) := by decide +kernel
theorem dM_clusters_42 : decode cM_clusters 42 = .ok (.iadd, 1) := by decide +kernel
theorem dM_clusters_43 : decode cM_clusters 43 = .ok (.istore_n 1, 1) := by decide +kernel
theorem dM_clusters_44 : decode cM_clusters 44 = .ok (.iinc 2 1, 3) := by decide +kernel
theorem dM_clusters_47 : decode cM_clusters 47 = .ok (.goto (-27), 3) := by decide +kernel
theorem dM_clusters_50 : decode cM_clusters 50 = .ok (.iload_n 1, 1) := by decide +kernel
theorem dM_clusters_51 : decode cM_clusters 51 = .ok (.ireturn, 1) := by decide +kernel
theorem dM_classLines_0 : decode cM_classLines 0 = .ok (.iconst 0, 1) := by decide +kernel
theorem dM_classLines_1 : decode cM_classLines 1 = .ok (.istore_n 1, 1) := by decide +kernel
theorem dM_classLines_2 : decode cM_classLines 2 = .ok (.iload_n 1, 1) := by decide +kernel
theorem dM_classLines_3 : decode cM_classLines 3 = .ok (.aload_n 0, 1) := by decide +kernel
theorem dM_classLines_4 : decode cM_classLines 4 = .ok (.getfield 77, 3) := by decide +kernel
theorem dM_classLines_7 : decode cM_classLines 7 = .ok (.if_icmp .ge 118, 3) := by decide +kernel
theorem dM_classLines_10 : decode cM_classLines 10 = .ok (.aload_n 0, 1) := by decide +kernel
theorem dM_classLines_11 : decode cM_classLines 11 = .ok (.getfield 26, 3) := by decide +kernel
theorem dM_classLines_14 : decode cM_classLines 14 = .ok (.iload_n 1, 1) := by decide +kernel
theorem dM_classLines_15 : decode cM_classLines 15 = .ok (.iaload, 1) := by decide +kernel
theorem dM_classLines_16 : decode cM_classLines 16 = .ok (.bipush 40, 2) := by decide +kernel
theorem dM_classLines_18 : decode cM_classLines 18 = .ok (.if_icmp .ge 17, 3) := by decide +kernel
theorem dM_classLines_21 : decode cM_classLines 21 = .ok (.aload_n 0, 1) := by decide +kernel
theorem dM_classLines_22 : decode cM_classLines 22 = .ok (.aload_n 0, 1) := by decide +kernel
theorem dM_classLines_23 : decode cM_classLines 23 = .ok (.getfield 26, 3) := by decide +kernel
theorem dM_classLines_26 : decode cM_classLines 26 = .ok (.iload_n 1, 1) := by decide +kernel
theorem dM_classLines_27 : decode cM_classLines 27 = .ok (.iaload, 1) := by decide +kernel
theorem dM_classLines_28 : decode cM_classLines 28 = .ok (.iconst 2, 1) := by decide +kernel
theorem dM_classLines_29 : decode cM_classLines 29 = .ok (.invokevirtual 73, 3) := by decide +kernel
theorem dM_classLines_32 : decode cM_classLines 32 = .ok (.goto 5, 3) := by decide +kernel
theorem dM_classLines_35 : decode cM_classLines 35 = .ok (.bipush 10, 2) := by decide +kernel
theorem dM_classLines_37 : decode cM_classLines 37 = .ok (.istore_n 2, 1) := by decide +kernel
theorem dM_classLines_38 : decode cM_classLines 38 = .ok (.aload_n 0, 1) := by decide +kernel
theorem dM_classLines_39 : decode cM_classLines 39 = .ok (.getfield 53, 3) := by decide +kernel
theorem dM_classLines_42 : decode cM_classLines 42 = .ok (.iload_n 1, 1) := by decide +kernel
theorem dM_classLines_43 : decode cM_classLines 43 = .ok (.iload_n 2, 1) := by decide +kernel
theorem dM_classLines_44 : decode cM_classLines 44 = .ok (.bipush 11, 2) := by decide +kernel
theorem dM_classLines_46 : decode cM_classLines 46 = .ok (.if_icmp .ne 34, 3) := by decide +kernel
theorem dM_classLines_49 : decode cM_classLines 49 = .ok (.iload_n 1, 1) := by decide +kernel
theorem dM_classLines_50 : decode cM_classLines 50 = .ok (.ifCond .le 30, 3) := by decide +kernel
theorem dM_classLines_53 : decode cM_classLines 53 = .ok (.aload_n 0, 1) := by decide +kernel
theorem dM_classLines_54 : decode cM_classLines 54 = .ok (.getfield 50, 3) := by decide +kernel
theorem dM_classLines_57 : decode cM_classLines 57 = .ok (.iload_n 1, 1) := by decide +kernel
theorem dM_classLines_58 : decode cM_classLines 58 = .ok (.iconst 1, 1) := by decide +kernel
theorem dM_classLines_59 : decode cM_classLines 59 = .ok (.isub, 1) := by decide +kernel
theorem dM_classLines_60 : decode cM_classLines 60 = .ok (.iaload, 1) := by decide +kernel
theorem dM_classLines_61 : decode cM_classLines 61 = .ok (.ifCond .eq 15, 3) := by decide +kernel
theorem dM_classLines_64 : decode cM_classLines 64 = .ok (.aload_n 0, 1) := by decide +kernel
theorem dM_classLines_65 : decode cM_classLines 65 = .ok (.getfield 50, 3) := by decide +kernel
theorem dM_classLines_68 : decode cM_classLines 68 = .ok (.iload_n 1, 1) := by decide +kernel
theorem dM_classLines_69 : decode cM_classLines 69 = .ok (.iconst 1, 1) := by decide +kernel
theorem dM_classLines_70 : decode cM_classLines 70 = .ok (.isub, 1) := by decide +kernel
theorem dM_classLines_71 : decode cM_classLines 71 = .ok (.iaload, 1) := by decide +kernel
theorem dM_classLines_72 : decode cM_classLines 72 = .ok (.iconst 3, 1) := by decide +kernel
theorem dM_classLines_73 : decode cM_classLines 73 = .ok (.if_icmp .le 7, 3) := by decide +kernel
theorem dM_classLines_76 : decode cM_classLines 76 = .ok (.iconst 1, 1) := by decide +kernel
theorem dM_classLines_77 : decode cM_classLines 77 = .ok (.goto 4, 3) := by decide +kernel
theorem dM_classLines_80 : decode cM_classLines 80 = .ok (.iconst 0, 1) := by decide +kernel
theorem dM_classLines_81 : decode cM_classLines 81 = .ok (.bastore, 1) := by decide +kernel
theorem dM_classLines_82 : decode cM_classLines 82 = .ok (.aload_n 0, 1) := by decide +kernel
theorem dM_classLines_83 : decode cM_classLines 83 = .ok (.getfield 50, 3) := by decide +kernel
theorem dM_classLines_86 : decode cM_classLines 86 = .ok (.iload_n 1, 1) := by decide +kernel
theorem dM_classLines_87 : decode cM_classLines 87 = .ok (.iload_n 2, 1) := by decide +kernel
theorem dM_classLines_88 : decode cM_classLines 88 = .ok (.bipush 11, 2) := by decide +kernel
theorem dM_classLines_90 : decode cM_classLines 90 = .ok (.if_icmp .eq 7, 3) := by decide +kernel
theorem dM_classLines_93 : decode cM_classLines 93 = .ok (.iload_n 2, 1) := by decide +kernel
theorem dM_classLines_94 : decode cM_classLines 94 = .ok (.goto 24, 3) := by decide +kernel
theorem dM_classLines_97 : decode cM_classLines 97 = .ok (.aload_n 0, 1) := by decide +kernel
theorem dM_classLines_98 : decode cM_classLines 98 = .ok (.getfield 53, 3) := by decide +kernel
theorem dM_classLines_101 : decode cM_classLines 101 = .ok (.iload_n 1, 1) := by decide +kernel
theorem dM_classLines_102 : decode cM_classLines 102 = .ok (.baload, 1) := by decide +kernel
theorem dM_classLines_103 : decode cM_classLines 103 = .ok (.ifCond .eq 14, 3) := by decide +kernel
theorem dM_classLines_106 : decode cM_classLines 106 = .ok (.aload_n 0, 1) := by decide +kernel
theorem dM_classLines_107 : decode cM_classLines 107 = .ok (.getfield 50, 3) := by decide +kernel
theorem dM_classLines_110 : decode cM_classLines 110 = .ok (.iload_n 1, 1) := by decide +kernel
theorem dM_classLines_111 : decode cM_classLines 111 = .ok (.iconst 1, 1) := by decide +kernel
theorem dM_classLines_112 : decode cM_classLines 112 = .ok (.isub, 1) := by decide +kernel
theorem dM_classLines_113 : decode cM_classLines 113 = .ok (.iaload, 1) := by decide +kernel
theorem dM_classLines_114 : decode cM_classLines 114 = .ok (.goto 4, 3) := by decide +kernel
theorem dM_classLines_117 : decode cM_classLines 117 = .ok (.iconst 0, 1) := by decide +kernel
theorem dM_classLines_118 : decode cM_classLines 118 = .ok (.iastore, 1) := by decide +kernel
theorem dM_classLines_119 : decode cM_classLines 119 = .ok (.iinc 1 1, 3) := by decide +kernel
theorem dM_classLines_122 : decode cM_classLines 122 = .ok (.goto (-120), 3) := by decide +kernel
theorem dM_classLines_125 : decode cM_classLines 125 = .ok (.return_, 1) := by decide +kernel
theorem dM_overSpaces_0 : decode cM_overSpaces 0 = .ok (.iload_n 1, 1) := by decide +kernel
theorem dM_overSpaces_1 : decode cM_overSpaces 1 = .ok (.istore_n 2, 1) := by decide +kernel
theorem dM_overSpaces_2 : decode cM_overSpaces 2 = .ok (.iload_n 2, 1) := by decide +kernel
theorem dM_overSpaces_3 : decode cM_overSpaces 3 = .ok (.ifCond .lt 19, 3) := by decide +kernel
theorem dM_overSpaces_6 : decode cM_overSpaces 6 = .ok (.aload_n 0, 1) := by decide +kernel
theorem dM_overSpaces_7 : decode cM_overSpaces 7 = .ok (.getfield 50, 3) := by decide +kernel
theorem dM_overSpaces_10 : decode cM_overSpaces 10 = .ok (.iload_n 2, 1) := by decide +kernel
theorem dM_overSpaces_11 : decode cM_overSpaces 11 = .ok (.iaload, 1) := by decide +kernel
theorem dM_overSpaces_12 : decode cM_overSpaces 12 = .ok (.iconst 2, 1) := by decide +kernel
theorem dM_overSpaces_13 : decode cM_overSpaces 13 = .ok (.if_icmp .ne 9, 3) := by decide +kernel
theorem dM_overSpaces_16 : decode cM_overSpaces 16 = .ok (.iinc 2 (-1), 3) := by decide +kernel
theorem dM_overSpaces_19 : decode cM_overSpaces 19 = .ok (.goto (-17), 3) := by decide +kernel
theorem dM_overSpaces_22 : decode cM_overSpaces 22 = .ok (.iload_n 2, 1) := by decide +kernel
theorem dM_overSpaces_23 : decode cM_overSpaces 23 = .ok (.ifCond .ge 7, 3) := by decide +kernel
theorem dM_overSpaces_26 : decode cM_overSpaces 26 = .ok (.iconst (-1), 1) := by decide +kernel
theorem dM_overSpaces_27 : decode cM_overSpaces 27 = .ok (.goto 9, 3) := by decide +kernel
theorem dM_overSpaces_30 : decode cM_overSpaces 30 = .ok (.aload_n 0, 1) := by decide +kernel
theorem dM_overSpaces_31 : decode cM_overSpaces 31 = .ok (.getfield 50, 3) := by decide +kernel
theorem dM_overSpaces_34 : decode cM_overSpaces 34 = .ok (.iload_n 2, 1) := by decide +kernel
theorem dM_overSpaces_35 : decode cM_overSpaces 35 = .ok (.iaload, 1) := by decide +kernel
theorem dM_overSpaces_36 : decode cM_overSpaces 36 = .ok (.ireturn, 1) := by decide +kernel
end
section
theorem dM_may_0 : decode cM_may 0 = .ok (.iload_n 1, 1) := by decide +kernel
theorem dM_may_1 : decode cM_may 1 = .ok (.ifCond .eq 9, 3) := by decide +kernel
theorem dM_may_4 : decode cM_may 4 = .ok (.iload_n 1, 1) := by decide +kernel
theorem dM_may_5 : decode cM_may 5 = .ok (.bipush 9, 2) := by decide +kernel
theorem dM_may_7 : decode cM_may 7 = .ok (.if_icmp .ne 7, 3) := by decide +kernel
theorem dM_may_10 : decode cM_may 10 = .ok (.iconst 1, 1) := by decide +kernel
theorem dM_may_11 : decode cM_may 11 = .ok (.goto 4, 3) := by decide +kernel
theorem dM_may_14 : decode cM_may 14 = .ok (.iconst 0, 1) := by decide +kernel
theorem dM_may_15 : decode cM_may 15 = .ok (.istore_n 3, 1) := by decide +kernel
theorem dM_may_16 : decode cM_may 16 = .ok (.iload_n 2, 1) := by decide +kernel
theorem dM_may_17 : decode cM_may 17 = .ok (.ifCond .eq 9, 3) := by decide +kernel
theorem dM_may_20 : decode cM_may 20 = .ok (.iload_n 2, 1) := by decide +kernel
theorem dM_may_21 : decode cM_may 21 = .ok (.bipush 9, 2) := by decide +kernel
theorem dM_may_23 : decode cM_may 23 = .ok (.if_icmp .ne 7, 3) := by decide +kernel
theorem dM_may_26 : decode cM_may 26 = .ok (.iconst 1, 1) := by decide +kernel
theorem dM_may_27 : decode cM_may 27 = .ok (.goto 4, 3) := by decide +kernel
theorem dM_may_30 : decode cM_may 30 = .ok (.iconst 0, 1) := by decide +kernel
theorem dM_may_31 : decode cM_may 31 = .ok (.istore 4, 2) := by decide +kernel
theorem dM_may_33 : decode cM_may 33 = .ok (.iload_n 1, 1) := by decide +kernel
theorem dM_may_34 : decode cM_may 34 = .ok (.iconst 2, 1) := by decide +kernel
theorem dM_may_35 : decode cM_may 35 = .ok (.if_icmp .ne 5, 3) := by decide +kernel
theorem dM_may_38 : decode cM_may 38 = .ok (.iconst 1, 1) := by decide +kernel
theorem dM_may_39 : decode cM_may 39 = .ok (.ireturn, 1) := by decide +kernel
theorem dM_may_40 : decode cM_may 40 = .ok (.iload_n 1, 1) := by decide +kernel
theorem dM_may_41 : decode cM_may 41 = .ok (.bipush 7, 2) := by decide +kernel
theorem dM_may_43 : decode cM_may 43 = .ok (.if_icmp .eq 15, 3) := by decide +kernel
theorem dM_may_46 : decode cM_may 46 = .ok (.iload_n 2, 1) := by decide +kernel
theorem dM_may_47 : decode cM_may 47 = .ok (.bipush 7, 2) := by decide +kernel
theorem dM_may_49 : decode cM_may 49 = .ok (.if_icmp .eq 9, 3) := by decide +kernel
theorem dM_may_52 : decode cM_may 52 = .ok (.iload_n 2, 1) := by decide +kernel
theorem dM_may_53 : decode cM_may 53 = .ok (.bipush 8, 2) := by decide +kernel
theorem dM_may_55 : decode cM_may 55 = .ok (.if_icmp .ne 5, 3) := by decide +kernel
theorem dM_may_58 : decode cM_may 58 = .ok (.iconst 0, 1) := by decide +kernel
theorem dM_may_59 : decode cM_may 59 = .ok (.ireturn, 1) := by decide +kernel
theorem dM_may_60 : decode cM_may 60 = .ok (.iload_n 1, 1) := by decide +kernel
theorem dM_may_61 : decode cM_may 61 = .ok (.bipush 8, 2) := by decide +kernel
theorem dM_may_63 : decode cM_may 63 = .ok (.if_icmp .eq 9, 3) := by decide +kernel
theorem dM_may_66 : decode cM_may 66 = .ok (.iload_n 1, 1) := by decide +kernel
theorem dM_may_67 : decode cM_may 67 = .ok (.bipush 12, 2) := by decide +kernel
theorem dM_may_69 : decode cM_may 69 = .ok (.if_icmp .ne 9, 3) := by decide +kernel
theorem dM_may_72 : decode cM_may 72 = .ok (.iload_n 2, 1) := by decide +kernel
theorem dM_may_73 : decode cM_may 73 = .ok (.bipush 9, 2) := by decide +kernel
theorem dM_may_75 : decode cM_may 75 = .ok (.if_icmp .eq 42, 3) := by decide +kernel
theorem dM_may_78 : decode cM_may 78 = .ok (.iload_n 3, 1) := by decide +kernel
theorem dM_may_79 : decode cM_may 79 = .ok (.ifCond .eq 8, 3) := by decide +kernel
theorem dM_may_82 : decode cM_may 82 = .ok (.iload 4, 2) := by decide +kernel
theorem dM_may_84 : decode cM_may 84 = .ok (.ifCond .ne 33, 3) := by decide +kernel
theorem dM_may_87 : decode cM_may 87 = .ok (.iload_n 1, 1) := by decide +kernel
theorem dM_may_88 : decode cM_may 88 = .ok (.bipush 12, 2) := by decide +kernel
theorem dM_may_90 : decode cM_may 90 = .ok (.if_icmp .ne 7, 3) := by decide +kernel
theorem dM_may_93 : decode cM_may 93 = .ok (.iload_n 2, 1) := by decide +kernel
theorem dM_may_94 : decode cM_may 94 = .ok (.ifCond .eq 23, 3) := by decide +kernel
theorem dM_may_97 : decode cM_may 97 = .ok (.iload_n 3, 1) := by decide +kernel
theorem dM_may_98 : decode cM_may 98 = .ok (.ifCond .eq 8, 3) := by decide +kernel
theorem dM_may_101 : decode cM_may 101 = .ok (.iload_n 2, 1) := by decide +kernel
theorem dM_may_102 : decode cM_may 102 = .ok (.iconst 5, 1) := by decide +kernel
theorem dM_may_103 : decode cM_may 103 = .ok (.if_icmp .eq 14, 3) := by decide +kernel
theorem dM_may_106 : decode cM_may 106 = .ok (.iload_n 1, 1) := by decide +kernel
theorem dM_may_107 : decode cM_may 107 = .ok (.bipush 6, 2) := by decide +kernel
theorem dM_may_109 : decode cM_may 109 = .ok (.if_icmp .ne 12, 3) := by decide +kernel
theorem dM_may_112 : decode cM_may 112 = .ok (.iload 4, 2) := by decide +kernel
theorem dM_may_114 : decode cM_may 114 = .ok (.ifCond .eq 7, 3) := by decide +kernel
theorem dM_may_117 : decode cM_may 117 = .ok (.iconst 1, 1) := by decide +kernel
theorem dM_may_118 : decode cM_may 118 = .ok (.goto 4, 3) := by decide +kernel
theorem dM_may_121 : decode cM_may 121 = .ok (.iconst 0, 1) := by decide +kernel
theorem dM_may_122 : decode cM_may 122 = .ok (.istore 5, 2) := by decide +kernel
theorem dM_may_124 : decode cM_may 124 = .ok (.iload 5, 2) := by decide +kernel
theorem dM_may_126 : decode cM_may 126 = .ok (.ifCond .ne 7, 3) := by decide +kernel
theorem dM_may_129 : decode cM_may 129 = .ok (.iconst 1, 1) := by decide +kernel
theorem dM_may_130 : decode cM_may 130 = .ok (.goto 4, 3) := by decide +kernel
theorem dM_may_133 : decode cM_may 133 = .ok (.iconst 0, 1) := by decide +kernel
theorem dM_may_134 : decode cM_may 134 = .ok (.ireturn, 1) := by decide +kernel
theorem dM_line_0 : decode cM_line 0 = .ok (.aload_n 0, 1) := by decide +kernel
theorem dM_line_1 : decode cM_line 1 = .ok (.aload_n 0, 1) := by decide +kernel
theorem dM_line_2 : decode cM_line 2 = .ok (.iload_n 1, 1) := by decide +kernel
theorem dM_line_3 : decode cM_line 3 = .ok (.aload_n 0, 1) := by decide +kernel
theorem dM_line_4 : decode cM_line 4 = .ok (.getfield 77, 3) := by decide +kernel
theorem dM_line_7 : decode cM_line 7 = .ok (.iconst 1, 1) := by decide +kernel
theorem dM_line_8 : decode cM_line 8 = .ok (.iadd, 1) := by decide +kernel
theorem dM_line_9 : decode cM_line 9 = .ok (.invokevirtual 80, 3) := by decide +kernel
theorem dM_line_12 : decode cM_line 12 = .ok (.ifCond .eq 7, 3) := by decide +kernel
theorem dM_line_15 : decode cM_line 15 = .ok (.iconst 1, 1) := by decide +kernel
theorem dM_line_16 : decode cM_line 16 = .ok (.goto 4, 3) := by decide +kernel
theorem dM_line_19 : decode cM_line 19 = .ok (.iconst 0, 1) := by decide +kernel
theorem dM_line_20 : decode cM_line 20 = .ok (.putfield 65, 3) := by decide +kernel
theorem dM_line_23 : decode cM_line 23 = .ok (.aload_n 0, 1) := by decide +kernel
theorem dM_line_24 : decode cM_line 24 = .ok (.getfield 65, 3) := by decide +kernel
theorem dM_line_27 : decode cM_line 27 = .ok (.ifCond .ne 7, 3) := by decide +kernel
theorem dM_line_30 : decode cM_line 30 = .ok (.iload_n 1, 1) := by decide +kernel
theorem dM_line_31 : decode cM_line 31 = .ok (.ifCond .ne 5, 3) := by decide +kernel
theorem dM_line_34 : decode cM_line 34 = .ok (.iconst 0, 1) := by decide +kernel
theorem dM_line_35 : decode cM_line 35 = .ok (.ireturn, 1) := by decide +kernel
theorem dM_line_36 : decode cM_line 36 = .ok (.aload_n 0, 1) := by decide +kernel
theorem dM_line_37 : decode cM_line 37 = .ok (.invokevirtual 147, 3) := by decide +kernel
theorem dM_line_40 : decode cM_line 40 = .ok (.aload_n 0, 1) := by decide +kernel
theorem dM_line_41 : decode cM_line 41 = .ok (.getfield 50, 3) := by decide +kernel
theorem dM_line_44 : decode cM_line 44 = .ok (.iload_n 1, 1) := by decide +kernel
theorem dM_line_45 : decode cM_line 45 = .ok (.iconst 1, 1) := by decide +kernel
theorem dM_line_46 : decode cM_line 46 = .ok (.isub, 1) := by decide +kernel
theorem dM_line_47 : decode cM_line 47 = .ok (.iaload, 1) := by decide +kernel
theorem dM_line_48 : decode cM_line 48 = .ok (.istore_n 2, 1) := by decide +kernel
theorem dM_line_49 : decode cM_line 49 = .ok (.iload_n 1, 1) := by decide +kernel
theorem dM_line_50 : decode cM_line 50 = .ok (.aload_n 0, 1) := by decide +kernel
theorem dM_line_51 : decode cM_line 51 = .ok (.getfield 77, 3) := by decide +kernel
theorem dM_line_54 : decode cM_line 54 = .ok (.if_icmp .eq 8, 3) := by decide +kernel
theorem dM_line_57 : decode cM_line 57 = .ok (.iload_n 2, 1) := by decide +kernel
theorem dM_line_58 : decode cM_line 58 = .ok (.iconst 1, 1) := by decide +kernel
theorem dM_line_59 : decode cM_line 59 = .ok (.if_icmp .ne 5, 3) := by decide +kernel
theorem dM_line_62 : decode cM_line 62 = .ok (.iconst 2, 1) := by decide +kernel
theorem dM_line_63 : decode cM_line 63 = .ok (.ireturn, 1) := by decide +kernel
theorem dM_line_64 : decode cM_line 64 = .ok (.aload_n 0, 1) := by decide +kernel
theorem dM_line_65 : decode cM_line 65 = .ok (.getfield 50, 3) := by decide +kernel
theorem dM_line_68 : decode cM_line 68 = .ok (.iload_n 1, 1) := by decide +kernel
theorem dM_line_69 : decode cM_line 69 = .ok (.iaload, 1) := by decide +kernel
theorem dM_line_70 : decode cM_line 70 = .ok (.istore_n 3, 1) := by decide +kernel
theorem dM_line_71 : decode cM_line 71 = .ok (.aload_n 0, 1) := by decide +kernel
theorem dM_line_72 : decode cM_line 72 = .ok (.iload_n 1, 1) := by decide +kernel
theorem dM_line_73 : decode cM_line 73 = .ok (.iconst 1, 1) := by decide +kernel
theorem dM_line_74 : decode cM_line 74 = .ok (.isub, 1) := by decide +kernel
theorem dM_line_75 : decode cM_line 75 = .ok (.invokevirtual 150, 3) := by decide +kernel
theorem dM_line_78 : decode cM_line 78 = .ok (.istore 4, 2) := by decide +kernel
theorem dM_line_80 : decode cM_line 80 = .ok (.iload_n 3, 1) := by decide +kernel
theorem dM_line_81 : decode cM_line 81 = .ok (.ifCond .le 10, 3) := by decide +kernel
theorem dM_line_84 : decode cM_line 84 = .ok (.iload_n 3, 1) := by decide +kernel
theorem dM_line_85 : decode cM_line 85 = .ok (.iconst 4, 1) := by decide +kernel
theorem dM_line_86 : decode cM_line 86 = .ok (.if_icmp .ge 5, 3) := by decide +kernel
theorem dM_line_89 : decode cM_line 89 = .ok (.iconst 0, 1) := by decide +kernel
theorem dM_line_90 : decode cM_line 90 = .ok (.ireturn, 1) := by decide +kernel
theorem dM_line_91 : decode cM_line 91 = .ok (.iload 4, 2) := by decide +kernel
theorem dM_line_93 : decode cM_line 93 = .ok (.iconst 3, 1) := by decide +kernel
theorem dM_line_94 : decode cM_line 94 = .ok (.if_icmp .ne 5, 3) := by decide +kernel
theorem dM_line_97 : decode cM_line 97 = .ok (.iconst 1, 1) := by decide +kernel
theorem dM_line_98 : decode cM_line 98 = .ok (.ireturn, 1) := by decide +kernel
theorem dM_line_99 : decode cM_line 99 = .ok (.aload_n 0, 1) := by decide +kernel
theorem dM_line_100 : decode cM_line 100 = .ok (.getfield 53, 3) := by decide +kernel
theorem dM_line_103 : decode cM_line 103 = .ok (.iload_n 1, 1) := by decide +kernel
theorem dM_line_104 : decode cM_line 104 = .ok (.baload, 1) := by decide +kernel
theorem dM_line_105 : decode cM_line 105 = .ok (.ifCond .ne 43, 3) := by decide +kernel
theorem dM_line_108 : decode cM_line 108 = .ok (.iload_n 2, 1) := by decide +kernel
theorem dM_line_109 : decode cM_line 109 = .ok (.iconst 4, 1) := by decide +kernel
theorem dM_line_110 : decode cM_line 110 = .ok (.if_icmp .eq 38, 3) := by decide +kernel
theorem dM_line_113 : decode cM_line 113 = .ok (.iload_n 3, 1) := by decide +kernel
theorem dM_line_114 : decode cM_line 114 = .ok (.iconst 4, 1) := by decide +kernel
theorem dM_line_115 : decode cM_line 115 = .ok (.if_icmp .eq 33, 3) := by decide +kernel
theorem dM_line_118 : decode cM_line 118 = .ok (.iload_n 3, 1) := by decide +kernel
theorem dM_line_119 : decode cM_line 119 = .ok (.bipush 6, 2) := by decide +kernel
theorem dM_line_121 : decode cM_line 121 = .ok (.if_icmp .eq 27, 3) := by decide +kernel
theorem dM_line_124 : decode cM_line 124 = .ok (.iload_n 3, 1) := by decide +kernel
theorem dM_line_125 : decode cM_line 125 = .ok (.bipush 12, 2) := by decide +kernel
theorem dM_line_127 : decode cM_line 127 = .ok (.if_icmp .eq 21, 3) := by decide +kernel
theorem dM_line_130 : decode cM_line 130 = .ok (.iload 4, 2) := by decide +kernel
theorem dM_line_132 : decode cM_line 132 = .ok (.iconst 5, 1) := by decide +kernel
theorem dM_line_133 : decode cM_line 133 = .ok (.if_icmp .eq 15, 3) := by decide +kernel
theorem dM_line_136 : decode cM_line 136 = .ok (.iload 4, 2) := by decide +kernel
theorem dM_line_138 : decode cM_line 138 = .ok (.bipush 7, 2) := by decide +kernel
theorem dM_line_140 : decode cM_line 140 = .ok (.if_icmp .ne 12, 3) := by decide +kernel
theorem dM_line_143 : decode cM_line 143 = .ok (.iload_n 3, 1) := by decide +kernel
theorem dM_line_144 : decode cM_line 144 = .ok (.iconst 5, 1) := by decide +kernel
theorem dM_line_145 : decode cM_line 145 = .ok (.if_icmp .ne 7, 3) := by decide +kernel
theorem dM_line_148 : decode cM_line 148 = .ok (.iconst 1, 1) := by decide +kernel
theorem dM_line_149 : decode cM_line 149 = .ok (.goto 4, 3) := by decide +kernel
theorem dM_line_152 : decode cM_line 152 = .ok (.iconst 0, 1) := by decide +kernel
theorem dM_line_153 : decode cM_line 153 = .ok (.istore 5, 2) := by decide +kernel
theorem dM_line_155 : decode cM_line 155 = .ok (.iload 5, 2) := by decide +kernel
theorem dM_line_157 : decode cM_line 157 = .ok (.ifCond .ne 16, 3) := by decide +kernel
theorem dM_line_160 : decode cM_line 160 = .ok (.aload_n 0, 1) := by decide +kernel
theorem dM_line_161 : decode cM_line 161 = .ok (.iload_n 2, 1) := by decide +kernel
theorem dM_line_162 : decode cM_line 162 = .ok (.iload_n 3, 1) := by decide +kernel
theorem dM_line_163 : decode cM_line 163 = .ok (.invokevirtual 153, 3) := by decide +kernel
theorem dM_line_166 : decode cM_line 166 = .ok (.ifCond .eq 7, 3) := by decide +kernel
theorem dM_line_169 : decode cM_line 169 = .ok (.iconst 1, 1) := by decide +kernel
theorem dM_line_170 : decode cM_line 170 = .ok (.goto 4, 3) := by decide +kernel
theorem dM_line_173 : decode cM_line 173 = .ok (.iconst 0, 1) := by decide +kernel
theorem dM_line_174 : decode cM_line 174 = .ok (.ireturn, 1) := by decide +kernel
theorem dM_baseOf_0 : decode cM_baseOf 0 = .ok (.iload_n 1, 1) := by decide +kernel
theorem dM_baseOf_1 : decode cM_baseOf 1 = .ok (.ifCond .eq 8, 3) := by decide +kernel
theorem dM_baseOf_4 : decode cM_baseOf 4 = .ok (.iload_n 1, 1) := by decide +kernel
theorem dM_baseOf_5 : decode cM_baseOf 5 = .ok (.iconst 1, 1) := by decide +kernel
theorem dM_baseOf_6 : decode cM_baseOf 6 = .ok (.if_icmp .ne 5, 3) := by decide +kernel
theorem dM_baseOf_9 : decode cM_baseOf 9 = .ok (.iload_n 1, 1) := by decide +kernel
theorem dM_baseOf_10 : decode cM_baseOf 10 = .ok (.ireturn, 1) := by decide +kernel
theorem dM_baseOf_11 : decode cM_baseOf 11 = .ok (.iconst 0, 1) := by decide +kernel
theorem dM_baseOf_12 : decode cM_baseOf 12 = .ok (.istore_n 2, 1) := by decide +kernel
theorem dM_baseOf_13 : decode cM_baseOf 13 = .ok (.iload_n 2, 1) := by decide +kernel
theorem dM_baseOf_14 : decode cM_baseOf 14 = .ok (.aload_n 0, 1) := by decide +kernel
theorem dM_baseOf_15 : decode cM_baseOf 15 = .ok (.getfield 77, 3) := by decide +kernel
theorem dM_baseOf_18 : decode cM_baseOf 18 = .ok (.if_icmp .ge 35, 3) := by decide +kernel
theorem dM_baseOf_21 : decode cM_baseOf 21 = .ok (.aload_n 0, 1) := by decide +kernel
theorem dM_baseOf_22 : decode cM_baseOf 22 = .ok (.aload_n 0, 1) := by decide +kernel
theorem dM_baseOf_23 : decode cM_baseOf 23 = .ok (.getfield 26, 3) := by decide +kernel
theorem dM_baseOf_26 : decode cM_baseOf 26 = .ok (.iload_n 2, 1) := by decide +kernel
theorem dM_baseOf_27 : decode cM_baseOf 27 = .ok (.iaload, 1) := by decide +kernel
theorem dM_baseOf_28 : decode cM_baseOf 28 = .ok (.invokevirtual 156, 3) := by decide +kernel
theorem dM_baseOf_31 : decode cM_baseOf 31 = .ok (.istore_n 3, 1) := by decide +kernel
theorem dM_baseOf_32 : decode cM_baseOf 32 = .ok (.iload_n 3, 1) := by decide +kernel
theorem dM_baseOf_33 : decode cM_baseOf 33 = .ok (.iconst 3, 1) := by decide +kernel
theorem dM_baseOf_34 : decode cM_baseOf 34 = .ok (.if_icmp .ge 13, 3) := by decide +kernel
theorem dM_baseOf_37 : decode cM_baseOf 37 = .ok (.iload_n 3, 1) := by decide +kernel
theorem dM_baseOf_38 : decode cM_baseOf 38 = .ok (.ifCond .ne 7, 3) := by decide +kernel
theorem dM_baseOf_41 : decode cM_baseOf 41 = .ok (.iconst 0, 1) := by decide +kernel
theorem dM_baseOf_42 : decode cM_baseOf 42 = .ok (.goto 4, 3) := by decide +kernel
theorem dM_baseOf_45 : decode cM_baseOf 45 = .ok (.iconst 1, 1) := by decide +kernel
theorem dM_baseOf_46 : decode cM_baseOf 46 = .ok (.ireturn, 1) := by decide +kernel
theorem dM_baseOf_47 : decode cM_baseOf 47 = .ok (.iinc 2 1, 3) := by decide +kernel
theorem dM_baseOf_50 : decode cM_baseOf 50 = .ok (.goto (-37), 3) := by decide +kernel
theorem dM_baseOf_53 : decode cM_baseOf 53 = .ok (.iconst 0, 1) := by decide +kernel
theorem dM_baseOf_54 : decode cM_baseOf 54 = .ok (.ireturn, 1) := by decide +kernel
theorem dM_nearest_0 : decode cM_nearest 0 = .ok (.iload_n 1, 1) := by decide +kernel
theorem dM_nearest_1 : decode cM_nearest 1 = .ok (.iconst 1, 1) := by decide +kernel
theorem dM_nearest_2 : decode cM_nearest 2 = .ok (.isub, 1) := by decide +kernel
theorem dM_nearest_3 : decode cM_nearest 3 = .ok (.istore_n 2, 1) := by decide +kernel
theorem dM_nearest_4 : decode cM_nearest 4 = .ok (.aload_n 0, 1) := by decide +kernel
theorem dM_nearest_5 : decode cM_nearest 5 = .ok (.getfield 56, 3) := by decide +kernel
theorem dM_nearest_8 : decode cM_nearest 8 = .ok (.iload_n 2, 1) := by decide +kernel
theorem dM_nearest_9 : decode cM_nearest 9 = .ok (.iaload, 1) := by decide +kernel
theorem dM_nearest_10 : decode cM_nearest 10 = .ok (.iconst 2, 1) := by decide +kernel
theorem dM_nearest_11 : decode cM_nearest 11 = .ok (.if_icmp .le 9, 3) := by decide +kernel
theorem dM_nearest_14 : decode cM_nearest 14 = .ok (.iinc 2 (-1), 3) := by decide +kernel
theorem dM_nearest_17 : decode cM_nearest 17 = .ok (.goto (-13), 3) := by decide +kernel
theorem dM_nearest_20 : decode cM_nearest 20 = .ok (.aload_n 0, 1) := by decide +kernel
theorem dM_nearest_21 : decode cM_nearest 21 = .ok (.getfield 56, 3) := by decide +kernel
theorem dM_nearest_24 : decode cM_nearest 24 = .ok (.iload_n 2, 1) := by decide +kernel
theorem dM_nearest_25 : decode cM_nearest 25 = .ok (.iaload, 1) := by decide +kernel
theorem dM_nearest_26 : decode cM_nearest 26 = .ok (.ireturn, 1) := by decide +kernel
theorem dM_weaken_0 : decode cM_weaken 0 = .ok (.iconst 1, 1) := by decide +kernel
theorem dM_weaken_1 : decode cM_weaken 1 = .ok (.istore_n 1, 1) := by decide +kernel
theorem dM_weaken_2 : decode cM_weaken 2 = .ok (.iload_n 1, 1) := by decide +kernel
theorem dM_weaken_3 : decode cM_weaken 3 = .ok (.aload_n 0, 1) := by decide +kernel
theorem dM_weaken_4 : decode cM_weaken 4 = .ok (.getfield 77, 3) := by decide +kernel
theorem dM_weaken_7 : decode cM_weaken 7 = .ok (.if_icmp .gt 43, 3) := by decide +kernel
theorem dM_weaken_10 : decode cM_weaken 10 = .ok (.aload_n 0, 1) := by decide +kernel
theorem dM_weaken_11 : decode cM_weaken 11 = .ok (.getfield 56, 3) := by decide +kernel
theorem dM_weaken_14 : decode cM_weaken 14 = .ok (.iload_n 1, 1) := by decide +kernel
theorem dM_weaken_15 : decode cM_weaken 15 = .ok (.aload_n 0, 1) := by decide +kernel
theorem dM_weaken_16 : decode cM_weaken 16 = .ok (.getfield 56, 3) := by decide +kernel
theorem dM_weaken_19 : decode cM_weaken 19 = .ok (.iload_n 1, 1) := by decide +kernel
theorem dM_weaken_20 : decode cM_weaken 20 = .ok (.iaload, 1) := by decide +kernel
theorem dM_weaken_21 : decode cM_weaken 21 = .ok (.bipush 8, 2) := by decide +kernel
theorem dM_weaken_23 : decode cM_weaken 23 = .ok (.if_icmp .ne 14, 3) := by decide +kernel
theorem dM_weaken_26 : decode cM_weaken 26 = .ok (.aload_n 0, 1) := by decide +kernel
theorem dM_weaken_27 : decode cM_weaken 27 = .ok (.getfield 56, 3) := by decide +kernel
theorem dM_weaken_30 : decode cM_weaken 30 = .ok (.iload_n 1, 1) := by decide +kernel
theorem dM_weaken_31 : decode cM_weaken 31 = .ok (.iconst 1, 1) := by decide +kernel
theorem dM_weaken_32 : decode cM_weaken 32 = .ok (.isub, 1) := by decide +kernel
theorem dM_weaken_33 : decode cM_weaken 33 = .ok (.iaload, 1) := by decide +kernel
theorem dM_weaken_34 : decode cM_weaken 34 = .ok (.goto 9, 3) := by decide +kernel
theorem dM_weaken_37 : decode cM_weaken 37 = .ok (.aload_n 0, 1) := by decide +kernel
theorem dM_weaken_38 : decode cM_weaken 38 = .ok (.getfield 56, 3) := by decide +kernel
theorem dM_weaken_41 : decode cM_weaken 41 = .ok (.iload_n 1, 1) := by decide +kernel
theorem dM_weaken_42 : decode cM_weaken 42 = .ok (.iaload, 1) := by decide +kernel
theorem dM_weaken_43 : decode cM_weaken 43 = .ok (.iastore, 1) := by decide +kernel
theorem dM_weaken_44 : decode cM_weaken 44 = .ok (.iinc 1 1, 3) := by decide +kernel
theorem dM_weaken_47 : decode cM_weaken 47 = .ok (.goto (-45), 3) := by decide +kernel
theorem dM_weaken_50 : decode cM_weaken 50 = .ok (.iconst 1, 1) := by decide +kernel
theorem dM_weaken_51 : decode cM_weaken 51 = .ok (.istore_n 1, 1) := by decide +kernel
theorem dM_weaken_52 : decode cM_weaken 52 = .ok (.iload_n 1, 1) := by decide +kernel
theorem dM_weaken_53 : decode cM_weaken 53 = .ok (.aload_n 0, 1) := by decide +kernel
theorem dM_weaken_54 : decode cM_weaken 54 = .ok (.getfield 77, 3) := by decide +kernel
theorem dM_weaken_57 : decode cM_weaken 57 = .ok (.if_icmp .gt 45, 3) := by decide +kernel
theorem dM_weaken_60 : decode cM_weaken 60 = .ok (.aload_n 0, 1) := by decide +kernel
theorem dM_weaken_61 : decode cM_weaken 61 = .ok (.getfield 56, 3) := by decide +kernel
theorem dM_weaken_64 : decode cM_weaken 64 = .ok (.iload_n 1, 1) := by decide +kernel
theorem dM_weaken_65 : decode cM_weaken 65 = .ok (.aload_n 0, 1) := by decide +kernel
theorem dM_weaken_66 : decode cM_weaken 66 = .ok (.getfield 56, 3) := by decide +kernel
theorem dM_weaken_69 : decode cM_weaken 69 = .ok (.iload_n 1, 1) := by decide +kernel
theorem dM_weaken_70 : decode cM_weaken 70 = .ok (.iaload, 1) := by decide +kernel
theorem dM_weaken_71 : decode cM_weaken 71 = .ok (.iconst 3, 1) := by decide +kernel
theorem dM_weaken_72 : decode cM_weaken 72 = .ok (.if_icmp .ne 17, 3) := by decide +kernel
theorem dM_weaken_75 : decode cM_weaken 75 = .ok (.aload_n 0, 1) := by decide +kernel
theorem dM_weaken_76 : decode cM_weaken 76 = .ok (.iload_n 1, 1) := by decide +kernel
theorem dM_weaken_77 : decode cM_weaken 77 = .ok (.invokevirtual 159, 3) := by decide +kernel
theorem dM_weaken_80 : decode cM_weaken 80 = .ok (.iconst 2, 1) := by decide +kernel
theorem dM_weaken_81 : decode cM_weaken 81 = .ok (.if_icmp .ne 8, 3) := by decide +kernel
theorem dM_weaken_84 : decode cM_weaken 84 = .ok (.bipush 6, 2) := by decide +kernel
theorem dM_weaken_86 : decode cM_weaken 86 = .ok (.goto 9, 3) := by decide +kernel
theorem dM_weaken_89 : decode cM_weaken 89 = .ok (.aload_n 0, 1) := by decide +kernel
theorem dM_weaken_90 : decode cM_weaken 90 = .ok (.getfield 56, 3) := by decide +kernel
theorem dM_weaken_93 : decode cM_weaken 93 = .ok (.iload_n 1, 1) := by decide +kernel
theorem dM_weaken_94 : decode cM_weaken 94 = .ok (.iaload, 1) := by decide +kernel
theorem dM_weaken_95 : decode cM_weaken 95 = .ok (.iastore, 1) := by decide +kernel
theorem dM_weaken_96 : decode cM_weaken 96 = .ok (.iinc 1 1, 3) := by decide +kernel
theorem dM_weaken_99 : decode cM_weaken 99 = .ok (.goto (-47), 3) := by decide +kernel
theorem dM_weaken_102 : decode cM_weaken 102 = .ok (.iconst 1, 1) := by decide +kernel
theorem dM_weaken_103 : decode cM_weaken 103 = .ok (.istore_n 1, 1) := by decide +kernel
theorem dM_weaken_104 : decode cM_weaken 104 = .ok (.iload_n 1, 1) := by decide +kernel
theorem dM_weaken_105 : decode cM_weaken 105 = .ok (.aload_n 0, 1) := by decide +kernel
theorem dM_weaken_106 : decode cM_weaken 106 = .ok (.getfield 77, 3) := by decide +kernel
theorem dM_weaken_109 : decode cM_weaken 109 = .ok (.if_icmp .gt 35, 3) := by decide +kernel
theorem dM_weaken_112 : decode cM_weaken 112 = .ok (.aload_n 0, 1) := by decide +kernel
theorem dM_weaken_113 : decode cM_weaken 113 = .ok (.getfield 56, 3) := by decide +kernel
theorem dM_weaken_116 : decode cM_weaken 116 = .ok (.iload_n 1, 1) := by decide +kernel
theorem dM_weaken_117 : decode cM_weaken 117 = .ok (.aload_n 0, 1) := by decide +kernel
theorem dM_weaken_118 : decode cM_weaken 118 = .ok (.getfield 56, 3) := by decide +kernel
theorem dM_weaken_121 : decode cM_weaken 121 = .ok (.iload_n 1, 1) := by decide +kernel
theorem dM_weaken_122 : decode cM_weaken 122 = .ok (.iaload, 1) := by decide +kernel
theorem dM_weaken_123 : decode cM_weaken 123 = .ok (.iconst 2, 1) := by decide +kernel
theorem dM_weaken_124 : decode cM_weaken 124 = .ok (.if_icmp .ne 7, 3) := by decide +kernel
theorem dM_weaken_127 : decode cM_weaken 127 = .ok (.iconst 1, 1) := by decide +kernel
theorem dM_weaken_128 : decode cM_weaken 128 = .ok (.goto 9, 3) := by decide +kernel
theorem dM_weaken_131 : decode cM_weaken 131 = .ok (.aload_n 0, 1) := by decide +kernel
theorem dM_weaken_132 : decode cM_weaken 132 = .ok (.getfield 56, 3) := by decide +kernel
theorem dM_weaken_135 : decode cM_weaken 135 = .ok (.iload_n 1, 1) := by decide +kernel
theorem dM_weaken_136 : decode cM_weaken 136 = .ok (.iaload, 1) := by decide +kernel
theorem dM_weaken_137 : decode cM_weaken 137 = .ok (.iastore, 1) := by decide +kernel
theorem dM_weaken_138 : decode cM_weaken 138 = .ok (.iinc 1 1, 3) := by decide +kernel
theorem dM_weaken_141 : decode cM_weaken 141 = .ok (.goto (-37), 3) := by decide +kernel
theorem dM_weaken_144 : decode cM_weaken 144 = .ok (.iconst 1, 1) := by decide +kernel
theorem dM_weaken_145 : decode cM_weaken 145 = .ok (.istore_n 1, 1) := by decide +kernel
theorem dM_weaken_146 : decode cM_weaken 146 = .ok (.iload_n 1, 1) := by decide +kernel
theorem dM_weaken_147 : decode cM_weaken 147 = .ok (.aload_n 0, 1) := by decide +kernel
theorem dM_weaken_148 : decode cM_weaken 148 = .ok (.getfield 77, 3) := by decide +kernel
theorem dM_weaken_151 : decode cM_weaken 151 = .ok (.if_icmp .gt 109, 3) := by decide +kernel
theorem dM_weaken_154 : decode cM_weaken 154 = .ok (.aload_n 0, 1) := by decide +kernel
theorem dM_weaken_155 : decode cM_weaken 155 = .ok (.getfield 56, 3) := by decide +kernel
theorem dM_weaken_158 : decode cM_weaken 158 = .ok (.iload_n 1, 1) := by decide +kernel
theorem dM_weaken_159 : decode cM_weaken 159 = .ok (.iconst 1, 1) := by decide +kernel
theorem dM_weaken_160 : decode cM_weaken 160 = .ok (.isub, 1) := by decide +kernel
theorem dM_weaken_161 : decode cM_weaken 161 = .ok (.iaload, 1) := by decide +kernel
theorem dM_weaken_162 : decode cM_weaken 162 = .ok (.istore_n 2, 1) := by decide +kernel
theorem dM_weaken_163 : decode cM_weaken 163 = .ok (.iload_n 2, 1) := by decide +kernel
theorem dM_weaken_164 : decode cM_weaken 164 = .ok (.aload_n 0, 1) := by decide +kernel
theorem dM_weaken_165 : decode cM_weaken 165 = .ok (.getfield 56, 3) := by decide +kernel
theorem dM_weaken_168 : decode cM_weaken 168 = .ok (.iload_n 1, 1) := by decide +kernel
theorem dM_weaken_169 : decode cM_weaken 169 = .ok (.iconst 1, 1) := by decide +kernel
theorem dM_weaken_170 : decode cM_weaken 170 = .ok (.iadd, 1) := by decide +kernel
theorem dM_weaken_171 : decode cM_weaken 171 = .ok (.iaload, 1) := by decide +kernel
theorem dM_weaken_172 : decode cM_weaken 172 = .ok (.if_icmp .ne 7, 3) := by decide +kernel
theorem dM_weaken_175 : decode cM_weaken 175 = .ok (.iconst 1, 1) := by decide +kernel
theorem dM_weaken_176 : decode cM_weaken 176 = .ok (.goto 4, 3) := by decide +kernel
theorem dM_weaken_179 : decode cM_weaken 179 = .ok (.iconst 0, 1) := by decide +kernel
theorem dM_weaken_180 : decode cM_weaken 180 = .ok (.istore_n 3, 1) := by decide +kernel
theorem dM_weaken_181 : decode cM_weaken 181 = .ok (.aload_n 0, 1) := by decide +kernel
theorem dM_weaken_182 : decode cM_weaken 182 = .ok (.getfield 56, 3) := by decide +kernel
theorem dM_weaken_185 : decode cM_weaken 185 = .ok (.iload_n 1, 1) := by decide +kernel
theorem dM_weaken_186 : decode cM_weaken 186 = .ok (.iaload, 1) := by decide +kernel
theorem dM_weaken_187 : decode cM_weaken 187 = .ok (.iconst 4, 1) := by decide +kernel
theorem dM_weaken_188 : decode cM_weaken 188 = .ok (.if_icmp .ne 12, 3) := by decide +kernel
theorem dM_weaken_191 : decode cM_weaken 191 = .ok (.iload_n 3, 1) := by decide +kernel
theorem dM_weaken_192 : decode cM_weaken 192 = .ok (.ifCond .eq 8, 3) := by decide +kernel
theorem dM_weaken_195 : decode cM_weaken 195 = .ok (.iload_n 2, 1) := by decide +kernel
theorem dM_weaken_196 : decode cM_weaken 196 = .ok (.iconst 3, 1) := by decide +kernel
theorem dM_weaken_197 : decode cM_weaken 197 = .ok (.if_icmp .eq 29, 3) := by decide +kernel
theorem dM_weaken_200 : decode cM_weaken 200 = .ok (.aload_n 0, 1) := by decide +kernel
theorem dM_weaken_201 : decode cM_weaken 201 = .ok (.getfield 56, 3) := by decide +kernel
theorem dM_weaken_204 : decode cM_weaken 204 = .ok (.iload_n 1, 1) := by decide +kernel
theorem dM_weaken_205 : decode cM_weaken 205 = .ok (.iaload, 1) := by decide +kernel
theorem dM_weaken_206 : decode cM_weaken 206 = .ok (.bipush 7, 2) := by decide +kernel
theorem dM_weaken_208 : decode cM_weaken 208 = .ok (.if_icmp .ne 22, 3) := by decide +kernel
theorem dM_weaken_211 : decode cM_weaken 211 = .ok (.iload_n 3, 1) := by decide +kernel
theorem dM_weaken_212 : decode cM_weaken 212 = .ok (.ifCond .eq 18, 3) := by decide +kernel
theorem dM_weaken_215 : decode cM_weaken 215 = .ok (.iload_n 2, 1) := by decide +kernel
theorem dM_weaken_216 : decode cM_weaken 216 = .ok (.iconst 3, 1) := by decide +kernel
theorem dM_weaken_217 : decode cM_weaken 217 = .ok (.if_icmp .eq 9, 3) := by decide +kernel
theorem dM_weaken_220 : decode cM_weaken 220 = .ok (.iload_n 2, 1) := by decide +kernel
theorem dM_weaken_221 : decode cM_weaken 221 = .ok (.bipush 6, 2) := by decide +kernel
theorem dM_weaken_223 : decode cM_weaken 223 = .ok (.if_icmp .ne 7, 3) := by decide +kernel
theorem dM_weaken_226 : decode cM_weaken 226 = .ok (.iconst 1, 1) := by decide +kernel
theorem dM_weaken_227 : decode cM_weaken 227 = .ok (.goto 4, 3) := by decide +kernel
theorem dM_weaken_230 : decode cM_weaken 230 = .ok (.iconst 0, 1) := by decide +kernel
theorem dM_weaken_231 : decode cM_weaken 231 = .ok (.istore 4, 2) := by decide +kernel
theorem dM_weaken_233 : decode cM_weaken 233 = .ok (.aload_n 0, 1) := by decide +kernel
theorem dM_weaken_234 : decode cM_weaken 234 = .ok (.getfield 56, 3) := by decide +kernel
theorem dM_weaken_237 : decode cM_weaken 237 = .ok (.iload_n 1, 1) := by decide +kernel
theorem dM_weaken_238 : decode cM_weaken 238 = .ok (.iload 4, 2) := by decide +kernel
theorem dM_weaken_240 : decode cM_weaken 240 = .ok (.ifCond .eq 7, 3) := by decide +kernel
theorem dM_weaken_243 : decode cM_weaken 243 = .ok (.iload_n 2, 1) := by decide +kernel
theorem dM_weaken_244 : decode cM_weaken 244 = .ok (.goto 9, 3) := by decide +kernel
theorem dM_weaken_247 : decode cM_weaken 247 = .ok (.aload_n 0, 1) := by decide +kernel
theorem dM_weaken_248 : decode cM_weaken 248 = .ok (.getfield 56, 3) := by decide +kernel
theorem dM_weaken_251 : decode cM_weaken 251 = .ok (.iload_n 1, 1) := by decide +kernel
theorem dM_weaken_252 : decode cM_weaken 252 = .ok (.iaload, 1) := by decide +kernel
theorem dM_weaken_253 : decode cM_weaken 253 = .ok (.iastore, 1) := by decide +kernel
theorem dM_weaken_254 : decode cM_weaken 254 = .ok (.iinc 1 1, 3) := by decide +kernel
theorem dM_weaken_257 : decode cM_weaken 257 = .ok (.goto (-111), 3) := by decide +kernel
theorem dM_weaken_260 : decode cM_weaken 260 = .ok (.aload_n 0, 1) := by decide +kernel
theorem dM_weaken_261 : decode cM_weaken 261 = .ok (.invokevirtual 162, 3) := by decide +kernel
theorem dM_weaken_264 : decode cM_weaken 264 = .ok (.iconst 1, 1) := by decide +kernel
theorem dM_weaken_265 : decode cM_weaken 265 = .ok (.istore_n 1, 1) := by decide +kernel
theorem dM_weaken_266 : decode cM_weaken 266 = .ok (.iload_n 1, 1) := by decide +kernel
theorem dM_weaken_267 : decode cM_weaken 267 = .ok (.aload_n 0, 1) := by decide +kernel
theorem dM_weaken_268 : decode cM_weaken 268 = .ok (.getfield 77, 3) := by decide +kernel
theorem dM_weaken_271 : decode cM_weaken 271 = .ok (.if_icmp .gt 57, 3) := by decide +kernel
theorem dM_weaken_274 : decode cM_weaken 274 = .ok (.aload_n 0, 1) := by decide +kernel
theorem dM_weaken_275 : decode cM_weaken 275 = .ok (.getfield 56, 3) := by decide +kernel
theorem dM_weaken_278 : decode cM_weaken 278 = .ok (.iload_n 1, 1) := by decide +kernel
theorem dM_weaken_279 : decode cM_weaken 279 = .ok (.aload_n 0, 1) := by decide +kernel
theorem dM_weaken_280 : decode cM_weaken 280 = .ok (.getfield 56, 3) := by decide +kernel
theorem dM_weaken_283 : decode cM_weaken 283 = .ok (.iload_n 1, 1) := by decide +kernel
theorem dM_weaken_284 : decode cM_weaken 284 = .ok (.iaload, 1) := by decide +kernel
theorem dM_weaken_285 : decode cM_weaken 285 = .ok (.iconst 4, 1) := by decide +kernel
theorem dM_weaken_286 : decode cM_weaken 286 = .ok (.if_icmp .eq 24, 3) := by decide +kernel
theorem dM_weaken_289 : decode cM_weaken 289 = .ok (.aload_n 0, 1) := by decide +kernel
theorem dM_weaken_290 : decode cM_weaken 290 = .ok (.getfield 56, 3) := by decide +kernel
theorem dM_weaken_293 : decode cM_weaken 293 = .ok (.iload_n 1, 1) := by decide +kernel
theorem dM_weaken_294 : decode cM_weaken 294 = .ok (.iaload, 1) := by decide +kernel
theorem dM_weaken_295 : decode cM_weaken 295 = .ok (.iconst 5, 1) := by decide +kernel
theorem dM_weaken_296 : decode cM_weaken 296 = .ok (.if_icmp .eq 14, 3) := by decide +kernel
theorem dM_weaken_299 : decode cM_weaken 299 = .ok (.aload_n 0, 1) := by decide +kernel
theorem dM_weaken_300 : decode cM_weaken 300 = .ok (.getfield 56, 3) := by decide +kernel
theorem dM_weaken_303 : decode cM_weaken 303 = .ok (.iload_n 1, 1) := by decide +kernel
theorem dM_weaken_304 : decode cM_weaken 304 = .ok (.iaload, 1) := by decide +kernel
theorem dM_weaken_305 : decode cM_weaken 305 = .ok (.bipush 7, 2) := by decide +kernel
theorem dM_weaken_307 : decode cM_weaken 307 = .ok (.if_icmp .ne 8, 3) := by decide +kernel
theorem dM_weaken_310 : decode cM_weaken 310 = .ok (.bipush 11, 2) := by decide +kernel
theorem dM_weaken_312 : decode cM_weaken 312 = .ok (.goto 9, 3) := by decide +kernel
theorem dM_weaken_315 : decode cM_weaken 315 = .ok (.aload_n 0, 1) := by decide +kernel
theorem dM_weaken_316 : decode cM_weaken 316 = .ok (.getfield 56, 3) := by decide +kernel
theorem dM_weaken_319 : decode cM_weaken 319 = .ok (.iload_n 1, 1) := by decide +kernel
theorem dM_weaken_320 : decode cM_weaken 320 = .ok (.iaload, 1) := by decide +kernel
theorem dM_weaken_321 : decode cM_weaken 321 = .ok (.iastore, 1) := by decide +kernel
theorem dM_weaken_322 : decode cM_weaken 322 = .ok (.iinc 1 1, 3) := by decide +kernel
theorem dM_weaken_325 : decode cM_weaken 325 = .ok (.goto (-59), 3) := by decide +kernel
theorem dM_weaken_328 : decode cM_weaken 328 = .ok (.iconst 1, 1) := by decide +kernel
theorem dM_weaken_329 : decode cM_weaken 329 = .ok (.istore_n 1, 1) := by decide +kernel
theorem dM_weaken_330 : decode cM_weaken 330 = .ok (.iload_n 1, 1) := by decide +kernel
theorem dM_weaken_331 : decode cM_weaken 331 = .ok (.aload_n 0, 1) := by decide +kernel
theorem dM_weaken_332 : decode cM_weaken 332 = .ok (.getfield 77, 3) := by decide +kernel
theorem dM_weaken_335 : decode cM_weaken 335 = .ok (.if_icmp .gt 43, 3) := by decide +kernel
theorem dM_weaken_338 : decode cM_weaken 338 = .ok (.aload_n 0, 1) := by decide +kernel
theorem dM_weaken_339 : decode cM_weaken 339 = .ok (.getfield 56, 3) := by decide +kernel
theorem dM_weaken_342 : decode cM_weaken 342 = .ok (.iload_n 1, 1) := by decide +kernel
theorem dM_weaken_343 : decode cM_weaken 343 = .ok (.aload_n 0, 1) := by decide +kernel
theorem dM_weaken_344 : decode cM_weaken 344 = .ok (.getfield 56, 3) := by decide +kernel
theorem dM_weaken_347 : decode cM_weaken 347 = .ok (.iload_n 1, 1) := by decide +kernel
theorem dM_weaken_348 : decode cM_weaken 348 = .ok (.iaload, 1) := by decide +kernel
theorem dM_weaken_349 : decode cM_weaken 349 = .ok (.iconst 3, 1) := by decide +kernel
theorem dM_weaken_350 : decode cM_weaken 350 = .ok (.if_icmp .ne 15, 3) := by decide +kernel
theorem dM_weaken_353 : decode cM_weaken 353 = .ok (.aload_n 0, 1) := by decide +kernel
theorem dM_weaken_354 : decode cM_weaken 354 = .ok (.iload_n 1, 1) := by decide +kernel
theorem dM_weaken_355 : decode cM_weaken 355 = .ok (.invokevirtual 159, 3) := by decide +kernel
theorem dM_weaken_358 : decode cM_weaken 358 = .ok (.ifCond .ne 7, 3) := by decide +kernel
theorem dM_weaken_361 : decode cM_weaken 361 = .ok (.iconst 0, 1) := by decide +kernel
theorem dM_weaken_362 : decode cM_weaken 362 = .ok (.goto 9, 3) := by decide +kernel
theorem dM_weaken_365 : decode cM_weaken 365 = .ok (.aload_n 0, 1) := by decide +kernel
theorem dM_weaken_366 : decode cM_weaken 366 = .ok (.getfield 56, 3) := by decide +kernel
theorem dM_weaken_369 : decode cM_weaken 369 = .ok (.iload_n 1, 1) := by decide +kernel
theorem dM_weaken_370 : decode cM_weaken 370 = .ok (.iaload, 1) := by decide +kernel
theorem dM_weaken_371 : decode cM_weaken 371 = .ok (.iastore, 1) := by decide +kernel
theorem dM_weaken_372 : decode cM_weaken 372 = .ok (.iinc 1 1, 3) := by decide +kernel
theorem dM_weaken_375 : decode cM_weaken 375 = .ok (.goto (-45), 3) := by decide +kernel
theorem dM_weaken_378 : decode cM_weaken 378 = .ok (.return_, 1) := by decide +kernel
theorem dM_units_0 : decode cM_units 0 = .ok (.iconst 1, 1) := by decide +kernel
theorem dM_units_1 : decode cM_units 1 = .ok (.istore_n 1, 1) := by decide +kernel
theorem dM_units_2 : decode cM_units 2 = .ok (.iload_n 1, 1) := by decide +kernel
theorem dM_units_3 : decode cM_units 3 = .ok (.aload_n 0, 1) := by decide +kernel
theorem dM_units_4 : decode cM_units 4 = .ok (.getfield 77, 3) := by decide +kernel
theorem dM_units_7 : decode cM_units 7 = .ok (.if_icmp .gt 105, 3) := by decide +kernel
theorem dM_units_10 : decode cM_units 10 = .ok (.iload_n 1, 1) := by decide +kernel
theorem dM_units_11 : decode cM_units 11 = .ok (.istore_n 2, 1) := by decide +kernel
theorem dM_units_12 : decode cM_units 12 = .ok (.iload_n 2, 1) := by decide +kernel
theorem dM_units_13 : decode cM_units 13 = .ok (.aload_n 0, 1) := by decide +kernel
theorem dM_units_14 : decode cM_units 14 = .ok (.getfield 77, 3) := by decide +kernel
theorem dM_units_17 : decode cM_units 17 = .ok (.if_icmp .gt 19, 3) := by decide +kernel
theorem dM_units_20 : decode cM_units 20 = .ok (.aload_n 0, 1) := by decide +kernel
theorem dM_units_21 : decode cM_units 21 = .ok (.getfield 56, 3) := by decide +kernel
theorem dM_units_24 : decode cM_units 24 = .ok (.iload_n 2, 1) := by decide +kernel
theorem dM_units_25 : decode cM_units 25 = .ok (.iaload, 1) := by decide +kernel
theorem dM_units_26 : decode cM_units 26 = .ok (.iconst 5, 1) := by decide +kernel
theorem dM_units_27 : decode cM_units 27 = .ok (.if_icmp .ne 9, 3) := by decide +kernel
theorem dM_units_30 : decode cM_units 30 = .ok (.iinc 2 1, 3) := by decide +kernel
theorem dM_units_33 : decode cM_units 33 = .ok (.goto (-21), 3) := by decide +kernel
theorem dM_units_36 : decode cM_units 36 = .ok (.iload_n 2, 1) := by decide +kernel
theorem dM_units_37 : decode cM_units 37 = .ok (.iload_n 1, 1) := by decide +kernel
theorem dM_units_38 : decode cM_units 38 = .ok (.if_icmp .le 29, 3) := by decide +kernel
theorem dM_units_41 : decode cM_units 41 = .ok (.aload_n 0, 1) := by decide +kernel
theorem dM_units_42 : decode cM_units 42 = .ok (.getfield 56, 3) := by decide +kernel
theorem dM_units_45 : decode cM_units 45 = .ok (.iload_n 1, 1) := by decide +kernel
theorem dM_units_46 : decode cM_units 46 = .ok (.iconst 1, 1) := by decide +kernel
theorem dM_units_47 : decode cM_units 47 = .ok (.isub, 1) := by decide +kernel
theorem dM_units_48 : decode cM_units 48 = .ok (.iaload, 1) := by decide +kernel
theorem dM_units_49 : decode cM_units 49 = .ok (.iconst 3, 1) := by decide +kernel
theorem dM_units_50 : decode cM_units 50 = .ok (.if_icmp .eq 13, 3) := by decide +kernel
theorem dM_units_53 : decode cM_units 53 = .ok (.aload_n 0, 1) := by decide +kernel
theorem dM_units_54 : decode cM_units 54 = .ok (.getfield 56, 3) := by decide +kernel
theorem dM_units_57 : decode cM_units 57 = .ok (.iload_n 2, 1) := by decide +kernel
theorem dM_units_58 : decode cM_units 58 = .ok (.iaload, 1) := by decide +kernel
theorem dM_units_59 : decode cM_units 59 = .ok (.iconst 3, 1) := by decide +kernel
theorem dM_units_60 : decode cM_units 60 = .ok (.if_icmp .ne 7, 3) := by decide +kernel
theorem dM_units_63 : decode cM_units 63 = .ok (.iconst 1, 1) := by decide +kernel
theorem dM_units_64 : decode cM_units 64 = .ok (.goto 4, 3) := by decide +kernel
theorem dM_units_67 : decode cM_units 67 = .ok (.iconst 0, 1) := by decide +kernel
theorem dM_units_68 : decode cM_units 68 = .ok (.istore_n 3, 1) := by decide +kernel
theorem dM_units_69 : decode cM_units 69 = .ok (.iload_n 1, 1) := by decide +kernel
theorem dM_units_70 : decode cM_units 70 = .ok (.istore 4, 2) := by decide +kernel
theorem dM_units_72 : decode cM_units 72 = .ok (.iload 4, 2) := by decide +kernel
theorem dM_units_74 : decode cM_units 74 = .ok (.iload_n 2, 1) := by decide +kernel
theorem dM_units_75 : decode cM_units 75 = .ok (.if_icmp .ge 21, 3) := by decide +kernel
theorem dM_units_78 : decode cM_units 78 = .ok (.iload_n 3, 1) := by decide +kernel
theorem dM_units_79 : decode cM_units 79 = .ok (.ifCond .eq 17, 3) := by decide +kernel
theorem dM_units_82 : decode cM_units 82 = .ok (.aload_n 0, 1) := by decide +kernel
theorem dM_units_83 : decode cM_units 83 = .ok (.getfield 56, 3) := by decide +kernel
theorem dM_units_86 : decode cM_units 86 = .ok (.iload 4, 2) := by decide +kernel
theorem dM_units_88 : decode cM_units 88 = .ok (.iconst 3, 1) := by decide +kernel
theorem dM_units_89 : decode cM_units 89 = .ok (.iastore, 1) := by decide +kernel
theorem dM_units_90 : decode cM_units 90 = .ok (.iinc 4 1, 3) := by decide +kernel
theorem dM_units_93 : decode cM_units 93 = .ok (.goto (-21), 3) := by decide +kernel
theorem dM_units_96 : decode cM_units 96 = .ok (.iload_n 2, 1) := by decide +kernel
theorem dM_units_97 : decode cM_units 97 = .ok (.iload_n 1, 1) := by decide +kernel
theorem dM_units_98 : decode cM_units 98 = .ok (.if_icmp .le 7, 3) := by decide +kernel
theorem dM_units_101 : decode cM_units 101 = .ok (.iload_n 2, 1) := by decide +kernel
theorem dM_units_102 : decode cM_units 102 = .ok (.goto 6, 3) := by decide +kernel
theorem dM_units_105 : decode cM_units 105 = .ok (.iload_n 1, 1) := by decide +kernel
theorem dM_units_106 : decode cM_units 106 = .ok (.iconst 1, 1) := by decide +kernel
theorem dM_units_107 : decode cM_units 107 = .ok (.iadd, 1) := by decide +kernel
theorem dM_units_108 : decode cM_units 108 = .ok (.istore_n 1, 1) := by decide +kernel
theorem dM_units_109 : decode cM_units 109 = .ok (.goto (-107), 3) := by decide +kernel
theorem dM_units_112 : decode cM_units 112 = .ok (.return_, 1) := by decide +kernel
theorem dM_neutral_0 : decode cM_neutral 0 = .ok (.iload_n 1, 1) := by decide +kernel
theorem dM_neutral_1 : decode cM_neutral 1 = .ok (.bipush 8, 2) := by decide +kernel
theorem dM_neutral_3 : decode cM_neutral 3 = .ok (.if_icmp .le 7, 3) := by decide +kernel
theorem dM_neutral_6 : decode cM_neutral 6 = .ok (.iconst 1, 1) := by decide +kernel
theorem dM_neutral_7 : decode cM_neutral 7 = .ok (.goto 4, 3) := by decide +kernel
theorem dM_neutral_10 : decode cM_neutral 10 = .ok (.iconst 0, 1) := by decide +kernel
theorem dM_neutral_11 : decode cM_neutral 11 = .ok (.ireturn, 1) := by decide +kernel
theorem dM_neutrals_0 : decode cM_neutrals 0 = .ok (.iconst 1, 1) := by decide +kernel
theorem dM_neutrals_1 : decode cM_neutrals 1 = .ok (.istore_n 2, 1) := by decide +kernel
theorem dM_neutrals_2 : decode cM_neutrals 2 = .ok (.iload_n 2, 1) := by decide +kernel
theorem dM_neutrals_3 : decode cM_neutrals 3 = .ok (.aload_n 0, 1) := by decide +kernel
theorem dM_neutrals_4 : decode cM_neutrals 4 = .ok (.getfield 77, 3) := by decide +kernel
theorem dM_neutrals_7 : decode cM_neutrals 7 = .ok (.if_icmp .gt 143, 3) := by decide +kernel
theorem dM_neutrals_10 : decode cM_neutrals 10 = .ok (.iload_n 2, 1) := by decide +kernel
theorem dM_neutrals_11 : decode cM_neutrals 11 = .ok (.istore_n 3, 1) := by decide +kernel
theorem dM_neutrals_12 : decode cM_neutrals 12 = .ok (.iload_n 3, 1) := by decide +kernel
theorem dM_neutrals_13 : decode cM_neutrals 13 = .ok (.aload_n 0, 1) := by decide +kernel
theorem dM_neutrals_14 : decode cM_neutrals 14 = .ok (.getfield 77, 3) := by decide +kernel
theorem dM_neutrals_17 : decode cM_neutrals 17 = .ok (.if_icmp .gt 22, 3) := by decide +kernel
theorem dM_neutrals_20 : decode cM_neutrals 20 = .ok (.aload_n 0, 1) := by decide +kernel
theorem dM_neutrals_21 : decode cM_neutrals 21 = .ok (.aload_n 0, 1) := by decide +kernel
theorem dM_neutrals_22 : decode cM_neutrals 22 = .ok (.getfield 56, 3) := by decide +kernel
theorem dM_neutrals_25 : decode cM_neutrals 25 = .ok (.iload_n 3, 1) := by decide +kernel
theorem dM_neutrals_26 : decode cM_neutrals 26 = .ok (.iaload, 1) := by decide +kernel
theorem dM_neutrals_27 : decode cM_neutrals 27 = .ok (.invokevirtual 165, 3) := by decide +kernel
theorem dM_neutrals_30 : decode cM_neutrals 30 = .ok (.ifCond .eq 9, 3) := by decide +kernel
theorem dM_neutrals_33 : decode cM_neutrals 33 = .ok (.iinc 3 1, 3) := by decide +kernel
theorem dM_neutrals_36 : decode cM_neutrals 36 = .ok (.goto (-24), 3) := by decide +kernel
theorem dM_neutrals_39 : decode cM_neutrals 39 = .ok (.aload_n 0, 1) := by decide +kernel
theorem dM_neutrals_40 : decode cM_neutrals 40 = .ok (.getfield 56, 3) := by decide +kernel
theorem dM_neutrals_43 : decode cM_neutrals 43 = .ok (.iload_n 2, 1) := by decide +kernel
theorem dM_neutrals_44 : decode cM_neutrals 44 = .ok (.iconst 1, 1) := by decide +kernel
theorem dM_neutrals_45 : decode cM_neutrals 45 = .ok (.isub, 1) := by decide +kernel
theorem dM_neutrals_46 : decode cM_neutrals 46 = .ok (.iaload, 1) := by decide +kernel
theorem dM_neutrals_47 : decode cM_neutrals 47 = .ok (.ifCond .ne 16, 3) := by decide +kernel
theorem dM_neutrals_50 : decode cM_neutrals 50 = .ok (.aload_n 0, 1) := by decide +kernel
theorem dM_neutrals_51 : decode cM_neutrals 51 = .ok (.getfield 56, 3) := by decide +kernel
theorem dM_neutrals_54 : decode cM_neutrals 54 = .ok (.iload_n 3, 1) := by decide +kernel
theorem dM_neutrals_55 : decode cM_neutrals 55 = .ok (.iaload, 1) := by decide +kernel
theorem dM_neutrals_56 : decode cM_neutrals 56 = .ok (.ifCond .ne 7, 3) := by decide +kernel
theorem dM_neutrals_59 : decode cM_neutrals 59 = .ok (.iconst 1, 1) := by decide +kernel
theorem dM_neutrals_60 : decode cM_neutrals 60 = .ok (.goto 4, 3) := by decide +kernel
theorem dM_neutrals_63 : decode cM_neutrals 63 = .ok (.iconst 0, 1) := by decide +kernel
theorem dM_neutrals_64 : decode cM_neutrals 64 = .ok (.istore 4, 2) := by decide +kernel
theorem dM_neutrals_66 : decode cM_neutrals 66 = .ok (.aload_n 0, 1) := by decide +kernel
theorem dM_neutrals_67 : decode cM_neutrals 67 = .ok (.getfield 56, 3) := by decide +kernel
theorem dM_neutrals_70 : decode cM_neutrals 70 = .ok (.iload_n 2, 1) := by decide +kernel
theorem dM_neutrals_71 : decode cM_neutrals 71 = .ok (.iconst 1, 1) := by decide +kernel
theorem dM_neutrals_72 : decode cM_neutrals 72 = .ok (.isub, 1) := by decide +kernel
theorem dM_neutrals_73 : decode cM_neutrals 73 = .ok (.iaload, 1) := by decide +kernel
theorem dM_neutrals_74 : decode cM_neutrals 74 = .ok (.ifCond .le 16, 3) := by decide +kernel
theorem dM_neutrals_77 : decode cM_neutrals 77 = .ok (.aload_n 0, 1) := by decide +kernel
theorem dM_neutrals_78 : decode cM_neutrals 78 = .ok (.getfield 56, 3) := by decide +kernel
theorem dM_neutrals_81 : decode cM_neutrals 81 = .ok (.iload_n 3, 1) := by decide +kernel
theorem dM_neutrals_82 : decode cM_neutrals 82 = .ok (.iaload, 1) := by decide +kernel
theorem dM_neutrals_83 : decode cM_neutrals 83 = .ok (.ifCond .le 7, 3) := by decide +kernel
theorem dM_neutrals_86 : decode cM_neutrals 86 = .ok (.iconst 1, 1) := by decide +kernel
theorem dM_neutrals_87 : decode cM_neutrals 87 = .ok (.goto 4, 3) := by decide +kernel
theorem dM_neutrals_90 : decode cM_neutrals 90 = .ok (.iconst 0, 1) := by decide +kernel
theorem dM_neutrals_91 : decode cM_neutrals 91 = .ok (.istore 5, 2) := by decide +kernel
theorem dM_neutrals_93 : decode cM_neutrals 93 = .ok (.iload_n 2, 1) := by decide +kernel
theorem dM_neutrals_94 : decode cM_neutrals 94 = .ok (.istore 6, 2) := by decide +kernel
theorem dM_neutrals_96 : decode cM_neutrals 96 = .ok (.iload 6, 2) := by decide +kernel
theorem dM_neutrals_98 : decode cM_neutrals 98 = .ok (.iload_n 3, 1) := by decide +kernel
theorem dM_neutrals_99 : decode cM_neutrals 99 = .ok (.if_icmp .ge 35, 3) := by decide +kernel
theorem dM_neutrals_102 : decode cM_neutrals 102 = .ok (.aload_n 0, 1) := by decide +kernel
theorem dM_neutrals_103 : decode cM_neutrals 103 = .ok (.getfield 56, 3) := by decide +kernel
theorem dM_neutrals_106 : decode cM_neutrals 106 = .ok (.iload 6, 2) := by decide +kernel
theorem dM_neutrals_108 : decode cM_neutrals 108 = .ok (.iload 4, 2) := by decide +kernel
theorem dM_neutrals_110 : decode cM_neutrals 110 = .ok (.ifCond .eq 7, 3) := by decide +kernel
theorem dM_neutrals_113 : decode cM_neutrals 113 = .ok (.iconst 0, 1) := by decide +kernel
theorem dM_neutrals_114 : decode cM_neutrals 114 = .ok (.goto 13, 3) := by decide +kernel
theorem dM_neutrals_117 : decode cM_neutrals 117 = .ok (.iload 5, 2) := by decide +kernel
theorem dM_neutrals_119 : decode cM_neutrals 119 = .ok (.ifCond .eq 7, 3) := by decide +kernel
theorem dM_neutrals_122 : decode cM_neutrals 122 = .ok (.iconst 1, 1) := by decide +kernel
theorem dM_neutrals_123 : decode cM_neutrals 123 = .ok (.goto 4, 3) := by decide +kernel
theorem dM_neutrals_126 : decode cM_neutrals 126 = .ok (.iload_n 1, 1) := by decide +kernel
theorem dM_neutrals_127 : decode cM_neutrals 127 = .ok (.iastore, 1) := by decide +kernel
theorem dM_neutrals_128 : decode cM_neutrals 128 = .ok (.iinc 6 1, 3) := by decide +kernel
theorem dM_neutrals_131 : decode cM_neutrals 131 = .ok (.goto (-35), 3) := by decide +kernel
theorem dM_neutrals_134 : decode cM_neutrals 134 = .ok (.iload_n 3, 1) := by decide +kernel
theorem dM_neutrals_135 : decode cM_neutrals 135 = .ok (.iload_n 2, 1) := by decide +kernel
theorem dM_neutrals_136 : decode cM_neutrals 136 = .ok (.if_icmp .le 7, 3) := by decide +kernel
theorem dM_neutrals_139 : decode cM_neutrals 139 = .ok (.iload_n 3, 1) := by decide +kernel
theorem dM_neutrals_140 : decode cM_neutrals 140 = .ok (.goto 6, 3) := by decide +kernel
theorem dM_neutrals_143 : decode cM_neutrals 143 = .ok (.iload_n 2, 1) := by decide +kernel
theorem dM_neutrals_144 : decode cM_neutrals 144 = .ok (.iconst 1, 1) := by decide +kernel
theorem dM_neutrals_145 : decode cM_neutrals 145 = .ok (.iadd, 1) := by decide +kernel
theorem dM_neutrals_146 : decode cM_neutrals 146 = .ok (.istore_n 2, 1) := by decide +kernel
theorem dM_neutrals_147 : decode cM_neutrals 147 = .ok (.goto (-145), 3) := by decide +kernel
theorem dM_neutrals_150 : decode cM_neutrals 150 = .ok (.return_, 1) := by decide +kernel
theorem dM_findLevels_0 : decode cM_findLevels 0 = .ok (.aload_n 0, 1) := by decide +kernel
theorem dM_findLevels_1 : decode cM_findLevels 1 = .ok (.iload_n 1, 1) := by decide +kernel
theorem dM_findLevels_2 : decode cM_findLevels 2 = .ok (.invokevirtual 168, 3) := by decide +kernel
theorem dM_findLevels_5 : decode cM_findLevels 5 = .ok (.istore_n 2, 1) := by decide +kernel
theorem dM_findLevels_6 : decode cM_findLevels 6 = .ok (.aload_n 0, 1) := by decide +kernel
theorem dM_findLevels_7 : decode cM_findLevels 7 = .ok (.getfield 56, 3) := by decide +kernel
theorem dM_findLevels_10 : decode cM_findLevels 10 = .ok (.iconst 0, 1) := by decide +kernel
theorem dM_findLevels_11 : decode cM_findLevels 11 = .ok (.iload_n 2, 1) := by decide +kernel
theorem dM_findLevels_12 : decode cM_findLevels 12 = .ok (.iastore, 1) := by decide +kernel
theorem dM_findLevels_13 : decode cM_findLevels 13 = .ok (.aload_n 0, 1) := by decide +kernel
theorem dM_findLevels_14 : decode cM_findLevels 14 = .ok (.getfield 56, 3) := by decide +kernel
theorem dM_findLevels_17 : decode cM_findLevels 17 = .ok (.aload_n 0, 1) := by decide +kernel
theorem dM_findLevels_18 : decode cM_findLevels 18 = .ok (.getfield 77, 3) := by decide +kernel
theorem dM_findLevels_21 : decode cM_findLevels 21 = .ok (.iconst 1, 1) := by decide +kernel
theorem dM_findLevels_22 : decode cM_findLevels 22 = .ok (.iadd, 1) := by decide +kernel
theorem dM_findLevels_23 : decode cM_findLevels 23 = .ok (.iload_n 2, 1) := by decide +kernel
theorem dM_findLevels_24 : decode cM_findLevels 24 = .ok (.iastore, 1) := by decide +kernel
theorem dM_findLevels_25 : decode cM_findLevels 25 = .ok (.iconst 0, 1) := by decide +kernel
theorem dM_findLevels_26 : decode cM_findLevels 26 = .ok (.istore_n 3, 1) := by decide +kernel
theorem dM_findLevels_27 : decode cM_findLevels 27 = .ok (.iload_n 3, 1) := by decide +kernel
theorem dM_findLevels_28 : decode cM_findLevels 28 = .ok (.aload_n 0, 1) := by decide +kernel
theorem dM_findLevels_29 : decode cM_findLevels 29 = .ok (.getfield 77, 3) := by decide +kernel
theorem dM_findLevels_32 : decode cM_findLevels 32 = .ok (.if_icmp .ge 27, 3) := by decide +kernel
theorem dM_findLevels_35 : decode cM_findLevels 35 = .ok (.aload_n 0, 1) := by decide +kernel
theorem dM_findLevels_36 : decode cM_findLevels 36 = .ok (.getfield 56, 3) := by decide +kernel
theorem dM_findLevels_39 : decode cM_findLevels 39 = .ok (.iload_n 3, 1) := by decide +kernel
theorem dM_findLevels_40 : decode cM_findLevels 40 = .ok (.iconst 1, 1) := by decide +kernel
theorem dM_findLevels_41 : decode cM_findLevels 41 = .ok (.iadd, 1) := by decide +kernel
theorem dM_findLevels_42 : decode cM_findLevels 42 = .ok (.aload_n 0, 1) := by decide +kernel
theorem dM_findLevels_43 : decode cM_findLevels 43 = .ok (.aload_n 0, 1) := by decide +kernel
theorem dM_findLevels_44 : decode cM_findLevels 44 = .ok (.getfield 26, 3) := by decide +kernel
theorem dM_findLevels_47 : decode cM_findLevels 47 = .ok (.iload_n 3, 1) := by decide +kernel
theorem dM_findLevels_48 : decode cM_findLevels 48 = .ok (.iaload, 1) := by decide +kernel
theorem dM_findLevels_49 : decode cM_findLevels 49 = .ok (.invokevirtual 156, 3) := by decide +kernel
theorem dM_findLevels_52 : decode cM_findLevels 52 = .ok (.iastore, 1) := by decide +kernel
theorem dM_findLevels_53 : decode cM_findLevels 53 = .ok (.iinc 3 1, 3) := by decide +kernel
theorem dM_findLevels_56 : decode cM_findLevels 56 = .ok (.goto (-29), 3) := by decide +kernel
theorem dM_findLevels_59 : decode cM_findLevels 59 = .ok (.aload_n 0, 1) := by decide +kernel
theorem dM_findLevels_60 : decode cM_findLevels 60 = .ok (.invokevirtual 171, 3) := by decide +kernel
theorem dM_findLevels_63 : decode cM_findLevels 63 = .ok (.aload_n 0, 1) := by decide +kernel
theorem dM_findLevels_64 : decode cM_findLevels 64 = .ok (.iload_n 2, 1) := by decide +kernel
theorem dM_findLevels_65 : decode cM_findLevels 65 = .ok (.invokevirtual 174, 3) := by decide +kernel
theorem dM_findLevels_68 : decode cM_findLevels 68 = .ok (.iconst 0, 1) := by decide +kernel
theorem dM_findLevels_69 : decode cM_findLevels 69 = .ok (.istore_n 3, 1) := by decide +kernel
theorem dM_findLevels_70 : decode cM_findLevels 70 = .ok (.iload_n 3, 1) := by decide +kernel
theorem dM_findLevels_71 : decode cM_findLevels 71 = .ok (.aload_n 0, 1) := by decide +kernel
theorem dM_findLevels_72 : decode cM_findLevels 72 = .ok (.getfield 77, 3) := by decide +kernel
theorem dM_findLevels_75 : decode cM_findLevels 75 = .ok (.if_icmp .ge 55, 3) := by decide +kernel
theorem dM_findLevels_78 : decode cM_findLevels 78 = .ok (.aload_n 0, 1) := by decide +kernel
theorem dM_findLevels_79 : decode cM_findLevels 79 = .ok (.getfield 56, 3) := by decide +kernel
theorem dM_findLevels_82 : decode cM_findLevels 82 = .ok (.iload_n 3, 1) := by decide +kernel
theorem dM_findLevels_83 : decode cM_findLevels 83 = .ok (.iconst 1, 1) := by decide +kernel
theorem dM_findLevels_84 : decode cM_findLevels 84 = .ok (.iadd, 1) := by decide +kernel
theorem dM_findLevels_85 : decode cM_findLevels 85 = .ok (.iaload, 1) := by decide +kernel
theorem dM_findLevels_86 : decode cM_findLevels 86 = .ok (.istore 4, 2) := by decide +kernel
theorem dM_findLevels_88 : decode cM_findLevels 88 = .ok (.aload_n 0, 1) := by decide +kernel
theorem dM_findLevels_89 : decode cM_findLevels 89 = .ok (.getfield 59, 3) := by decide +kernel
theorem dM_findLevels_92 : decode cM_findLevels 92 = .ok (.iload_n 3, 1) := by decide +kernel
theorem dM_findLevels_93 : decode cM_findLevels 93 = .ok (.iload_n 2, 1) := by decide +kernel
theorem dM_findLevels_94 : decode cM_findLevels 94 = .ok (.ifCond .ne 18, 3) := by decide +kernel
theorem dM_findLevels_97 : decode cM_findLevels 97 = .ok (.iload 4, 2) := by decide +kernel
theorem dM_findLevels_99 : decode cM_findLevels 99 = .ok (.iconst 2, 1) := by decide +kernel
theorem dM_findLevels_100 : decode cM_findLevels 100 = .ok (.if_icmp .ge 8, 3) := by decide +kernel
theorem dM_findLevels_103 : decode cM_findLevels 103 = .ok (.iload 4, 2) := by decide +kernel
theorem dM_findLevels_105 : decode cM_findLevels 105 = .ok (.goto 18, 3) := by decide +kernel
theorem dM_findLevels_108 : decode cM_findLevels 108 = .ok (.iconst 2, 1) := by decide +kernel
theorem dM_findLevels_109 : decode cM_findLevels 109 = .ok (.goto 14, 3) := by decide +kernel
theorem dM_findLevels_112 : decode cM_findLevels 112 = .ok (.iload 4, 2) := by decide +kernel
theorem dM_findLevels_114 : decode cM_findLevels 114 = .ok (.iconst 1, 1) := by decide +kernel
theorem dM_findLevels_115 : decode cM_findLevels 115 = .ok (.if_icmp .ne 7, 3) := by decide +kernel
theorem dM_findLevels_118 : decode cM_findLevels 118 = .ok (.iconst 1, 1) := by decide +kernel
theorem dM_findLevels_119 : decode cM_findLevels 119 = .ok (.goto 4, 3) := by decide +kernel
theorem dM_findLevels_122 : decode cM_findLevels 122 = .ok (.iconst 2, 1) := by decide +kernel
theorem dM_findLevels_123 : decode cM_findLevels 123 = .ok (.iastore, 1) := by decide +kernel
theorem dM_findLevels_124 : decode cM_findLevels 124 = .ok (.iinc 3 1, 3) := by decide +kernel
theorem dM_findLevels_127 : decode cM_findLevels 127 = .ok (.goto (-57), 3) := by decide +kernel
theorem dM_findLevels_130 : decode cM_findLevels 130 = .ok (.iconst 1, 1) := by decide +kernel
theorem dM_findLevels_131 : decode cM_findLevels 131 = .ok (.istore_n 3, 1) := by decide +kernel
theorem dM_findLevels_132 : decode cM_findLevels 132 = .ok (.aload_n 0, 1) := by decide +kernel
theorem dM_findLevels_133 : decode cM_findLevels 133 = .ok (.getfield 77, 3) := by decide +kernel
theorem dM_findLevels_136 : decode cM_findLevels 136 = .ok (.iconst 1, 1) := by decide +kernel
theorem dM_findLevels_137 : decode cM_findLevels 137 = .ok (.isub, 1) := by decide +kernel
theorem dM_findLevels_138 : decode cM_findLevels 138 = .ok (.istore 4, 2) := by decide +kernel
theorem dM_findLevels_140 : decode cM_findLevels 140 = .ok (.iload 4, 2) := by decide +kernel
theorem dM_findLevels_142 : decode cM_findLevels 142 = .ok (.ifCond .lt 68, 3) := by decide +kernel
theorem dM_findLevels_145 : decode cM_findLevels 145 = .ok (.aload_n 0, 1) := by decide +kernel
theorem dM_findLevels_146 : decode cM_findLevels 146 = .ok (.aload_n 0, 1) := by decide +kernel
theorem dM_findLevels_147 : decode cM_findLevels 147 = .ok (.getfield 26, 3) := by decide +kernel
theorem dM_findLevels_150 : decode cM_findLevels 150 = .ok (.iload 4, 2) := by decide +kernel
theorem dM_findLevels_152 : decode cM_findLevels 152 = .ok (.iaload, 1) := by decide +kernel
theorem dM_findLevels_153 : decode cM_findLevels 153 = .ok (.invokevirtual 156, 3) := by decide +kernel
theorem dM_findLevels_156 : decode cM_findLevels 156 = .ok (.istore 5, 2) := by decide +kernel
theorem dM_findLevels_158 : decode cM_findLevels 158 = .ok (.iload 5, 2) := by decide +kernel
theorem dM_findLevels_160 : decode cM_findLevels 160 = .ok (.bipush 10, 2) := by decide +kernel
theorem dM_findLevels_162 : decode cM_findLevels 162 = .ok (.if_icmp .eq 14, 3) := by decide +kernel
theorem dM_findLevels_165 : decode cM_findLevels 165 = .ok (.iload 5, 2) := by decide +kernel
theorem dM_findLevels_167 : decode cM_findLevels 167 = .ok (.bipush 9, 2) := by decide +kernel
theorem dM_findLevels_169 : decode cM_findLevels 169 = .ok (.if_icmp .ne 11, 3) := by decide +kernel
theorem dM_findLevels_172 : decode cM_findLevels 172 = .ok (.iload_n 3, 1) := by decide +kernel
theorem dM_findLevels_173 : decode cM_findLevels 173 = .ok (.ifCond .eq 7, 3) := by decide +kernel
theorem dM_findLevels_176 : decode cM_findLevels 176 = .ok (.iconst 1, 1) := by decide +kernel
theorem dM_findLevels_177 : decode cM_findLevels 177 = .ok (.goto 4, 3) := by decide +kernel
theorem dM_findLevels_180 : decode cM_findLevels 180 = .ok (.iconst 0, 1) := by decide +kernel
theorem dM_findLevels_181 : decode cM_findLevels 181 = .ok (.istore_n 3, 1) := by decide +kernel
theorem dM_findLevels_182 : decode cM_findLevels 182 = .ok (.aload_n 0, 1) := by decide +kernel
theorem dM_findLevels_183 : decode cM_findLevels 183 = .ok (.getfield 59, 3) := by decide +kernel
theorem dM_findLevels_186 : decode cM_findLevels 186 = .ok (.iload 4, 2) := by decide +kernel
theorem dM_findLevels_188 : decode cM_findLevels 188 = .ok (.iload_n 3, 1) := by decide +kernel
theorem dM_findLevels_189 : decode cM_findLevels 189 = .ok (.ifCond .eq 7, 3) := by decide +kernel
theorem dM_findLevels_192 : decode cM_findLevels 192 = .ok (.iload_n 2, 1) := by decide +kernel
theorem dM_findLevels_193 : decode cM_findLevels 193 = .ok (.goto 10, 3) := by decide +kernel
theorem dM_findLevels_196 : decode cM_findLevels 196 = .ok (.aload_n 0, 1) := by decide +kernel
theorem dM_findLevels_197 : decode cM_findLevels 197 = .ok (.getfield 59, 3) := by decide +kernel
theorem dM_findLevels_200 : decode cM_findLevels 200 = .ok (.iload 4, 2) := by decide +kernel
theorem dM_findLevels_202 : decode cM_findLevels 202 = .ok (.iaload, 1) := by decide +kernel
theorem dM_findLevels_203 : decode cM_findLevels 203 = .ok (.iastore, 1) := by decide +kernel
theorem dM_findLevels_204 : decode cM_findLevels 204 = .ok (.iinc 4 (-1), 3) := by decide +kernel
theorem dM_findLevels_207 : decode cM_findLevels 207 = .ok (.goto (-67), 3) := by decide +kernel
theorem dM_findLevels_210 : decode cM_findLevels 210 = .ok (.return_, 1) := by decide +kernel
theorem dM_level_0 : decode cM_level 0 = .ok (.aload_n 0, 1) := by decide +kernel
theorem dM_level_1 : decode cM_level 1 = .ok (.aload_n 0, 1) := by decide +kernel
theorem dM_level_2 : decode cM_level 2 = .ok (.iload_n 1, 1) := by decide +kernel
theorem dM_level_3 : decode cM_level 3 = .ok (.aload_n 0, 1) := by decide +kernel
theorem dM_level_4 : decode cM_level 4 = .ok (.getfield 77, 3) := by decide +kernel
theorem dM_level_7 : decode cM_level 7 = .ok (.invokevirtual 80, 3) := by decide +kernel
theorem dM_level_10 : decode cM_level 10 = .ok (.ifCond .eq 7, 3) := by decide +kernel
theorem dM_level_13 : decode cM_level 13 = .ok (.iconst 1, 1) := by decide +kernel
theorem dM_level_14 : decode cM_level 14 = .ok (.goto 4, 3) := by decide +kernel
theorem dM_level_17 : decode cM_level 17 = .ok (.iconst 0, 1) := by decide +kernel
theorem dM_level_18 : decode cM_level 18 = .ok (.putfield 65, 3) := by decide +kernel
theorem dM_level_21 : decode cM_level 21 = .ok (.aload_n 0, 1) := by decide +kernel
theorem dM_level_22 : decode cM_level 22 = .ok (.getfield 65, 3) := by decide +kernel
theorem dM_level_25 : decode cM_level 25 = .ok (.ifCond .eq 5, 3) := by decide +kernel
theorem dM_level_28 : decode cM_level 28 = .ok (.iconst 0, 1) := by decide +kernel
theorem dM_level_29 : decode cM_level 29 = .ok (.ireturn, 1) := by decide +kernel
theorem dM_level_30 : decode cM_level 30 = .ok (.aload_n 0, 1) := by decide +kernel
theorem dM_level_31 : decode cM_level 31 = .ok (.iload_n 2, 1) := by decide +kernel
theorem dM_level_32 : decode cM_level 32 = .ok (.invokevirtual 177, 3) := by decide +kernel
theorem dM_level_35 : decode cM_level 35 = .ok (.aload_n 0, 1) := by decide +kernel
theorem dM_level_36 : decode cM_level 36 = .ok (.getfield 59, 3) := by decide +kernel
theorem dM_level_39 : decode cM_level 39 = .ok (.iload_n 1, 1) := by decide +kernel
theorem dM_level_40 : decode cM_level 40 = .ok (.iaload, 1) := by decide +kernel
theorem dM_level_41 : decode cM_level 41 = .ok (.ireturn, 1) := by decide +kernel
theorem dM_turnRound_0 : decode cM_turnRound 0 = .ok (.iload_n 1, 1) := by decide +kernel
theorem dM_turnRound_1 : decode cM_turnRound 1 = .ok (.istore_n 3, 1) := by decide +kernel
theorem dM_turnRound_2 : decode cM_turnRound 2 = .ok (.iload_n 2, 1) := by decide +kernel
theorem dM_turnRound_3 : decode cM_turnRound 3 = .ok (.iconst 1, 1) := by decide +kernel
theorem dM_turnRound_4 : decode cM_turnRound 4 = .ok (.isub, 1) := by decide +kernel
theorem dM_turnRound_5 : decode cM_turnRound 5 = .ok (.istore 4, 2) := by decide +kernel
theorem dM_turnRound_7 : decode cM_turnRound 7 = .ok (.iload_n 3, 1) := by decide +kernel
theorem dM_turnRound_8 : decode cM_turnRound 8 = .ok (.iload 4, 2) := by decide +kernel
theorem dM_turnRound_10 : decode cM_turnRound 10 = .ok (.if_icmp .ge 42, 3) := by decide +kernel
theorem dM_turnRound_13 : decode cM_turnRound 13 = .ok (.aload_n 0, 1) := by decide +kernel
theorem dM_turnRound_14 : decode cM_turnRound 14 = .ok (.getfield 62, 3) := by decide +kernel
theorem dM_turnRound_17 : decode cM_turnRound 17 = .ok (.iload_n 3, 1) := by decide +kernel
theorem dM_turnRound_18 : decode cM_turnRound 18 = .ok (.iaload, 1) := by decide +kernel
theorem dM_turnRound_19 : decode cM_turnRound 19 = .ok (.istore 5, 2) := by decide +kernel
theorem dM_turnRound_21 : decode cM_turnRound 21 = .ok (.aload_n 0, 1) := by decide +kernel
theorem dM_turnRound_22 : decode cM_turnRound 22 = .ok (.getfield 62, 3) := by decide +kernel
theorem dM_turnRound_25 : decode cM_turnRound 25 = .ok (.iload_n 3, 1) := by decide +kernel
theorem dM_turnRound_26 : decode cM_turnRound 26 = .ok (.aload_n 0, 1) := by decide +kernel
theorem dM_turnRound_27 : decode cM_turnRound 27 = .ok (.getfield 62, 3) := by decide +kernel
theorem dM_turnRound_30 : decode cM_turnRound 30 = .ok (.iload 4, 2) := by decide +kernel
theorem dM_turnRound_32 : decode cM_turnRound 32 = .ok (.iaload, 1) := by decide +kernel
theorem dM_turnRound_33 : decode cM_turnRound 33 = .ok (.iastore, 1) := by decide +kernel
theorem dM_turnRound_34 : decode cM_turnRound 34 = .ok (.aload_n 0, 1) := by decide +kernel
theorem dM_turnRound_35 : decode cM_turnRound 35 = .ok (.getfield 62, 3) := by decide +kernel
theorem dM_turnRound_38 : decode cM_turnRound 38 = .ok (.iload 4, 2) := by decide +kernel
theorem dM_turnRound_40 : decode cM_turnRound 40 = .ok (.iload 5, 2) := by decide +kernel
theorem dM_turnRound_42 : decode cM_turnRound 42 = .ok (.iastore, 1) := by decide +kernel
theorem dM_turnRound_43 : decode cM_turnRound 43 = .ok (.iinc 3 1, 3) := by decide +kernel
theorem dM_turnRound_46 : decode cM_turnRound 46 = .ok (.iinc 4 (-1), 3) := by decide +kernel
theorem dM_turnRound_49 : decode cM_turnRound 49 = .ok (.goto (-42), 3) := by decide +kernel
theorem dM_turnRound_52 : decode cM_turnRound 52 = .ok (.return_, 1) := by decide +kernel
theorem dM_order_0 : decode cM_order 0 = .ok (.aload_n 0, 1) := by decide +kernel
theorem dM_order_1 : decode cM_order 1 = .ok (.aload_n 0, 1) := by decide +kernel
theorem dM_order_2 : decode cM_order 2 = .ok (.iload_n 1, 1) := by decide +kernel
theorem dM_order_3 : decode cM_order 3 = .ok (.aload_n 0, 1) := by decide +kernel
theorem dM_order_4 : decode cM_order 4 = .ok (.getfield 77, 3) := by decide +kernel
theorem dM_order_7 : decode cM_order 7 = .ok (.invokevirtual 80, 3) := by decide +kernel
theorem dM_order_10 : decode cM_order 10 = .ok (.ifCond .eq 7, 3) := by decide +kernel
theorem dM_order_13 : decode cM_order 13 = .ok (.iconst 1, 1) := by decide +kernel
theorem dM_order_14 : decode cM_order 14 = .ok (.goto 4, 3) := by decide +kernel
theorem dM_order_17 : decode cM_order 17 = .ok (.iconst 0, 1) := by decide +kernel
theorem dM_order_18 : decode cM_order 18 = .ok (.putfield 65, 3) := by decide +kernel
theorem dM_order_21 : decode cM_order 21 = .ok (.aload_n 0, 1) := by decide +kernel
theorem dM_order_22 : decode cM_order 22 = .ok (.getfield 65, 3) := by decide +kernel
theorem dM_order_25 : decode cM_order 25 = .ok (.ifCond .eq 5, 3) := by decide +kernel
theorem dM_order_28 : decode cM_order 28 = .ok (.iconst 0, 1) := by decide +kernel
theorem dM_order_29 : decode cM_order 29 = .ok (.ireturn, 1) := by decide +kernel
theorem dM_order_30 : decode cM_order 30 = .ok (.aload_n 0, 1) := by decide +kernel
theorem dM_order_31 : decode cM_order 31 = .ok (.iload_n 2, 1) := by decide +kernel
theorem dM_order_32 : decode cM_order 32 = .ok (.invokevirtual 177, 3) := by decide +kernel
theorem dM_order_35 : decode cM_order 35 = .ok (.iconst 0, 1) := by decide +kernel
theorem dM_order_36 : decode cM_order 36 = .ok (.istore_n 3, 1) := by decide +kernel
theorem dM_order_37 : decode cM_order 37 = .ok (.iload_n 3, 1) := by decide +kernel
theorem dM_order_38 : decode cM_order 38 = .ok (.aload_n 0, 1) := by decide +kernel
theorem dM_order_39 : decode cM_order 39 = .ok (.getfield 77, 3) := by decide +kernel
theorem dM_order_42 : decode cM_order 42 = .ok (.if_icmp .ge 16, 3) := by decide +kernel
theorem dM_order_45 : decode cM_order 45 = .ok (.aload_n 0, 1) := by decide +kernel
theorem dM_order_46 : decode cM_order 46 = .ok (.getfield 62, 3) := by decide +kernel
theorem dM_order_49 : decode cM_order 49 = .ok (.iload_n 3, 1) := by decide +kernel
theorem dM_order_50 : decode cM_order 50 = .ok (.iload_n 3, 1) := by decide +kernel
theorem dM_order_51 : decode cM_order 51 = .ok (.iastore, 1) := by decide +kernel
theorem dM_order_52 : decode cM_order 52 = .ok (.iinc 3 1, 3) := by decide +kernel
theorem dM_order_55 : decode cM_order 55 = .ok (.goto (-18), 3) := by decide +kernel
theorem dM_order_58 : decode cM_order 58 = .ok (.iconst 2, 1) := by decide +kernel
theorem dM_order_59 : decode cM_order 59 = .ok (.istore_n 3, 1) := by decide +kernel
theorem dM_order_60 : decode cM_order 60 = .ok (.iload_n 3, 1) := by decide +kernel
theorem dM_order_61 : decode cM_order 61 = .ok (.ifCond .le 85, 3) := by decide +kernel
theorem dM_order_64 : decode cM_order 64 = .ok (.iconst 0, 1) := by decide +kernel
theorem dM_order_65 : decode cM_order 65 = .ok (.istore 4, 2) := by decide +kernel
theorem dM_order_67 : decode cM_order 67 = .ok (.iload 4, 2) := by decide +kernel
theorem dM_order_69 : decode cM_order 69 = .ok (.aload_n 0, 1) := by decide +kernel
theorem dM_order_70 : decode cM_order 70 = .ok (.getfield 77, 3) := by decide +kernel
theorem dM_order_73 : decode cM_order 73 = .ok (.if_icmp .ge 67, 3) := by decide +kernel
theorem dM_order_76 : decode cM_order 76 = .ok (.iload 4, 2) := by decide +kernel
theorem dM_order_78 : decode cM_order 78 = .ok (.istore 5, 2) := by decide +kernel
theorem dM_order_80 : decode cM_order 80 = .ok (.iload 5, 2) := by decide +kernel
theorem dM_order_82 : decode cM_order 82 = .ok (.aload_n 0, 1) := by decide +kernel
theorem dM_order_83 : decode cM_order 83 = .ok (.getfield 77, 3) := by decide +kernel
theorem dM_order_86 : decode cM_order 86 = .ok (.if_icmp .ge 25, 3) := by decide +kernel
theorem dM_order_89 : decode cM_order 89 = .ok (.aload_n 0, 1) := by decide +kernel
theorem dM_order_90 : decode cM_order 90 = .ok (.getfield 59, 3) := by decide +kernel
theorem dM_order_93 : decode cM_order 93 = .ok (.aload_n 0, 1) := by decide +kernel
theorem dM_order_94 : decode cM_order 94 = .ok (.getfield 62, 3) := by decide +kernel
theorem dM_order_97 : decode cM_order 97 = .ok (.iload 5, 2) := by decide +kernel
theorem dM_order_99 : decode cM_order 99 = .ok (.iaload, 1) := by decide +kernel
theorem dM_order_100 : decode cM_order 100 = .ok (.iaload, 1) := by decide +kernel
theorem dM_order_101 : decode cM_order 101 = .ok (.iload_n 3, 1) := by decide +kernel
theorem dM_order_102 : decode cM_order 102 = .ok (.if_icmp .lt 9, 3) := by decide +kernel
theorem dM_order_105 : decode cM_order 105 = .ok (.iinc 5 1, 3) := by decide +kernel
theorem dM_order_108 : decode cM_order 108 = .ok (.goto (-28), 3) := by decide +kernel
theorem dM_order_111 : decode cM_order 111 = .ok (.aload_n 0, 1) := by decide +kernel
theorem dM_order_112 : decode cM_order 112 = .ok (.iload 4, 2) := by decide +kernel
theorem dM_order_114 : decode cM_order 114 = .ok (.iload 5, 2) := by decide +kernel
theorem dM_order_116 : decode cM_order 116 = .ok (.invokevirtual 180, 3) := by decide +kernel
theorem dM_order_119 : decode cM_order 119 = .ok (.iload 5, 2) := by decide +kernel
theorem dM_order_121 : decode cM_order 121 = .ok (.iload 4, 2) := by decide +kernel
theorem dM_order_123 : decode cM_order 123 = .ok (.if_icmp .le 8, 3) := by decide +kernel
theorem dM_order_126 : decode cM_order 126 = .ok (.iload 5, 2) := by decide +kernel
theorem dM_order_128 : decode cM_order 128 = .ok (.goto 7, 3) := by decide +kernel
theorem dM_order_131 : decode cM_order 131 = .ok (.iload 4, 2) := by decide +kernel
theorem dM_order_133 : decode cM_order 133 = .ok (.iconst 1, 1) := by decide +kernel
theorem dM_order_134 : decode cM_order 134 = .ok (.iadd, 1) := by decide +kernel
theorem dM_order_135 : decode cM_order 135 = .ok (.istore 4, 2) := by decide +kernel
theorem dM_order_137 : decode cM_order 137 = .ok (.goto (-70), 3) := by decide +kernel
theorem dM_order_140 : decode cM_order 140 = .ok (.iinc 3 (-1), 3) := by decide +kernel
theorem dM_order_143 : decode cM_order 143 = .ok (.goto (-83), 3) := by decide +kernel
theorem dM_order_146 : decode cM_order 146 = .ok (.aload_n 0, 1) := by decide +kernel
theorem dM_order_147 : decode cM_order 147 = .ok (.getfield 62, 3) := by decide +kernel
theorem dM_order_150 : decode cM_order 150 = .ok (.iload_n 1, 1) := by decide +kernel
theorem dM_order_151 : decode cM_order 151 = .ok (.iaload, 1) := by decide +kernel
theorem dM_order_152 : decode cM_order 152 = .ok (.ireturn, 1) := by decide +kernel
theorem dM_findKey_0 : decode cM_findKey 0 = .ok (.aload_n 0, 1) := by decide +kernel
theorem dM_findKey_1 : decode cM_findKey 1 = .ok (.iconst 0, 1) := by decide +kernel
theorem dM_findKey_2 : decode cM_findKey 2 = .ok (.putfield 184, 3) := by decide +kernel
theorem dM_findKey_5 : decode cM_findKey 5 = .ok (.iconst 0, 1) := by decide +kernel
theorem dM_findKey_6 : decode cM_findKey 6 = .ok (.istore_n 1, 1) := by decide +kernel
theorem dM_findKey_7 : decode cM_findKey 7 = .ok (.iload_n 1, 1) := by decide +kernel
theorem dM_findKey_8 : decode cM_findKey 8 = .ok (.iconst 3, 1) := by decide +kernel
theorem dM_findKey_9 : decode cM_findKey 9 = .ok (.if_icmp .ge 85, 3) := by decide +kernel
theorem dM_findKey_12 : decode cM_findKey 12 = .ok (.iload_n 1, 1) := by decide +kernel
theorem dM_findKey_13 : decode cM_findKey 13 = .ok (.ifCond .le 23, 3) := by decide +kernel
theorem dM_findKey_16 : decode cM_findKey 16 = .ok (.aload_n 0, 1) := by decide +kernel
theorem dM_findKey_17 : decode cM_findKey 17 = .ok (.getfield 44, 3) := by decide +kernel
theorem dM_findKey_20 : decode cM_findKey 20 = .ok (.aload_n 0, 1) := by decide +kernel
theorem dM_findKey_21 : decode cM_findKey 21 = .ok (.getfield 184, 3) := by decide +kernel
theorem dM_findKey_24 : decode cM_findKey 24 = .ok (.iconst 0, 1) := by decide +kernel
theorem dM_findKey_25 : decode cM_findKey 25 = .ok (.iastore, 1) := by decide +kernel
theorem dM_findKey_26 : decode cM_findKey 26 = .ok (.aload_n 0, 1) := by decide +kernel
theorem dM_findKey_27 : decode cM_findKey 27 = .ok (.dup, 1) := by decide +kernel
theorem dM_findKey_28 : decode cM_findKey 28 = .ok (.getfield 184, 3) := by decide +kernel
theorem dM_findKey_31 : decode cM_findKey 31 = .ok (.iconst 1, 1) := by decide +kernel
theorem dM_findKey_32 : decode cM_findKey 32 = .ok (.iadd, 1) := by decide +kernel
theorem dM_findKey_33 : decode cM_findKey 33 = .ok (.putfield 184, 3) := by decide +kernel
theorem dM_findKey_36 : decode cM_findKey 36 = .ok (.iconst 0, 1) := by decide +kernel
theorem dM_findKey_37 : decode cM_findKey 37 = .ok (.istore_n 2, 1) := by decide +kernel
theorem dM_findKey_38 : decode cM_findKey 38 = .ok (.iload_n 2, 1) := by decide +kernel
theorem dM_findKey_39 : decode cM_findKey 39 = .ok (.aload_n 0, 1) := by decide +kernel
theorem dM_findKey_40 : decode cM_findKey 40 = .ok (.getfield 84, 3) := by decide +kernel
theorem dM_findKey_43 : decode cM_findKey 43 = .ok (.if_icmp .ge 45, 3) := by decide +kernel
theorem dM_findKey_46 : decode cM_findKey 46 = .ok (.aload_n 0, 1) := by decide +kernel
theorem dM_findKey_47 : decode cM_findKey 47 = .ok (.aload_n 0, 1) := by decide +kernel
theorem dM_findKey_48 : decode cM_findKey 48 = .ok (.getfield 35, 3) := by decide +kernel
theorem dM_findKey_51 : decode cM_findKey 51 = .ok (.iload_n 2, 1) := by decide +kernel
theorem dM_findKey_52 : decode cM_findKey 52 = .ok (.iaload, 1) := by decide +kernel
theorem dM_findKey_53 : decode cM_findKey 53 = .ok (.iload_n 1, 1) := by decide +kernel
theorem dM_findKey_54 : decode cM_findKey 54 = .ok (.invokevirtual 187, 3) := by decide +kernel
theorem dM_findKey_57 : decode cM_findKey 57 = .ok (.istore_n 3, 1) := by decide +kernel
theorem dM_findKey_58 : decode cM_findKey 58 = .ok (.iload_n 3, 1) := by decide +kernel
theorem dM_findKey_59 : decode cM_findKey 59 = .ok (.ifCond .le 23, 3) := by decide +kernel
theorem dM_findKey_62 : decode cM_findKey 62 = .ok (.aload_n 0, 1) := by decide +kernel
theorem dM_findKey_63 : decode cM_findKey 63 = .ok (.getfield 44, 3) := by decide +kernel
theorem dM_findKey_66 : decode cM_findKey 66 = .ok (.aload_n 0, 1) := by decide +kernel
theorem dM_findKey_67 : decode cM_findKey 67 = .ok (.getfield 184, 3) := by decide +kernel
theorem dM_findKey_70 : decode cM_findKey 70 = .ok (.iload_n 3, 1) := by decide +kernel
theorem dM_findKey_71 : decode cM_findKey 71 = .ok (.iastore, 1) := by decide +kernel
theorem dM_findKey_72 : decode cM_findKey 72 = .ok (.aload_n 0, 1) := by decide +kernel
theorem dM_findKey_73 : decode cM_findKey 73 = .ok (.dup, 1) := by decide +kernel
theorem dM_findKey_74 : decode cM_findKey 74 = .ok (.getfield 184, 3) := by decide +kernel
theorem dM_findKey_77 : decode cM_findKey 77 = .ok (.iconst 1, 1) := by decide +kernel
theorem dM_findKey_78 : decode cM_findKey 78 = .ok (.iadd, 1) := by decide +kernel
theorem dM_findKey_79 : decode cM_findKey 79 = .ok (.putfield 184, 3) := by decide +kernel
theorem dM_findKey_82 : decode cM_findKey 82 = .ok (.iinc 2 1, 3) := by decide +kernel
theorem dM_findKey_85 : decode cM_findKey 85 = .ok (.goto (-47), 3) := by decide +kernel
theorem dM_findKey_88 : decode cM_findKey 88 = .ok (.iinc 1 1, 3) := by decide +kernel
theorem dM_findKey_91 : decode cM_findKey 91 = .ok (.goto (-84), 3) := by decide +kernel
theorem dM_findKey_94 : decode cM_findKey 94 = .ok (.return_, 1) := by decide +kernel
theorem dM_key_0 : decode cM_key 0 = .ok (.aload_n 0, 1) := by decide +kernel
theorem dM_key_1 : decode cM_key 1 = .ok (.iconst 0, 1) := by decide +kernel
theorem dM_key_2 : decode cM_key 2 = .ok (.putfield 65, 3) := by decide +kernel
theorem dM_key_5 : decode cM_key 5 = .ok (.aload_n 0, 1) := by decide +kernel
theorem dM_key_6 : decode cM_key 6 = .ok (.invokevirtual 123, 3) := by decide +kernel
theorem dM_key_9 : decode cM_key 9 = .ok (.aload_n 0, 1) := by decide +kernel
theorem dM_key_10 : decode cM_key 10 = .ok (.invokevirtual 190, 3) := by decide +kernel
theorem dM_key_13 : decode cM_key 13 = .ok (.aload_n 0, 1) := by decide +kernel
theorem dM_key_14 : decode cM_key 14 = .ok (.getfield 184, 3) := by decide +kernel
theorem dM_key_17 : decode cM_key 17 = .ok (.ireturn, 1) := by decide +kernel
theorem dM_keyAt_0 : decode cM_keyAt 0 = .ok (.aload_n 0, 1) := by decide +kernel
theorem dM_keyAt_1 : decode cM_keyAt 1 = .ok (.invokevirtual 123, 3) := by decide +kernel
theorem dM_keyAt_4 : decode cM_keyAt 4 = .ok (.aload_n 0, 1) := by decide +kernel
theorem dM_keyAt_5 : decode cM_keyAt 5 = .ok (.invokevirtual 190, 3) := by decide +kernel
theorem dM_keyAt_8 : decode cM_keyAt 8 = .ok (.aload_n 0, 1) := by decide +kernel
theorem dM_keyAt_9 : decode cM_keyAt 9 = .ok (.aload_n 0, 1) := by decide +kernel
theorem dM_keyAt_10 : decode cM_keyAt 10 = .ok (.iload_n 1, 1) := by decide +kernel
theorem dM_keyAt_11 : decode cM_keyAt 11 = .ok (.aload_n 0, 1) := by decide +kernel
theorem dM_keyAt_12 : decode cM_keyAt 12 = .ok (.getfield 184, 3) := by decide +kernel
theorem dM_keyAt_15 : decode cM_keyAt 15 = .ok (.invokevirtual 80, 3) := by decide +kernel
theorem dM_keyAt_18 : decode cM_keyAt 18 = .ok (.ifCond .eq 7, 3) := by decide +kernel
theorem dM_keyAt_21 : decode cM_keyAt 21 = .ok (.iconst 1, 1) := by decide +kernel
theorem dM_keyAt_22 : decode cM_keyAt 22 = .ok (.goto 4, 3) := by decide +kernel
theorem dM_keyAt_25 : decode cM_keyAt 25 = .ok (.iconst 0, 1) := by decide +kernel
theorem dM_keyAt_26 : decode cM_keyAt 26 = .ok (.putfield 65, 3) := by decide +kernel
theorem dM_keyAt_29 : decode cM_keyAt 29 = .ok (.aload_n 0, 1) := by decide +kernel
theorem dM_keyAt_30 : decode cM_keyAt 30 = .ok (.getfield 65, 3) := by decide +kernel
theorem dM_keyAt_33 : decode cM_keyAt 33 = .ok (.ifCond .ne 12, 3) := by decide +kernel
theorem dM_keyAt_36 : decode cM_keyAt 36 = .ok (.aload_n 0, 1) := by decide +kernel
theorem dM_keyAt_37 : decode cM_keyAt 37 = .ok (.getfield 44, 3) := by decide +kernel
theorem dM_keyAt_40 : decode cM_keyAt 40 = .ok (.iload_n 1, 1) := by decide +kernel
theorem dM_keyAt_41 : decode cM_keyAt 41 = .ok (.iaload, 1) := by decide +kernel
theorem dM_keyAt_42 : decode cM_keyAt 42 = .ok (.goto 4, 3) := by decide +kernel
theorem dM_keyAt_45 : decode cM_keyAt 45 = .ok (.iconst 0, 1) := by decide +kernel
theorem dM_keyAt_46 : decode cM_keyAt 46 = .ok (.ireturn, 1) := by decide +kernel
theorem dM_noSlot_0 : decode cM_noSlot 0 = .ok (.iload_n 1, 1) := by decide +kernel
theorem dM_noSlot_1 : decode cM_noSlot 1 = .ok (.ifCond .lt 8, 3) := by decide +kernel
theorem dM_noSlot_4 : decode cM_noSlot 4 = .ok (.iload_n 1, 1) := by decide +kernel
theorem dM_noSlot_5 : decode cM_noSlot 5 = .ok (.iconst 3, 1) := by decide +kernel
theorem dM_noSlot_6 : decode cM_noSlot 6 = .ok (.if_icmp .le 7, 3) := by decide +kernel
theorem dM_noSlot_9 : decode cM_noSlot 9 = .ok (.iconst 1, 1) := by decide +kernel
theorem dM_noSlot_10 : decode cM_noSlot 10 = .ok (.goto 4, 3) := by decide +kernel
theorem dM_noSlot_13 : decode cM_noSlot 13 = .ok (.iconst 0, 1) := by decide +kernel
theorem dM_noSlot_14 : decode cM_noSlot 14 = .ok (.ireturn, 1) := by decide +kernel
theorem dM_keep_0 : decode cM_keep 0 = .ok (.aload_n 0, 1) := by decide +kernel
theorem dM_keep_1 : decode cM_keep 1 = .ok (.aload_n 0, 1) := by decide +kernel
theorem dM_keep_2 : decode cM_keep 2 = .ok (.iload_n 1, 1) := by decide +kernel
theorem dM_keep_3 : decode cM_keep 3 = .ok (.invokevirtual 193, 3) := by decide +kernel
theorem dM_keep_6 : decode cM_keep 6 = .ok (.ifCond .eq 7, 3) := by decide +kernel
theorem dM_keep_9 : decode cM_keep 9 = .ok (.iconst 1, 1) := by decide +kernel
theorem dM_keep_10 : decode cM_keep 10 = .ok (.goto 4, 3) := by decide +kernel
theorem dM_keep_13 : decode cM_keep 13 = .ok (.iconst 0, 1) := by decide +kernel
theorem dM_keep_14 : decode cM_keep 14 = .ok (.putfield 65, 3) := by decide +kernel
theorem dM_keep_17 : decode cM_keep 17 = .ok (.aload_n 0, 1) := by decide +kernel
theorem dM_keep_18 : decode cM_keep 18 = .ok (.getfield 65, 3) := by decide +kernel
theorem dM_keep_21 : decode cM_keep 21 = .ok (.ifCond .ne 46, 3) := by decide +kernel
theorem dM_keep_24 : decode cM_keep 24 = .ok (.aload_n 0, 1) := by decide +kernel
theorem dM_keep_25 : decode cM_keep 25 = .ok (.getfield 29, 3) := by decide +kernel
theorem dM_keep_28 : decode cM_keep 28 = .ok (.iload_n 1, 1) := by decide +kernel
theorem dM_keep_29 : decode cM_keep 29 = .ok (.aload_n 0, 1) := by decide +kernel
theorem dM_keep_30 : decode cM_keep 30 = .ok (.getfield 77, 3) := by decide +kernel
theorem dM_keep_33 : decode cM_keep 33 = .ok (.iastore, 1) := by decide +kernel
theorem dM_keep_34 : decode cM_keep 34 = .ok (.iconst 0, 1) := by decide +kernel
theorem dM_keep_35 : decode cM_keep 35 = .ok (.istore_n 2, 1) := by decide +kernel
theorem dM_keep_36 : decode cM_keep 36 = .ok (.iload_n 2, 1) := by decide +kernel
theorem dM_keep_37 : decode cM_keep 37 = .ok (.aload_n 0, 1) := by decide +kernel
theorem dM_keep_38 : decode cM_keep 38 = .ok (.getfield 77, 3) := by decide +kernel
theorem dM_keep_41 : decode cM_keep 41 = .ok (.if_icmp .ge 26, 3) := by decide +kernel
theorem dM_keep_44 : decode cM_keep 44 = .ok (.aload_n 0, 1) := by decide +kernel
theorem dM_keep_45 : decode cM_keep 45 = .ok (.getfield 32, 3) := by decide +kernel
theorem dM_keep_48 : decode cM_keep 48 = .ok (.bipush 40, 2) := by decide +kernel
theorem dM_keep_50 : decode cM_keep 50 = .ok (.iload_n 1, 1) := by decide +kernel
theorem dM_keep_51 : decode cM_keep 51 = .ok (.imul, 1) := by decide +kernel
theorem dM_keep_52 : decode cM_keep 52 = .ok (.iload_n 2, 1) := by decide +kernel
theorem dM_keep_53 : decode cM_keep 53 = .ok (.iadd, 1) := by decide +kernel
theorem dM_keep_54 : decode cM_keep 54 = .ok (.aload_n 0, 1) := by decide +kernel
theorem dM_keep_55 : decode cM_keep 55 = .ok (.getfield 26, 3) := by decide +kernel
theorem dM_keep_58 : decode cM_keep 58 = .ok (.iload_n 2, 1) := by decide +kernel
theorem dM_keep_59 : decode cM_keep 59 = .ok (.iaload, 1) := by decide +kernel
theorem dM_keep_60 : decode cM_keep 60 = .ok (.iastore, 1) := by decide +kernel
theorem dM_keep_61 : decode cM_keep 61 = .ok (.iinc 2 1, 3) := by decide +kernel
theorem dM_keep_64 : decode cM_keep 64 = .ok (.goto (-28), 3) := by decide +kernel
theorem dM_keep_67 : decode cM_keep 67 = .ok (.return_, 1) := by decide +kernel
theorem dM_compare_0 : decode cM_compare 0 = .ok (.aload_n 0, 1) := by decide +kernel
theorem dM_compare_1 : decode cM_compare 1 = .ok (.aload_n 0, 1) := by decide +kernel
theorem dM_compare_2 : decode cM_compare 2 = .ok (.iload_n 1, 1) := by decide +kernel
theorem dM_compare_3 : decode cM_compare 3 = .ok (.invokevirtual 193, 3) := by decide +kernel
theorem dM_compare_6 : decode cM_compare 6 = .ok (.ifCond .eq 7, 3) := by decide +kernel
theorem dM_compare_9 : decode cM_compare 9 = .ok (.iconst 1, 1) := by decide +kernel
theorem dM_compare_10 : decode cM_compare 10 = .ok (.goto 4, 3) := by decide +kernel
theorem dM_compare_13 : decode cM_compare 13 = .ok (.iconst 0, 1) := by decide +kernel
theorem dM_compare_14 : decode cM_compare 14 = .ok (.putfield 65, 3) := by decide +kernel
theorem dM_compare_17 : decode cM_compare 17 = .ok (.aload_n 0, 1) := by decide +kernel
theorem dM_compare_18 : decode cM_compare 18 = .ok (.getfield 65, 3) := by decide +kernel
theorem dM_compare_21 : decode cM_compare 21 = .ok (.ifCond .eq 5, 3) := by decide +kernel
theorem dM_compare_24 : decode cM_compare 24 = .ok (.iconst 0, 1) := by decide +kernel
theorem dM_compare_25 : decode cM_compare 25 = .ok (.ireturn, 1) := by decide +kernel
theorem dM_compare_26 : decode cM_compare 26 = .ok (.aload_n 0, 1) := by decide +kernel
theorem dM_compare_27 : decode cM_compare 27 = .ok (.iload_n 1, 1) := by decide +kernel
theorem dM_compare_28 : decode cM_compare 28 = .ok (.invokevirtual 196, 3) := by decide +kernel
theorem dM_compare_31 : decode cM_compare 31 = .ok (.aload_n 0, 1) := by decide +kernel
theorem dM_compare_32 : decode cM_compare 32 = .ok (.invokevirtual 190, 3) := by decide +kernel
theorem dM_compare_35 : decode cM_compare 35 = .ok (.aload_n 0, 1) := by decide +kernel
theorem dM_compare_36 : decode cM_compare 36 = .ok (.aload_n 0, 1) := by decide +kernel
theorem dM_compare_37 : decode cM_compare 37 = .ok (.getfield 184, 3) := by decide +kernel
theorem dM_compare_40 : decode cM_compare 40 = .ok (.putfield 199, 3) := by decide +kernel
theorem dM_compare_43 : decode cM_compare 43 = .ok (.iconst 0, 1) := by decide +kernel
theorem dM_compare_44 : decode cM_compare 44 = .ok (.istore_n 2, 1) := by decide +kernel
theorem dM_compare_45 : decode cM_compare 45 = .ok (.iload_n 2, 1) := by decide +kernel
theorem dM_compare_46 : decode cM_compare 46 = .ok (.aload_n 0, 1) := by decide +kernel
theorem dM_compare_47 : decode cM_compare 47 = .ok (.getfield 184, 3) := by decide +kernel
theorem dM_compare_50 : decode cM_compare 50 = .ok (.if_icmp .ge 21, 3) := by decide +kernel
theorem dM_compare_53 : decode cM_compare 53 = .ok (.aload_n 0, 1) := by decide +kernel
theorem dM_compare_54 : decode cM_compare 54 = .ok (.getfield 47, 3) := by decide +kernel
theorem dM_compare_57 : decode cM_compare 57 = .ok (.iload_n 2, 1) := by decide +kernel
theorem dM_compare_58 : decode cM_compare 58 = .ok (.aload_n 0, 1) := by decide +kernel
theorem dM_compare_59 : decode cM_compare 59 = .ok (.getfield 44, 3) := by decide +kernel
theorem dM_compare_62 : decode cM_compare 62 = .ok (.iload_n 2, 1) := by decide +kernel
theorem dM_compare_63 : decode cM_compare 63 = .ok (.iaload, 1) := by decide +kernel
theorem dM_compare_64 : decode cM_compare 64 = .ok (.iastore, 1) := by decide +kernel
theorem dM_compare_65 : decode cM_compare 65 = .ok (.iinc 2 1, 3) := by decide +kernel
theorem dM_compare_68 : decode cM_compare 68 = .ok (.goto (-23), 3) := by decide +kernel
theorem dM_compare_71 : decode cM_compare 71 = .ok (.aload_n 0, 1) := by decide +kernel
theorem dM_compare_72 : decode cM_compare 72 = .ok (.invokevirtual 123, 3) := by decide +kernel
theorem dM_compare_75 : decode cM_compare 75 = .ok (.aload_n 0, 1) := by decide +kernel
theorem dM_compare_76 : decode cM_compare 76 = .ok (.invokevirtual 190, 3) := by decide +kernel
theorem dM_compare_79 : decode cM_compare 79 = .ok (.iconst 0, 1) := by decide +kernel
theorem dM_compare_80 : decode cM_compare 80 = .ok (.istore_n 2, 1) := by decide +kernel
theorem dM_compare_81 : decode cM_compare 81 = .ok (.iload_n 2, 1) := by decide +kernel
theorem dM_compare_82 : decode cM_compare 82 = .ok (.aload_n 0, 1) := by decide +kernel
theorem dM_compare_83 : decode cM_compare 83 = .ok (.getfield 184, 3) := by decide +kernel
theorem dM_compare_86 : decode cM_compare 86 = .ok (.if_icmp .ge 53, 3) := by decide +kernel
theorem dM_compare_89 : decode cM_compare 89 = .ok (.iload_n 2, 1) := by decide +kernel
theorem dM_compare_90 : decode cM_compare 90 = .ok (.aload_n 0, 1) := by decide +kernel
theorem dM_compare_91 : decode cM_compare 91 = .ok (.getfield 199, 3) := by decide +kernel
theorem dM_compare_94 : decode cM_compare 94 = .ok (.if_icmp .ge 45, 3) := by decide +kernel
theorem dM_compare_97 : decode cM_compare 97 = .ok (.aload_n 0, 1) := by decide +kernel
theorem dM_compare_98 : decode cM_compare 98 = .ok (.getfield 44, 3) := by decide +kernel
theorem dM_compare_101 : decode cM_compare 101 = .ok (.iload_n 2, 1) := by decide +kernel
theorem dM_compare_102 : decode cM_compare 102 = .ok (.iaload, 1) := by decide +kernel
theorem dM_compare_103 : decode cM_compare 103 = .ok (.aload_n 0, 1) := by decide +kernel
theorem dM_compare_104 : decode cM_compare 104 = .ok (.getfield 47, 3) := by decide +kernel
theorem dM_compare_107 : decode cM_compare 107 = .ok (.iload_n 2, 1) := by decide +kernel
theorem dM_compare_108 : decode cM_compare 108 = .ok (.iaload, 1) := by decide +kernel
theorem dM_compare_109 : decode cM_compare 109 = .ok (.if_icmp .eq 24, 3) := by decide +kernel
theorem dM_compare_112 : decode cM_compare 112 = .ok (.aload_n 0, 1) := by decide +kernel
theorem dM_compare_113 : decode cM_compare 113 = .ok (.getfield 44, 3) := by decide +kernel
theorem dM_compare_116 : decode cM_compare 116 = .ok (.iload_n 2, 1) := by decide +kernel
theorem dM_compare_117 : decode cM_compare 117 = .ok (.iaload, 1) := by decide +kernel
theorem dM_compare_118 : decode cM_compare 118 = .ok (.aload_n 0, 1) := by decide +kernel
theorem dM_compare_119 : decode cM_compare 119 = .ok (.getfield 47, 3) := by decide +kernel
theorem dM_compare_122 : decode cM_compare 122 = .ok (.iload_n 2, 1) := by decide +kernel
theorem dM_compare_123 : decode cM_compare 123 = .ok (.iaload, 1) := by decide +kernel
theorem dM_compare_124 : decode cM_compare 124 = .ok (.if_icmp .ge 7, 3) := by decide +kernel
theorem dM_compare_127 : decode cM_compare 127 = .ok (.iconst (-1), 1) := by decide +kernel
theorem dM_compare_128 : decode cM_compare 128 = .ok (.goto 4, 3) := by decide +kernel
theorem dM_compare_131 : decode cM_compare 131 = .ok (.iconst 1, 1) := by decide +kernel
theorem dM_compare_132 : decode cM_compare 132 = .ok (.ireturn, 1) := by decide +kernel
theorem dM_compare_133 : decode cM_compare 133 = .ok (.iinc 2 1, 3) := by decide +kernel
theorem dM_compare_136 : decode cM_compare 136 = .ok (.goto (-55), 3) := by decide +kernel
theorem dM_compare_139 : decode cM_compare 139 = .ok (.aload_n 0, 1) := by decide +kernel
theorem dM_compare_140 : decode cM_compare 140 = .ok (.getfield 184, 3) := by decide +kernel
theorem dM_compare_143 : decode cM_compare 143 = .ok (.aload_n 0, 1) := by decide +kernel
theorem dM_compare_144 : decode cM_compare 144 = .ok (.getfield 199, 3) := by decide +kernel
theorem dM_compare_147 : decode cM_compare 147 = .ok (.if_icmp .ge 7, 3) := by decide +kernel
theorem dM_compare_150 : decode cM_compare 150 = .ok (.iconst (-1), 1) := by decide +kernel
theorem dM_compare_151 : decode cM_compare 151 = .ok (.goto 19, 3) := by decide +kernel
theorem dM_compare_154 : decode cM_compare 154 = .ok (.aload_n 0, 1) := by decide +kernel
theorem dM_compare_155 : decode cM_compare 155 = .ok (.getfield 184, 3) := by decide +kernel
theorem dM_compare_158 : decode cM_compare 158 = .ok (.aload_n 0, 1) := by decide +kernel
theorem dM_compare_159 : decode cM_compare 159 = .ok (.getfield 199, 3) := by decide +kernel
theorem dM_compare_162 : decode cM_compare 162 = .ok (.if_icmp .le 7, 3) := by decide +kernel
theorem dM_compare_165 : decode cM_compare 165 = .ok (.iconst 1, 1) := by decide +kernel
theorem dM_compare_166 : decode cM_compare 166 = .ok (.goto 4, 3) := by decide +kernel
theorem dM_compare_169 : decode cM_compare 169 = .ok (.iconst 0, 1) := by decide +kernel
theorem dM_compare_170 : decode cM_compare 170 = .ok (.ireturn, 1) := by decide +kernel
theorem dM_same_0 : decode cM_same 0 = .ok (.aload_n 0, 1) := by decide +kernel
theorem dM_same_1 : decode cM_same 1 = .ok (.aload_n 0, 1) := by decide +kernel
theorem dM_same_2 : decode cM_same 2 = .ok (.iload_n 1, 1) := by decide +kernel
theorem dM_same_3 : decode cM_same 3 = .ok (.invokevirtual 193, 3) := by decide +kernel
theorem dM_same_6 : decode cM_same 6 = .ok (.ifCond .eq 7, 3) := by decide +kernel
theorem dM_same_9 : decode cM_same 9 = .ok (.iconst 1, 1) := by decide +kernel
theorem dM_same_10 : decode cM_same 10 = .ok (.goto 4, 3) := by decide +kernel
theorem dM_same_13 : decode cM_same 13 = .ok (.iconst 0, 1) := by decide +kernel
theorem dM_same_14 : decode cM_same 14 = .ok (.putfield 65, 3) := by decide +kernel
theorem dM_same_17 : decode cM_same 17 = .ok (.aload_n 0, 1) := by decide +kernel
theorem dM_same_18 : decode cM_same 18 = .ok (.getfield 65, 3) := by decide +kernel
theorem dM_same_21 : decode cM_same 21 = .ok (.ifCond .eq 5, 3) := by decide +kernel
theorem dM_same_24 : decode cM_same 24 = .ok (.iconst 0, 1) := by decide +kernel
theorem dM_same_25 : decode cM_same 25 = .ok (.ireturn, 1) := by decide +kernel
theorem dM_same_26 : decode cM_same 26 = .ok (.aload_n 0, 1) := by decide +kernel
theorem dM_same_27 : decode cM_same 27 = .ok (.iload_n 1, 1) := by decide +kernel
theorem dM_same_28 : decode cM_same 28 = .ok (.invokevirtual 196, 3) := by decide +kernel
theorem dM_same_31 : decode cM_same 31 = .ok (.aload_n 0, 1) := by decide +kernel
theorem dM_same_32 : decode cM_same 32 = .ok (.aload_n 0, 1) := by decide +kernel
theorem dM_same_33 : decode cM_same 33 = .ok (.getfield 84, 3) := by decide +kernel
theorem dM_same_36 : decode cM_same 36 = .ok (.putfield 202, 3) := by decide +kernel
theorem dM_same_39 : decode cM_same 39 = .ok (.iconst 0, 1) := by decide +kernel
theorem dM_same_40 : decode cM_same 40 = .ok (.istore_n 2, 1) := by decide +kernel
theorem dM_same_41 : decode cM_same 41 = .ok (.iload_n 2, 1) := by decide +kernel
theorem dM_same_42 : decode cM_same 42 = .ok (.aload_n 0, 1) := by decide +kernel
theorem dM_same_43 : decode cM_same 43 = .ok (.getfield 84, 3) := by decide +kernel
theorem dM_same_46 : decode cM_same 46 = .ok (.if_icmp .ge 21, 3) := by decide +kernel
theorem dM_same_49 : decode cM_same 49 = .ok (.aload_n 0, 1) := by decide +kernel
theorem dM_same_50 : decode cM_same 50 = .ok (.getfield 38, 3) := by decide +kernel
theorem dM_same_53 : decode cM_same 53 = .ok (.iload_n 2, 1) := by decide +kernel
theorem dM_same_54 : decode cM_same 54 = .ok (.aload_n 0, 1) := by decide +kernel
theorem dM_same_55 : decode cM_same 55 = .ok (.getfield 35, 3) := by decide +kernel
theorem dM_same_58 : decode cM_same 58 = .ok (.iload_n 2, 1) := by decide +kernel
theorem dM_same_59 : decode cM_same 59 = .ok (.iaload, 1) := by decide +kernel
theorem dM_same_60 : decode cM_same 60 = .ok (.iastore, 1) := by decide +kernel
theorem dM_same_61 : decode cM_same 61 = .ok (.iinc 2 1, 3) := by decide +kernel
theorem dM_same_64 : decode cM_same 64 = .ok (.goto (-23), 3) := by decide +kernel
theorem dM_same_67 : decode cM_same 67 = .ok (.aload_n 0, 1) := by decide +kernel
theorem dM_same_68 : decode cM_same 68 = .ok (.invokevirtual 123, 3) := by decide +kernel
theorem dM_same_71 : decode cM_same 71 = .ok (.aload_n 0, 1) := by decide +kernel
theorem dM_same_72 : decode cM_same 72 = .ok (.getfield 84, 3) := by decide +kernel
theorem dM_same_75 : decode cM_same 75 = .ok (.aload_n 0, 1) := by decide +kernel
theorem dM_same_76 : decode cM_same 76 = .ok (.getfield 202, 3) := by decide +kernel
theorem dM_same_79 : decode cM_same 79 = .ok (.if_icmp .ne 7, 3) := by decide +kernel
theorem dM_same_82 : decode cM_same 82 = .ok (.iconst 1, 1) := by decide +kernel
theorem dM_same_83 : decode cM_same 83 = .ok (.goto 4, 3) := by decide +kernel
theorem dM_same_86 : decode cM_same 86 = .ok (.iconst 0, 1) := by decide +kernel
theorem dM_same_87 : decode cM_same 87 = .ok (.istore_n 2, 1) := by decide +kernel
theorem dM_same_88 : decode cM_same 88 = .ok (.iconst 0, 1) := by decide +kernel
theorem dM_same_89 : decode cM_same 89 = .ok (.istore_n 3, 1) := by decide +kernel
theorem dM_same_90 : decode cM_same 90 = .ok (.iload_n 3, 1) := by decide +kernel
theorem dM_same_91 : decode cM_same 91 = .ok (.aload_n 0, 1) := by decide +kernel
theorem dM_same_92 : decode cM_same 92 = .ok (.getfield 84, 3) := by decide +kernel
theorem dM_same_95 : decode cM_same 95 = .ok (.if_icmp .ge 34, 3) := by decide +kernel
theorem dM_same_98 : decode cM_same 98 = .ok (.iload_n 2, 1) := by decide +kernel
theorem dM_same_99 : decode cM_same 99 = .ok (.ifCond .eq 30, 3) := by decide +kernel
theorem dM_same_102 : decode cM_same 102 = .ok (.aload_n 0, 1) := by decide +kernel
theorem dM_same_103 : decode cM_same 103 = .ok (.getfield 35, 3) := by decide +kernel
theorem dM_same_106 : decode cM_same 106 = .ok (.iload_n 3, 1) := by decide +kernel
theorem dM_same_107 : decode cM_same 107 = .ok (.iaload, 1) := by decide +kernel
theorem dM_same_108 : decode cM_same 108 = .ok (.aload_n 0, 1) := by decide +kernel
theorem dM_same_109 : decode cM_same 109 = .ok (.getfield 38, 3) := by decide +kernel
theorem dM_same_112 : decode cM_same 112 = .ok (.iload_n 3, 1) := by decide +kernel
theorem dM_same_113 : decode cM_same 113 = .ok (.iaload, 1) := by decide +kernel
theorem dM_same_114 : decode cM_same 114 = .ok (.if_icmp .ne 7, 3) := by decide +kernel
theorem dM_same_117 : decode cM_same 117 = .ok (.iconst 1, 1) := by decide +kernel
theorem dM_same_118 : decode cM_same 118 = .ok (.goto 4, 3) := by decide +kernel
theorem dM_same_121 : decode cM_same 121 = .ok (.iconst 0, 1) := by decide +kernel
theorem dM_same_122 : decode cM_same 122 = .ok (.istore_n 2, 1) := by decide +kernel
theorem dM_same_123 : decode cM_same 123 = .ok (.iinc 3 1, 3) := by decide +kernel
theorem dM_same_126 : decode cM_same 126 = .ok (.goto (-36), 3) := by decide +kernel
theorem dM_same_129 : decode cM_same 129 = .ok (.iload_n 2, 1) := by decide +kernel
theorem dM_same_130 : decode cM_same 130 = .ok (.ireturn, 1) := by decide +kernel
end
section
theorem dT_init_0 : decode cT_init 0 = .ok (.aload_n 0, 1) := by decide +kernel
theorem dT_init_1 : decode cT_init 1 = .ok (.invokespecial 1, 3) := by decide +kernel
theorem dT_init_4 : decode cT_init 4 = .ok (.aload_n 0, 1) := by decide +kernel
theorem dT_init_5 : decode cT_init 5 = .ok (.getstatic 7, 3) := by decide +kernel
theorem dT_init_8 : decode cT_init 8 = .ok (.arraylength, 1) := by decide +kernel
theorem dT_init_9 : decode cT_init 9 = .ok (.bipush 75, 2) := by decide +kernel
theorem dT_init_11 : decode cT_init 11 = .ok (.multianewarray 13 2, 4) := by decide +kernel
theorem dT_init_15 : decode cT_init 15 = .ok (.putfield 15, 3) := by decide +kernel
theorem dT_init_18 : decode cT_init 18 = .ok (.aload_n 0, 1) := by decide +kernel
theorem dT_init_19 : decode cT_init 19 = .ok (.bipush 75, 2) := by decide +kernel
theorem dT_init_21 : decode cT_init 21 = .ok (.newarray .int, 2) := by decide +kernel
theorem dT_init_23 : decode cT_init 23 = .ok (.putfield 18, 3) := by decide +kernel
theorem dT_init_26 : decode cT_init 26 = .ok (.aload_n 0, 1) := by decide +kernel
theorem dT_init_27 : decode cT_init 27 = .ok (.bipush 75, 2) := by decide +kernel
theorem dT_init_29 : decode cT_init 29 = .ok (.newarray .int, 2) := by decide +kernel
theorem dT_init_31 : decode cT_init 31 = .ok (.putfield 21, 3) := by decide +kernel
theorem dT_init_34 : decode cT_init 34 = .ok (.aload_n 0, 1) := by decide +kernel
theorem dT_init_35 : decode cT_init 35 = .ok (.bipush 75, 2) := by decide +kernel
theorem dT_init_37 : decode cT_init 37 = .ok (.newarray .boolean, 2) := by decide +kernel
theorem dT_init_39 : decode cT_init 39 = .ok (.putfield 24, 3) := by decide +kernel
theorem dT_init_42 : decode cT_init 42 = .ok (.aload_n 0, 1) := by decide +kernel
theorem dT_init_43 : decode cT_init 43 = .ok (.sipush 300, 3) := by decide +kernel
theorem dT_init_46 : decode cT_init 46 = .ok (.newarray .int, 2) := by decide +kernel
theorem dT_init_48 : decode cT_init 48 = .ok (.putfield 28, 3) := by decide +kernel
theorem dT_init_51 : decode cT_init 51 = .ok (.aload_n 0, 1) := by decide +kernel
theorem dT_init_52 : decode cT_init 52 = .ok (.bipush 75, 2) := by decide +kernel
theorem dT_init_54 : decode cT_init 54 = .ok (.newarray .int, 2) := by decide +kernel
theorem dT_init_56 : decode cT_init 56 = .ok (.putfield 31, 3) := by decide +kernel
theorem dT_init_59 : decode cT_init 59 = .ok (.aload_n 0, 1) := by decide +kernel
theorem dT_init_60 : decode cT_init 60 = .ok (.bipush 75, 2) := by decide +kernel
theorem dT_init_62 : decode cT_init 62 = .ok (.newarray .int, 2) := by decide +kernel
theorem dT_init_64 : decode cT_init 64 = .ok (.putfield 34, 3) := by decide +kernel
theorem dT_init_67 : decode cT_init 67 = .ok (.aload_n 0, 1) := by decide +kernel
theorem dT_init_68 : decode cT_init 68 = .ok (.invokevirtual 37, 3) := by decide +kernel
theorem dT_init_71 : decode cT_init 71 = .ok (.aload_n 0, 1) := by decide +kernel
theorem dT_init_72 : decode cT_init 72 = .ok (.invokevirtual 40, 3) := by decide +kernel
theorem dT_init_75 : decode cT_init 75 = .ok (.aload_n 0, 1) := by decide +kernel
theorem dT_init_76 : decode cT_init 76 = .ok (.invokevirtual 43, 3) := by decide +kernel
theorem dT_init_79 : decode cT_init 79 = .ok (.return_, 1) := by decide +kernel
theorem dT_isSettable_0 : decode cT_isSettable 0 = .ok (.iload_n 0, 1) := by decide +kernel
theorem dT_isSettable_1 : decode cT_isSettable 1 = .ok (.ifCond .lt 13, 3) := by decide +kernel
theorem dT_isSettable_4 : decode cT_isSettable 4 = .ok (.iload_n 0, 1) := by decide +kernel
theorem dT_isSettable_5 : decode cT_isSettable 5 = .ok (.bipush 40, 2) := by decide +kernel
theorem dT_isSettable_7 : decode cT_isSettable 7 = .ok (.if_icmp .ge 7, 3) := by decide +kernel
theorem dT_isSettable_10 : decode cT_isSettable 10 = .ok (.iconst 1, 1) := by decide +kernel
theorem dT_isSettable_11 : decode cT_isSettable 11 = .ok (.goto 4, 3) := by decide +kernel
theorem dT_isSettable_14 : decode cT_isSettable 14 = .ok (.iconst 0, 1) := by decide +kernel
theorem dT_isSettable_15 : decode cT_isSettable 15 = .ok (.ireturn, 1) := by decide +kernel
theorem dT_isInRange_0 : decode cT_isInRange 0 = .ok (.iload_n 0, 1) := by decide +kernel
theorem dT_isInRange_1 : decode cT_isInRange 1 = .ok (.ifCond .lt 28, 3) := by decide +kernel
theorem dT_isInRange_4 : decode cT_isInRange 4 = .ok (.iload_n 0, 1) := by decide +kernel
theorem dT_isInRange_5 : decode cT_isInRange 5 = .ok (.getstatic 7, 3) := by decide +kernel
theorem dT_isInRange_8 : decode cT_isInRange 8 = .ok (.arraylength, 1) := by decide +kernel
theorem dT_isInRange_9 : decode cT_isInRange 9 = .ok (.if_icmp .ge 20, 3) := by decide +kernel
theorem dT_isInRange_12 : decode cT_isInRange 12 = .ok (.iload_n 1, 1) := by decide +kernel
theorem dT_isInRange_13 : decode cT_isInRange 13 = .ok (.ifCond .lt 16, 3) := by decide +kernel
theorem dT_isInRange_16 : decode cT_isInRange 16 = .ok (.iload_n 1, 1) := by decide +kernel
theorem dT_isInRange_17 : decode cT_isInRange 17 = .ok (.getstatic 7, 3) := by decide +kernel
theorem dT_isInRange_20 : decode cT_isInRange 20 = .ok (.iload_n 0, 1) := by decide +kernel
theorem dT_isInRange_21 : decode cT_isInRange 21 = .ok (.iaload, 1) := by decide +kernel
theorem dT_isInRange_22 : decode cT_isInRange 22 = .ok (.if_icmp .gt 7, 3) := by decide +kernel
theorem dT_isInRange_25 : decode cT_isInRange 25 = .ok (.iconst 1, 1) := by decide +kernel
theorem dT_isInRange_26 : decode cT_isInRange 26 = .ok (.goto 4, 3) := by decide +kernel
theorem dT_isInRange_29 : decode cT_isInRange 29 = .ok (.iconst 0, 1) := by decide +kernel
theorem dT_isInRange_30 : decode cT_isInRange 30 = .ok (.ireturn, 1) := by decide +kernel
theorem dT_isParting_0 : decode cT_isParting 0 = .ok (.iload_n 0, 1) := by decide +kernel
theorem dT_isParting_1 : decode cT_isParting 1 = .ok (.invokestatic 46, 3) := by decide +kernel
theorem dT_isParting_4 : decode cT_isParting 4 = .ok (.ifCond .eq 23, 3) := by decide +kernel
theorem dT_isParting_7 : decode cT_isParting 7 = .ok (.iload_n 1, 1) := by decide +kernel
theorem dT_isParting_8 : decode cT_isParting 8 = .ok (.iconst (-1), 1) := by decide +kernel
theorem dT_isParting_9 : decode cT_isParting 9 = .ok (.if_icmp .lt 18, 3) := by decide +kernel
theorem dT_isParting_12 : decode cT_isParting 12 = .ok (.iload_n 1, 1) := by decide +kernel
theorem dT_isParting_13 : decode cT_isParting 13 = .ok (.iload_n 0, 1) := by decide +kernel
theorem dT_isParting_14 : decode cT_isParting 14 = .ok (.if_icmp .ge 13, 3) := by decide +kernel
theorem dT_isParting_17 : decode cT_isParting 17 = .ok (.iload_n 2, 1) := by decide +kernel
theorem dT_isParting_18 : decode cT_isParting 18 = .ok (.iconst (-1), 1) := by decide +kernel
theorem dT_isParting_19 : decode cT_isParting 19 = .ok (.if_icmp .lt 8, 3) := by decide +kernel
theorem dT_isParting_22 : decode cT_isParting 22 = .ok (.iload_n 2, 1) := by decide +kernel
theorem dT_isParting_23 : decode cT_isParting 23 = .ok (.iload_n 0, 1) := by decide +kernel
theorem dT_isParting_24 : decode cT_isParting 24 = .ok (.if_icmp .lt 5, 3) := by decide +kernel
theorem dT_isParting_27 : decode cT_isParting 27 = .ok (.iconst 0, 1) := by decide +kernel
theorem dT_isParting_28 : decode cT_isParting 28 = .ok (.ireturn, 1) := by decide +kernel
theorem dT_isParting_29 : decode cT_isParting 29 = .ok (.iload_n 1, 1) := by decide +kernel
theorem dT_isParting_30 : decode cT_isParting 30 = .ok (.iconst (-1), 1) := by decide +kernel
theorem dT_isParting_31 : decode cT_isParting 31 = .ok (.if_icmp .ne 8, 3) := by decide +kernel
theorem dT_isParting_34 : decode cT_isParting 34 = .ok (.iload_n 2, 1) := by decide +kernel
theorem dT_isParting_35 : decode cT_isParting 35 = .ok (.iconst (-1), 1) := by decide +kernel
theorem dT_isParting_36 : decode cT_isParting 36 = .ok (.if_icmp .ne 7, 3) := by decide +kernel
theorem dT_isParting_39 : decode cT_isParting 39 = .ok (.iconst 1, 1) := by decide +kernel
theorem dT_isParting_40 : decode cT_isParting 40 = .ok (.goto 4, 3) := by decide +kernel
theorem dT_isParting_43 : decode cT_isParting 43 = .ok (.iconst 0, 1) := by decide +kernel
theorem dT_isParting_44 : decode cT_isParting 44 = .ok (.ireturn, 1) := by decide +kernel
theorem dT_isLead_0 : decode cT_isLead 0 = .ok (.iload_n 0, 1) := by decide +kernel
theorem dT_isLead_1 : decode cT_isLead 1 = .ok (.bipush 40, 2) := by decide +kernel
theorem dT_isLead_3 : decode cT_isLead 3 = .ok (.if_icmp .lt 13, 3) := by decide +kernel
theorem dT_isLead_6 : decode cT_isLead 6 = .ok (.iload_n 0, 1) := by decide +kernel
theorem dT_isLead_7 : decode cT_isLead 7 = .ok (.bipush 43, 2) := by decide +kernel
theorem dT_isLead_9 : decode cT_isLead 9 = .ok (.if_icmp .ge 7, 3) := by decide +kernel
theorem dT_isLead_12 : decode cT_isLead 12 = .ok (.iconst 1, 1) := by decide +kernel
theorem dT_isLead_13 : decode cT_isLead 13 = .ok (.goto 4, 3) := by decide +kernel
theorem dT_isLead_16 : decode cT_isLead 16 = .ok (.iconst 0, 1) := by decide +kernel
theorem dT_isLead_17 : decode cT_isLead 17 = .ok (.ireturn, 1) := by decide +kernel
theorem dT_isVowel_0 : decode cT_isVowel 0 = .ok (.iload_n 0, 1) := by decide +kernel
theorem dT_isVowel_1 : decode cT_isVowel 1 = .ok (.bipush 43, 2) := by decide +kernel
theorem dT_isVowel_3 : decode cT_isVowel 3 = .ok (.if_icmp .lt 13, 3) := by decide +kernel
theorem dT_isVowel_6 : decode cT_isVowel 6 = .ok (.iload_n 0, 1) := by decide +kernel
theorem dT_isVowel_7 : decode cT_isVowel 7 = .ok (.bipush 46, 2) := by decide +kernel
theorem dT_isVowel_9 : decode cT_isVowel 9 = .ok (.if_icmp .ge 7, 3) := by decide +kernel
theorem dT_isVowel_12 : decode cT_isVowel 12 = .ok (.iconst 1, 1) := by decide +kernel
theorem dT_isVowel_13 : decode cT_isVowel 13 = .ok (.goto 4, 3) := by decide +kernel
theorem dT_isVowel_16 : decode cT_isVowel 16 = .ok (.iconst 0, 1) := by decide +kernel
theorem dT_isVowel_17 : decode cT_isVowel 17 = .ok (.ireturn, 1) := by decide +kernel
theorem dT_isTail_0 : decode cT_isTail 0 = .ok (.iload_n 0, 1) := by decide +kernel
theorem dT_isTail_1 : decode cT_isTail 1 = .ok (.bipush 46, 2) := by decide +kernel
theorem dT_isTail_3 : decode cT_isTail 3 = .ok (.if_icmp .lt 13, 3) := by decide +kernel
theorem dT_isTail_6 : decode cT_isTail 6 = .ok (.iload_n 0, 1) := by decide +kernel
theorem dT_isTail_7 : decode cT_isTail 7 = .ok (.bipush 48, 2) := by decide +kernel
theorem dT_isTail_9 : decode cT_isTail 9 = .ok (.if_icmp .ge 7, 3) := by decide +kernel
theorem dT_isTail_12 : decode cT_isTail 12 = .ok (.iconst 1, 1) := by decide +kernel
theorem dT_isTail_13 : decode cT_isTail 13 = .ok (.goto 4, 3) := by decide +kernel
theorem dT_isTail_16 : decode cT_isTail 16 = .ok (.iconst 0, 1) := by decide +kernel
theorem dT_isTail_17 : decode cT_isTail 17 = .ok (.ireturn, 1) := by decide +kernel
theorem dT_isSyllable_0 : decode cT_isSyllable 0 = .ok (.iload_n 0, 1) := by decide +kernel
theorem dT_isSyllable_1 : decode cT_isSyllable 1 = .ok (.bipush 48, 2) := by decide +kernel
theorem dT_isSyllable_3 : decode cT_isSyllable 3 = .ok (.if_icmp .lt 7, 3) := by decide +kernel
theorem dT_isSyllable_6 : decode cT_isSyllable 6 = .ok (.iconst 1, 1) := by decide +kernel
theorem dT_isSyllable_7 : decode cT_isSyllable 7 = .ok (.goto 4, 3) := by decide +kernel
theorem dT_isSyllable_10 : decode cT_isSyllable 10 = .ok (.iconst 0, 1) := by decide +kernel
theorem dT_isSyllable_11 : decode cT_isSyllable 11 = .ok (.ireturn, 1) := by decide +kernel
theorem dT_hasTail_0 : decode cT_hasTail 0 = .ok (.iload_n 0, 1) := by decide +kernel
theorem dT_hasTail_1 : decode cT_hasTail 1 = .ok (.invokestatic 50, 3) := by decide +kernel
theorem dT_hasTail_4 : decode cT_hasTail 4 = .ok (.ifCond .eq 16, 3) := by decide +kernel
theorem dT_hasTail_7 : decode cT_hasTail 7 = .ok (.iload_n 0, 1) := by decide +kernel
theorem dT_hasTail_8 : decode cT_hasTail 8 = .ok (.bipush 48, 2) := by decide +kernel
theorem dT_hasTail_10 : decode cT_hasTail 10 = .ok (.isub, 1) := by decide +kernel
theorem dT_hasTail_11 : decode cT_hasTail 11 = .ok (.iconst 3, 1) := by decide +kernel
theorem dT_hasTail_12 : decode cT_hasTail 12 = .ok (.irem, 1) := by decide +kernel
theorem dT_hasTail_13 : decode cT_hasTail 13 = .ok (.ifCond .eq 7, 3) := by decide +kernel
theorem dT_hasTail_16 : decode cT_hasTail 16 = .ok (.iconst 1, 1) := by decide +kernel
theorem dT_hasTail_17 : decode cT_hasTail 17 = .ok (.goto 4, 3) := by decide +kernel
theorem dT_hasTail_20 : decode cT_hasTail 20 = .ok (.iconst 0, 1) := by decide +kernel
theorem dT_hasTail_21 : decode cT_hasTail 21 = .ok (.ireturn, 1) := by decide +kernel
theorem dT_change_0 : decode cT_change 0 = .ok (.aload_n 0, 1) := by decide +kernel
theorem dT_change_1 : decode cT_change 1 = .ok (.getfield 15, 3) := by decide +kernel
theorem dT_change_4 : decode cT_change 4 = .ok (.iload_n 2, 1) := by decide +kernel
theorem dT_change_5 : decode cT_change 5 = .ok (.aaload, 1) := by decide +kernel
theorem dT_change_6 : decode cT_change 6 = .ok (.iload_n 1, 1) := by decide +kernel
theorem dT_change_7 : decode cT_change 7 = .ok (.iload_n 3, 1) := by decide +kernel
theorem dT_change_8 : decode cT_change 8 = .ok (.iastore, 1) := by decide +kernel
theorem dT_change_9 : decode cT_change 9 = .ok (.return_, 1) := by decide +kernel
theorem dT_staysSmall_0 : decode cT_staysSmall 0 = .ok (.iconst 0, 1) := by decide +kernel
theorem dT_staysSmall_1 : decode cT_staysSmall 1 = .ok (.istore 4, 2) := by decide +kernel
theorem dT_staysSmall_3 : decode cT_staysSmall 3 = .ok (.iload 4, 2) := by decide +kernel
theorem dT_staysSmall_5 : decode cT_staysSmall 5 = .ok (.bipush 40, 2) := by decide +kernel
theorem dT_staysSmall_7 : decode cT_staysSmall 7 = .ok (.if_icmp .ge 107, 3) := by decide +kernel
theorem dT_staysSmall_10 : decode cT_staysSmall 10 = .ok (.iload 4, 2) := by decide +kernel
theorem dT_staysSmall_12 : decode cT_staysSmall 12 = .ok (.iload_n 1, 1) := by decide +kernel
theorem dT_staysSmall_13 : decode cT_staysSmall 13 = .ok (.if_icmp .ne 7, 3) := by decide +kernel
theorem dT_staysSmall_16 : decode cT_staysSmall 16 = .ok (.iload_n 2, 1) := by decide +kernel
theorem dT_staysSmall_17 : decode cT_staysSmall 17 = .ok (.goto 10, 3) := by decide +kernel
theorem dT_staysSmall_20 : decode cT_staysSmall 20 = .ok (.aload_n 0, 1) := by decide +kernel
theorem dT_staysSmall_21 : decode cT_staysSmall 21 = .ok (.getfield 18, 3) := by decide +kernel
theorem dT_staysSmall_24 : decode cT_staysSmall 24 = .ok (.iload 4, 2) := by decide +kernel
theorem dT_staysSmall_26 : decode cT_staysSmall 26 = .ok (.iaload, 1) := by decide +kernel
theorem dT_staysSmall_27 : decode cT_staysSmall 27 = .ok (.istore 5, 2) := by decide +kernel
theorem dT_staysSmall_29 : decode cT_staysSmall 29 = .ok (.iload 4, 2) := by decide +kernel
theorem dT_staysSmall_31 : decode cT_staysSmall 31 = .ok (.iload_n 1, 1) := by decide +kernel
theorem dT_staysSmall_32 : decode cT_staysSmall 32 = .ok (.if_icmp .ne 7, 3) := by decide +kernel
theorem dT_staysSmall_35 : decode cT_staysSmall 35 = .ok (.iload_n 3, 1) := by decide +kernel
theorem dT_staysSmall_36 : decode cT_staysSmall 36 = .ok (.goto 10, 3) := by decide +kernel
theorem dT_staysSmall_39 : decode cT_staysSmall 39 = .ok (.aload_n 0, 1) := by decide +kernel
theorem dT_staysSmall_40 : decode cT_staysSmall 40 = .ok (.getfield 21, 3) := by decide +kernel
theorem dT_staysSmall_43 : decode cT_staysSmall 43 = .ok (.iload 4, 2) := by decide +kernel
theorem dT_staysSmall_45 : decode cT_staysSmall 45 = .ok (.iaload, 1) := by decide +kernel
theorem dT_staysSmall_46 : decode cT_staysSmall 46 = .ok (.istore 6, 2) := by decide +kernel
theorem dT_staysSmall_48 : decode cT_staysSmall 48 = .ok (.aload_n 0, 1) := by decide +kernel
theorem dT_staysSmall_49 : decode cT_staysSmall 49 = .ok (.getfield 34, 3) := by decide +kernel
theorem dT_staysSmall_52 : decode cT_staysSmall 52 = .ok (.iload 4, 2) := by decide +kernel
theorem dT_staysSmall_54 : decode cT_staysSmall 54 = .ok (.iload 5, 2) := by decide +kernel
theorem dT_staysSmall_56 : decode cT_staysSmall 56 = .ok (.iconst (-1), 1) := by decide +kernel
theorem dT_staysSmall_57 : decode cT_staysSmall 57 = .ok (.if_icmp .ne 7, 3) := by decide +kernel
theorem dT_staysSmall_60 : decode cT_staysSmall 60 = .ok (.iconst 1, 1) := by decide +kernel
theorem dT_staysSmall_61 : decode cT_staysSmall 61 = .ok (.goto 10, 3) := by decide +kernel
theorem dT_staysSmall_64 : decode cT_staysSmall 64 = .ok (.aload_n 0, 1) := by decide +kernel
theorem dT_staysSmall_65 : decode cT_staysSmall 65 = .ok (.getfield 34, 3) := by decide +kernel
theorem dT_staysSmall_68 : decode cT_staysSmall 68 = .ok (.iload 5, 2) := by decide +kernel
theorem dT_staysSmall_70 : decode cT_staysSmall 70 = .ok (.iaload, 1) := by decide +kernel
theorem dT_staysSmall_71 : decode cT_staysSmall 71 = .ok (.iastore, 1) := by decide +kernel
theorem dT_staysSmall_72 : decode cT_staysSmall 72 = .ok (.iload 6, 2) := by decide +kernel
theorem dT_staysSmall_74 : decode cT_staysSmall 74 = .ok (.iconst (-1), 1) := by decide +kernel
theorem dT_staysSmall_75 : decode cT_staysSmall 75 = .ok (.if_icmp .eq 20, 3) := by decide +kernel
theorem dT_staysSmall_78 : decode cT_staysSmall 78 = .ok (.aload_n 0, 1) := by decide +kernel
theorem dT_staysSmall_79 : decode cT_staysSmall 79 = .ok (.getfield 34, 3) := by decide +kernel
theorem dT_staysSmall_82 : decode cT_staysSmall 82 = .ok (.iload 4, 2) := by decide +kernel
theorem dT_staysSmall_84 : decode cT_staysSmall 84 = .ok (.dup2, 1) := by decide +kernel
theorem dT_staysSmall_85 : decode cT_staysSmall 85 = .ok (.iaload, 1) := by decide +kernel
theorem dT_staysSmall_86 : decode cT_staysSmall 86 = .ok (.aload_n 0, 1) := by decide +kernel
theorem dT_staysSmall_87 : decode cT_staysSmall 87 = .ok (.getfield 34, 3) := by decide +kernel
theorem dT_staysSmall_90 : decode cT_staysSmall 90 = .ok (.iload 6, 2) := by decide +kernel
theorem dT_staysSmall_92 : decode cT_staysSmall 92 = .ok (.iaload, 1) := by decide +kernel
theorem dT_staysSmall_93 : decode cT_staysSmall 93 = .ok (.iadd, 1) := by decide +kernel
theorem dT_staysSmall_94 : decode cT_staysSmall 94 = .ok (.iastore, 1) := by decide +kernel
theorem dT_staysSmall_95 : decode cT_staysSmall 95 = .ok (.aload_n 0, 1) := by decide +kernel
theorem dT_staysSmall_96 : decode cT_staysSmall 96 = .ok (.getfield 34, 3) := by decide +kernel
theorem dT_staysSmall_99 : decode cT_staysSmall 99 = .ok (.iload 4, 2) := by decide +kernel
theorem dT_staysSmall_101 : decode cT_staysSmall 101 = .ok (.iaload, 1) := by decide +kernel
theorem dT_staysSmall_102 : decode cT_staysSmall 102 = .ok (.iconst 4, 1) := by decide +kernel
theorem dT_staysSmall_103 : decode cT_staysSmall 103 = .ok (.if_icmp .le 5, 3) := by decide +kernel
theorem dT_staysSmall_106 : decode cT_staysSmall 106 = .ok (.iconst 0, 1) := by decide +kernel
theorem dT_staysSmall_107 : decode cT_staysSmall 107 = .ok (.ireturn, 1) := by decide +kernel
theorem dT_staysSmall_108 : decode cT_staysSmall 108 = .ok (.iinc 4 1, 3) := by decide +kernel
theorem dT_staysSmall_111 : decode cT_staysSmall 111 = .ok (.goto (-108), 3) := by decide +kernel
theorem dT_staysSmall_114 : decode cT_staysSmall 114 = .ok (.iconst 1, 1) := by decide +kernel
theorem dT_staysSmall_115 : decode cT_staysSmall 115 = .ok (.ireturn, 1) := by decide +kernel
theorem dT_changeParting_0 : decode cT_changeParting 0 = .ok (.aload_n 0, 1) := by decide +kernel
theorem dT_changeParting_1 : decode cT_changeParting 1 = .ok (.getfield 18, 3) := by decide +kernel
theorem dT_changeParting_4 : decode cT_changeParting 4 = .ok (.iload_n 1, 1) := by decide +kernel
theorem dT_changeParting_5 : decode cT_changeParting 5 = .ok (.iload_n 2, 1) := by decide +kernel
theorem dT_changeParting_6 : decode cT_changeParting 6 = .ok (.iastore, 1) := by decide +kernel
theorem dT_changeParting_7 : decode cT_changeParting 7 = .ok (.aload_n 0, 1) := by decide +kernel
theorem dT_changeParting_8 : decode cT_changeParting 8 = .ok (.getfield 21, 3) := by decide +kernel
theorem dT_changeParting_11 : decode cT_changeParting 11 = .ok (.iload_n 1, 1) := by decide +kernel
theorem dT_changeParting_12 : decode cT_changeParting 12 = .ok (.iload_n 3, 1) := by decide +kernel
theorem dT_changeParting_13 : decode cT_changeParting 13 = .ok (.iastore, 1) := by decide +kernel
theorem dT_changeParting_14 : decode cT_changeParting 14 = .ok (.aload_n 0, 1) := by decide +kernel
theorem dT_changeParting_15 : decode cT_changeParting 15 = .ok (.getfield 24, 3) := by decide +kernel
theorem dT_changeParting_18 : decode cT_changeParting 18 = .ok (.iload_n 1, 1) := by decide +kernel
theorem dT_changeParting_19 : decode cT_changeParting 19 = .ok (.iload 4, 2) := by decide +kernel
theorem dT_changeParting_21 : decode cT_changeParting 21 = .ok (.bastore, 1) := by decide +kernel
theorem dT_changeParting_22 : decode cT_changeParting 22 = .ok (.aload_n 0, 1) := by decide +kernel
theorem dT_changeParting_23 : decode cT_changeParting 23 = .ok (.invokevirtual 43, 3) := by decide +kernel
theorem dT_changeParting_26 : decode cT_changeParting 26 = .ok (.return_, 1) := by decide +kernel
theorem dT_rank_0 : decode cT_rank 0 = .ok (.aload_n 0, 1) := by decide +kernel
theorem dT_rank_1 : decode cT_rank 1 = .ok (.getfield 15, 3) := by decide +kernel
theorem dT_rank_4 : decode cT_rank 4 = .ok (.iconst 0, 1) := by decide +kernel
theorem dT_rank_5 : decode cT_rank 5 = .ok (.aaload, 1) := by decide +kernel
theorem dT_rank_6 : decode cT_rank 6 = .ok (.iload_n 1, 1) := by decide +kernel
theorem dT_rank_7 : decode cT_rank 7 = .ok (.iaload, 1) := by decide +kernel
theorem dT_rank_8 : decode cT_rank 8 = .ok (.ireturn, 1) := by decide +kernel
theorem dT_clusterClass_0 : decode cT_clusterClass 0 = .ok (.aload_n 0, 1) := by decide +kernel
theorem dT_clusterClass_1 : decode cT_clusterClass 1 = .ok (.getfield 15, 3) := by decide +kernel
theorem dT_clusterClass_4 : decode cT_clusterClass 4 = .ok (.iconst 1, 1) := by decide +kernel
theorem dT_clusterClass_5 : decode cT_clusterClass 5 = .ok (.aaload, 1) := by decide +kernel
theorem dT_clusterClass_6 : decode cT_clusterClass 6 = .ok (.iload_n 1, 1) := by decide +kernel
theorem dT_clusterClass_7 : decode cT_clusterClass 7 = .ok (.iaload, 1) := by decide +kernel
theorem dT_clusterClass_8 : decode cT_clusterClass 8 = .ok (.ireturn, 1) := by decide +kernel
theorem dT_lineClass_0 : decode cT_lineClass 0 = .ok (.aload_n 0, 1) := by decide +kernel
theorem dT_lineClass_1 : decode cT_lineClass 1 = .ok (.getfield 15, 3) := by decide +kernel
theorem dT_lineClass_4 : decode cT_lineClass 4 = .ok (.iconst 2, 1) := by decide +kernel
theorem dT_lineClass_5 : decode cT_lineClass 5 = .ok (.aaload, 1) := by decide +kernel
theorem dT_lineClass_6 : decode cT_lineClass 6 = .ok (.iload_n 1, 1) := by decide +kernel
theorem dT_lineClass_7 : decode cT_lineClass 7 = .ok (.iaload, 1) := by decide +kernel
theorem dT_lineClass_8 : decode cT_lineClass 8 = .ok (.ireturn, 1) := by decide +kernel
theorem dT_sideClass_0 : decode cT_sideClass 0 = .ok (.aload_n 0, 1) := by decide +kernel
theorem dT_sideClass_1 : decode cT_sideClass 1 = .ok (.getfield 15, 3) := by decide +kernel
theorem dT_sideClass_4 : decode cT_sideClass 4 = .ok (.iconst 3, 1) := by decide +kernel
theorem dT_sideClass_5 : decode cT_sideClass 5 = .ok (.aaload, 1) := by decide +kernel
theorem dT_sideClass_6 : decode cT_sideClass 6 = .ok (.iload_n 1, 1) := by decide +kernel
theorem dT_sideClass_7 : decode cT_sideClass 7 = .ok (.iaload, 1) := by decide +kernel
theorem dT_sideClass_8 : decode cT_sideClass 8 = .ok (.ireturn, 1) := by decide +kernel
theorem dT_weight_0 : decode cT_weight 0 = .ok (.aload_n 0, 1) := by decide +kernel
theorem dT_weight_1 : decode cT_weight 1 = .ok (.getfield 15, 3) := by decide +kernel
theorem dT_weight_4 : decode cT_weight 4 = .ok (.iconst 4, 1) := by decide +kernel
theorem dT_weight_5 : decode cT_weight 5 = .ok (.iload_n 2, 1) := by decide +kernel
theorem dT_weight_6 : decode cT_weight 6 = .ok (.iadd, 1) := by decide +kernel
theorem dT_weight_7 : decode cT_weight 7 = .ok (.aaload, 1) := by decide +kernel
theorem dT_weight_8 : decode cT_weight 8 = .ok (.iload_n 1, 1) := by decide +kernel
theorem dT_weight_9 : decode cT_weight 9 = .ok (.iaload, 1) := by decide +kernel
theorem dT_weight_10 : decode cT_weight 10 = .ok (.ireturn, 1) := by decide +kernel
theorem dT_partsOf_0 : decode cT_partsOf 0 = .ok (.aload_n 0, 1) := by decide +kernel
theorem dT_partsOf_1 : decode cT_partsOf 1 = .ok (.getfield 31, 3) := by decide +kernel
theorem dT_partsOf_4 : decode cT_partsOf 4 = .ok (.iload_n 1, 1) := by decide +kernel
theorem dT_partsOf_5 : decode cT_partsOf 5 = .ok (.iaload, 1) := by decide +kernel
theorem dT_partsOf_6 : decode cT_partsOf 6 = .ok (.ireturn, 1) := by decide +kernel
theorem dT_partOf_0 : decode cT_partOf 0 = .ok (.aload_n 0, 1) := by decide +kernel
theorem dT_partOf_1 : decode cT_partOf 1 = .ok (.getfield 28, 3) := by decide +kernel
theorem dT_partOf_4 : decode cT_partOf 4 = .ok (.iload_n 1, 1) := by decide +kernel
theorem dT_partOf_5 : decode cT_partOf 5 = .ok (.iconst 4, 1) := by decide +kernel
theorem dT_partOf_6 : decode cT_partOf 6 = .ok (.imul, 1) := by decide +kernel
theorem dT_partOf_7 : decode cT_partOf 7 = .ok (.iload_n 2, 1) := by decide +kernel
theorem dT_partOf_8 : decode cT_partOf 8 = .ok (.iadd, 1) := by decide +kernel
theorem dT_partOf_9 : decode cT_partOf 9 = .ok (.iaload, 1) := by decide +kernel
theorem dT_partOf_10 : decode cT_partOf 10 = .ok (.ireturn, 1) := by decide +kernel
theorem dT_joinOf_0 : decode cT_joinOf 0 = .ok (.iconst 0, 1) := by decide +kernel
theorem dT_joinOf_1 : decode cT_joinOf 1 = .ok (.istore_n 3, 1) := by decide +kernel
theorem dT_joinOf_2 : decode cT_joinOf 2 = .ok (.iload_n 3, 1) := by decide +kernel
theorem dT_joinOf_3 : decode cT_joinOf 3 = .ok (.bipush 75, 2) := by decide +kernel
theorem dT_joinOf_5 : decode cT_joinOf 5 = .ok (.if_icmp .ge 63, 3) := by decide +kernel
theorem dT_joinOf_8 : decode cT_joinOf 8 = .ok (.aload_n 0, 1) := by decide +kernel
theorem dT_joinOf_9 : decode cT_joinOf 9 = .ok (.getfield 18, 3) := by decide +kernel
theorem dT_joinOf_12 : decode cT_joinOf 12 = .ok (.iload_n 3, 1) := by decide +kernel
theorem dT_joinOf_13 : decode cT_joinOf 13 = .ok (.iaload, 1) := by decide +kernel
theorem dT_joinOf_14 : decode cT_joinOf 14 = .ok (.iload_n 1, 1) := by decide +kernel
theorem dT_joinOf_15 : decode cT_joinOf 15 = .ok (.if_icmp .ne 17, 3) := by decide +kernel
theorem dT_joinOf_18 : decode cT_joinOf 18 = .ok (.aload_n 0, 1) := by decide +kernel
theorem dT_joinOf_19 : decode cT_joinOf 19 = .ok (.getfield 21, 3) := by decide +kernel
theorem dT_joinOf_22 : decode cT_joinOf 22 = .ok (.iload_n 3, 1) := by decide +kernel
theorem dT_joinOf_23 : decode cT_joinOf 23 = .ok (.iaload, 1) := by decide +kernel
theorem dT_joinOf_24 : decode cT_joinOf 24 = .ok (.iload_n 2, 1) := by decide +kernel
theorem dT_joinOf_25 : decode cT_joinOf 25 = .ok (.if_icmp .ne 7, 3) := by decide +kernel
theorem dT_joinOf_28 : decode cT_joinOf 28 = .ok (.iconst 1, 1) := by decide +kernel
theorem dT_joinOf_29 : decode cT_joinOf 29 = .ok (.goto 4, 3) := by decide +kernel
theorem dT_joinOf_32 : decode cT_joinOf 32 = .ok (.iconst 0, 1) := by decide +kernel
theorem dT_joinOf_33 : decode cT_joinOf 33 = .ok (.istore 4, 2) := by decide +kernel
theorem dT_joinOf_35 : decode cT_joinOf 35 = .ok (.iload 4, 2) := by decide +kernel
theorem dT_joinOf_37 : decode cT_joinOf 37 = .ok (.ifCond .eq 25, 3) := by decide +kernel
theorem dT_joinOf_40 : decode cT_joinOf 40 = .ok (.aload_n 0, 1) := by decide +kernel
theorem dT_joinOf_41 : decode cT_joinOf 41 = .ok (.getfield 15, 3) := by decide +kernel
theorem dT_joinOf_44 : decode cT_joinOf 44 = .ok (.iconst 0, 1) := by decide +kernel
theorem dT_joinOf_45 : decode cT_joinOf 45 = .ok (.aaload, 1) := by decide +kernel
theorem dT_joinOf_46 : decode cT_joinOf 46 = .ok (.iload_n 3, 1) := by decide +kernel
theorem dT_joinOf_47 : decode cT_joinOf 47 = .ok (.iaload, 1) := by decide +kernel
theorem dT_joinOf_48 : decode cT_joinOf 48 = .ok (.ifCond .ne 14, 3) := by decide +kernel
theorem dT_joinOf_51 : decode cT_joinOf 51 = .ok (.aload_n 0, 1) := by decide +kernel
theorem dT_joinOf_52 : decode cT_joinOf 52 = .ok (.getfield 24, 3) := by decide +kernel
theorem dT_joinOf_55 : decode cT_joinOf 55 = .ok (.iload_n 3, 1) := by decide +kernel
theorem dT_joinOf_56 : decode cT_joinOf 56 = .ok (.baload, 1) := by decide +kernel
theorem dT_joinOf_57 : decode cT_joinOf 57 = .ok (.ifCond .ne 5, 3) := by decide +kernel
theorem dT_joinOf_60 : decode cT_joinOf 60 = .ok (.iload_n 3, 1) := by decide +kernel
theorem dT_joinOf_61 : decode cT_joinOf 61 = .ok (.ireturn, 1) := by decide +kernel
theorem dT_joinOf_62 : decode cT_joinOf 62 = .ok (.iinc 3 1, 3) := by decide +kernel
theorem dT_joinOf_65 : decode cT_joinOf 65 = .ok (.goto (-63), 3) := by decide +kernel
theorem dT_joinOf_68 : decode cT_joinOf 68 = .ok (.iconst (-1), 1) := by decide +kernel
theorem dT_joinOf_69 : decode cT_joinOf 69 = .ok (.ireturn, 1) := by decide +kernel
theorem dT_fillFixedProperties_0 : decode cT_fillFixedProperties 0 = .ok (.bipush 40, 2) := by decide +kernel
theorem dT_fillFixedProperties_2 : decode cT_fillFixedProperties 2 = .ok (.istore_n 1, 1) := by decide +kernel
theorem dT_fillFixedProperties_3 : decode cT_fillFixedProperties 3 = .ok (.iload_n 1, 1) := by decide +kernel
theorem dT_fillFixedProperties_4 : decode cT_fillFixedProperties 4 = .ok (.bipush 75, 2) := by decide +kernel
theorem dT_fillFixedProperties_6 : decode cT_fillFixedProperties 6 = .ok (.if_icmp .ge 19, 3) := by decide +kernel
theorem dT_fillFixedProperties_9 : decode cT_fillFixedProperties 9 = .ok (.aload_n 0, 1) := by decide +kernel
theorem dT_fillFixedProperties_10 : decode cT_fillFixedProperties 10 = .ok (.getfield 15, 3) := by decide +kernel
theorem dT_fillFixedProperties_13 : decode cT_fillFixedProperties 13 = .ok (.iconst 2, 1) := by decide +kernel
theorem dT_fillFixedProperties_14 : decode cT_fillFixedProperties 14 = .ok (.aaload, 1) := by decide +kernel
theorem dT_fillFixedProperties_15 : decode cT_fillFixedProperties 15 = .ok (.iload_n 1, 1) := by decide +kernel
theorem dT_fillFixedProperties_16 : decode cT_fillFixedProperties 16 = .ok (.bipush 10, 2) := by decide +kernel
theorem dT_fillFixedProperties_18 : decode cT_fillFixedProperties 18 = .ok (.iastore, 1) := by decide +kernel
theorem dT_fillFixedProperties_19 : decode cT_fillFixedProperties 19 = .ok (.iinc 1 1, 3) := by decide +kernel
theorem dT_fillFixedProperties_22 : decode cT_fillFixedProperties 22 = .ok (.goto (-19), 3) := by decide +kernel
theorem dT_fillFixedProperties_25 : decode cT_fillFixedProperties 25 = .ok (.bipush 40, 2) := by decide +kernel
theorem dT_fillFixedProperties_27 : decode cT_fillFixedProperties 27 = .ok (.istore_n 1, 1) := by decide +kernel
theorem dT_fillFixedProperties_28 : decode cT_fillFixedProperties 28 = .ok (.iload_n 1, 1) := by decide +kernel
theorem dT_fillFixedProperties_29 : decode cT_fillFixedProperties 29 = .ok (.bipush 48, 2) := by decide +kernel
theorem dT_fillFixedProperties_31 : decode cT_fillFixedProperties 31 = .ok (.if_icmp .ge 46, 3) := by decide +kernel
theorem dT_fillFixedProperties_34 : decode cT_fillFixedProperties 34 = .ok (.aload_n 0, 1) := by decide +kernel
theorem dT_fillFixedProperties_35 : decode cT_fillFixedProperties 35 = .ok (.getfield 15, 3) := by decide +kernel
theorem dT_fillFixedProperties_38 : decode cT_fillFixedProperties 38 = .ok (.iconst 4, 1) := by decide +kernel
theorem dT_fillFixedProperties_39 : decode cT_fillFixedProperties 39 = .ok (.aaload, 1) := by decide +kernel
theorem dT_fillFixedProperties_40 : decode cT_fillFixedProperties 40 = .ok (.iload_n 1, 1) := by decide +kernel
theorem dT_fillFixedProperties_41 : decode cT_fillFixedProperties 41 = .ok (.sipush 1000, 3) := by decide +kernel
theorem dT_fillFixedProperties_44 : decode cT_fillFixedProperties 44 = .ok (.iload_n 1, 1) := by decide +kernel
theorem dT_fillFixedProperties_45 : decode cT_fillFixedProperties 45 = .ok (.iadd, 1) := by decide +kernel
theorem dT_fillFixedProperties_46 : decode cT_fillFixedProperties 46 = .ok (.iastore, 1) := by decide +kernel
theorem dT_fillFixedProperties_47 : decode cT_fillFixedProperties 47 = .ok (.iconst 1, 1) := by decide +kernel
theorem dT_fillFixedProperties_48 : decode cT_fillFixedProperties 48 = .ok (.istore_n 2, 1) := by decide +kernel
theorem dT_fillFixedProperties_49 : decode cT_fillFixedProperties 49 = .ok (.iload_n 2, 1) := by decide +kernel
theorem dT_fillFixedProperties_50 : decode cT_fillFixedProperties 50 = .ok (.iconst 3, 1) := by decide +kernel
theorem dT_fillFixedProperties_51 : decode cT_fillFixedProperties 51 = .ok (.if_icmp .ge 20, 3) := by decide +kernel
theorem dT_fillFixedProperties_54 : decode cT_fillFixedProperties 54 = .ok (.aload_n 0, 1) := by decide +kernel
theorem dT_fillFixedProperties_55 : decode cT_fillFixedProperties 55 = .ok (.getfield 15, 3) := by decide +kernel
theorem dT_fillFixedProperties_58 : decode cT_fillFixedProperties 58 = .ok (.iconst 4, 1) := by decide +kernel
theorem dT_fillFixedProperties_59 : decode cT_fillFixedProperties 59 = .ok (.iload_n 2, 1) := by decide +kernel
theorem dT_fillFixedProperties_60 : decode cT_fillFixedProperties 60 = .ok (.iadd, 1) := by decide +kernel
theorem dT_fillFixedProperties_61 : decode cT_fillFixedProperties 61 = .ok (.aaload, 1) := by decide +kernel
theorem dT_fillFixedProperties_62 : decode cT_fillFixedProperties 62 = .ok (.iload_n 1, 1) := by decide +kernel
theorem dT_fillFixedProperties_63 : decode cT_fillFixedProperties 63 = .ok (.iconst 1, 1) := by decide +kernel
theorem dT_fillFixedProperties_64 : decode cT_fillFixedProperties 64 = .ok (.iastore, 1) := by decide +kernel
theorem dT_fillFixedProperties_65 : decode cT_fillFixedProperties 65 = .ok (.iinc 2 1, 3) := by decide +kernel
theorem dT_fillFixedProperties_68 : decode cT_fillFixedProperties 68 = .ok (.goto (-19), 3) := by decide +kernel
theorem dT_fillFixedProperties_71 : decode cT_fillFixedProperties 71 = .ok (.iinc 1 1, 3) := by decide +kernel
theorem dT_fillFixedProperties_74 : decode cT_fillFixedProperties 74 = .ok (.goto (-46), 3) := by decide +kernel
theorem dT_fillFixedProperties_77 : decode cT_fillFixedProperties 77 = .ok (.return_, 1) := by decide +kernel
theorem dT_fillPartings_0 : decode cT_fillPartings 0 = .ok (.iconst 0, 1) := by decide +kernel
theorem dT_fillPartings_1 : decode cT_fillPartings 1 = .ok (.istore_n 1, 1) := by decide +kernel
theorem dT_fillPartings_2 : decode cT_fillPartings 2 = .ok (.iload_n 1, 1) := by decide +kernel
theorem dT_fillPartings_3 : decode cT_fillPartings 3 = .ok (.bipush 48, 2) := by decide +kernel
theorem dT_fillPartings_5 : decode cT_fillPartings 5 = .ok (.if_icmp .ge 23, 3) := by decide +kernel
theorem dT_fillPartings_8 : decode cT_fillPartings 8 = .ok (.aload_n 0, 1) := by decide +kernel
theorem dT_fillPartings_9 : decode cT_fillPartings 9 = .ok (.getfield 18, 3) := by decide +kernel
theorem dT_fillPartings_12 : decode cT_fillPartings 12 = .ok (.iload_n 1, 1) := by decide +kernel
theorem dT_fillPartings_13 : decode cT_fillPartings 13 = .ok (.iconst (-1), 1) := by decide +kernel
theorem dT_fillPartings_14 : decode cT_fillPartings 14 = .ok (.iastore, 1) := by decide +kernel
theorem dT_fillPartings_15 : decode cT_fillPartings 15 = .ok (.aload_n 0, 1) := by decide +kernel
theorem dT_fillPartings_16 : decode cT_fillPartings 16 = .ok (.getfield 21, 3) := by decide +kernel
theorem dT_fillPartings_19 : decode cT_fillPartings 19 = .ok (.iload_n 1, 1) := by decide +kernel
theorem dT_fillPartings_20 : decode cT_fillPartings 20 = .ok (.iconst (-1), 1) := by decide +kernel
theorem dT_fillPartings_21 : decode cT_fillPartings 21 = .ok (.iastore, 1) := by decide +kernel
theorem dT_fillPartings_22 : decode cT_fillPartings 22 = .ok (.iinc 1 1, 3) := by decide +kernel
theorem dT_fillPartings_25 : decode cT_fillPartings 25 = .ok (.goto (-23), 3) := by decide +kernel
theorem dT_fillPartings_28 : decode cT_fillPartings 28 = .ok (.bipush 48, 2) := by decide +kernel
theorem dT_fillPartings_30 : decode cT_fillPartings 30 = .ok (.istore_n 1, 1) := by decide +kernel
theorem dT_fillPartings_31 : decode cT_fillPartings 31 = .ok (.iload_n 1, 1) := by decide +kernel
theorem dT_fillPartings_32 : decode cT_fillPartings 32 = .ok (.bipush 75, 2) := by decide +kernel
theorem dT_fillPartings_34 : decode cT_fillPartings 34 = .ok (.if_icmp .ge 18, 3) := by decide +kernel
theorem dT_fillPartings_37 : decode cT_fillPartings 37 = .ok (.aload_n 0, 1) := by decide +kernel
theorem dT_fillPartings_38 : decode cT_fillPartings 38 = .ok (.iload_n 1, 1) := by decide +kernel
theorem dT_fillPartings_39 : decode cT_fillPartings 39 = .ok (.iload_n 1, 1) := by decide +kernel
theorem dT_fillPartings_40 : decode cT_fillPartings 40 = .ok (.bipush 48, 2) := by decide +kernel
theorem dT_fillPartings_42 : decode cT_fillPartings 42 = .ok (.isub, 1) := by decide +kernel
theorem dT_fillPartings_43 : decode cT_fillPartings 43 = .ok (.invokevirtual 53, 3) := by decide +kernel
theorem dT_fillPartings_46 : decode cT_fillPartings 46 = .ok (.iinc 1 1, 3) := by decide +kernel
theorem dT_fillPartings_49 : decode cT_fillPartings 49 = .ok (.goto (-18), 3) := by decide +kernel
theorem dT_fillPartings_52 : decode cT_fillPartings 52 = .ok (.return_, 1) := by decide +kernel
theorem dT_fillSyllable_0 : decode cT_fillSyllable 0 = .ok (.iload_n 2, 1) := by decide +kernel
theorem dT_fillSyllable_1 : decode cT_fillSyllable 1 = .ok (.iconst 3, 1) := by decide +kernel
theorem dT_fillSyllable_2 : decode cT_fillSyllable 2 = .ok (.irem, 1) := by decide +kernel
theorem dT_fillSyllable_3 : decode cT_fillSyllable 3 = .ok (.istore_n 3, 1) := by decide +kernel
theorem dT_fillSyllable_4 : decode cT_fillSyllable 4 = .ok (.iload_n 3, 1) := by decide +kernel
theorem dT_fillSyllable_5 : decode cT_fillSyllable 5 = .ok (.ifCond .ne 34, 3) := by decide +kernel
theorem dT_fillSyllable_8 : decode cT_fillSyllable 8 = .ok (.aload_n 0, 1) := by decide +kernel
theorem dT_fillSyllable_9 : decode cT_fillSyllable 9 = .ok (.getfield 18, 3) := by decide +kernel
theorem dT_fillSyllable_12 : decode cT_fillSyllable 12 = .ok (.iload_n 1, 1) := by decide +kernel
theorem dT_fillSyllable_13 : decode cT_fillSyllable 13 = .ok (.bipush 40, 2) := by decide +kernel
theorem dT_fillSyllable_15 : decode cT_fillSyllable 15 = .ok (.iload_n 2, 1) := by decide +kernel
theorem dT_fillSyllable_16 : decode cT_fillSyllable 16 = .ok (.bipush 9, 2) := by decide +kernel
theorem dT_fillSyllable_18 : decode cT_fillSyllable 18 = .ok (.idiv, 1) := by decide +kernel
theorem dT_fillSyllable_19 : decode cT_fillSyllable 19 = .ok (.iadd, 1) := by decide +kernel
theorem dT_fillSyllable_20 : decode cT_fillSyllable 20 = .ok (.iastore, 1) := by decide +kernel
theorem dT_fillSyllable_21 : decode cT_fillSyllable 21 = .ok (.aload_n 0, 1) := by decide +kernel
theorem dT_fillSyllable_22 : decode cT_fillSyllable 22 = .ok (.getfield 21, 3) := by decide +kernel
theorem dT_fillSyllable_25 : decode cT_fillSyllable 25 = .ok (.iload_n 1, 1) := by decide +kernel
theorem dT_fillSyllable_26 : decode cT_fillSyllable 26 = .ok (.bipush 43, 2) := by decide +kernel
theorem dT_fillSyllable_28 : decode cT_fillSyllable 28 = .ok (.iload_n 2, 1) := by decide +kernel
theorem dT_fillSyllable_29 : decode cT_fillSyllable 29 = .ok (.bipush 9, 2) := by decide +kernel
theorem dT_fillSyllable_31 : decode cT_fillSyllable 31 = .ok (.irem, 1) := by decide +kernel
theorem dT_fillSyllable_32 : decode cT_fillSyllable 32 = .ok (.iconst 3, 1) := by decide +kernel
theorem dT_fillSyllable_33 : decode cT_fillSyllable 33 = .ok (.idiv, 1) := by decide +kernel
theorem dT_fillSyllable_34 : decode cT_fillSyllable 34 = .ok (.iadd, 1) := by decide +kernel
theorem dT_fillSyllable_35 : decode cT_fillSyllable 35 = .ok (.iastore, 1) := by decide +kernel
theorem dT_fillSyllable_36 : decode cT_fillSyllable 36 = .ok (.goto 24, 3) := by decide +kernel
theorem dT_fillSyllable_39 : decode cT_fillSyllable 39 = .ok (.aload_n 0, 1) := by decide +kernel
theorem dT_fillSyllable_40 : decode cT_fillSyllable 40 = .ok (.getfield 18, 3) := by decide +kernel
theorem dT_fillSyllable_43 : decode cT_fillSyllable 43 = .ok (.iload_n 1, 1) := by decide +kernel
theorem dT_fillSyllable_44 : decode cT_fillSyllable 44 = .ok (.iload_n 1, 1) := by decide +kernel
theorem dT_fillSyllable_45 : decode cT_fillSyllable 45 = .ok (.iload_n 3, 1) := by decide +kernel
theorem dT_fillSyllable_46 : decode cT_fillSyllable 46 = .ok (.isub, 1) := by decide +kernel
theorem dT_fillSyllable_47 : decode cT_fillSyllable 47 = .ok (.iastore, 1) := by decide +kernel
theorem dT_fillSyllable_48 : decode cT_fillSyllable 48 = .ok (.aload_n 0, 1) := by decide +kernel
theorem dT_fillSyllable_49 : decode cT_fillSyllable 49 = .ok (.getfield 21, 3) := by decide +kernel
theorem dT_fillSyllable_52 : decode cT_fillSyllable 52 = .ok (.iload_n 1, 1) := by decide +kernel
theorem dT_fillSyllable_53 : decode cT_fillSyllable 53 = .ok (.bipush 46, 2) := by decide +kernel
theorem dT_fillSyllable_55 : decode cT_fillSyllable 55 = .ok (.iload_n 3, 1) := by decide +kernel
theorem dT_fillSyllable_56 : decode cT_fillSyllable 56 = .ok (.iadd, 1) := by decide +kernel
theorem dT_fillSyllable_57 : decode cT_fillSyllable 57 = .ok (.iconst 1, 1) := by decide +kernel
theorem dT_fillSyllable_58 : decode cT_fillSyllable 58 = .ok (.isub, 1) := by decide +kernel
theorem dT_fillSyllable_59 : decode cT_fillSyllable 59 = .ok (.iastore, 1) := by decide +kernel
theorem dT_fillSyllable_60 : decode cT_fillSyllable 60 = .ok (.return_, 1) := by decide +kernel
theorem dT_partAll_0 : decode cT_partAll 0 = .ok (.iconst 0, 1) := by decide +kernel
theorem dT_partAll_1 : decode cT_partAll 1 = .ok (.istore_n 1, 1) := by decide +kernel
theorem dT_partAll_2 : decode cT_partAll 2 = .ok (.iload_n 1, 1) := by decide +kernel
theorem dT_partAll_3 : decode cT_partAll 3 = .ok (.bipush 75, 2) := by decide +kernel
theorem dT_partAll_5 : decode cT_partAll 5 = .ok (.if_icmp .ge 67, 3) := by decide +kernel
theorem dT_partAll_8 : decode cT_partAll 8 = .ok (.aload_n 0, 1) := by decide +kernel
theorem dT_partAll_9 : decode cT_partAll 9 = .ok (.getfield 31, 3) := by decide +kernel
theorem dT_partAll_12 : decode cT_partAll 12 = .ok (.iload_n 1, 1) := by decide +kernel
theorem dT_partAll_13 : decode cT_partAll 13 = .ok (.iconst 0, 1) := by decide +kernel
theorem dT_partAll_14 : decode cT_partAll 14 = .ok (.iastore, 1) := by decide +kernel
theorem dT_partAll_15 : decode cT_partAll 15 = .ok (.aload_n 0, 1) := by decide +kernel
theorem dT_partAll_16 : decode cT_partAll 16 = .ok (.getfield 18, 3) := by decide +kernel
theorem dT_partAll_19 : decode cT_partAll 19 = .ok (.iload_n 1, 1) := by decide +kernel
theorem dT_partAll_20 : decode cT_partAll 20 = .ok (.iaload, 1) := by decide +kernel
theorem dT_partAll_21 : decode cT_partAll 21 = .ok (.iconst (-1), 1) := by decide +kernel
theorem dT_partAll_22 : decode cT_partAll 22 = .ok (.if_icmp .ne 12, 3) := by decide +kernel
theorem dT_partAll_25 : decode cT_partAll 25 = .ok (.aload_n 0, 1) := by decide +kernel
theorem dT_partAll_26 : decode cT_partAll 26 = .ok (.iload_n 1, 1) := by decide +kernel
theorem dT_partAll_27 : decode cT_partAll 27 = .ok (.iload_n 1, 1) := by decide +kernel
theorem dT_partAll_28 : decode cT_partAll 28 = .ok (.invokevirtual 57, 3) := by decide +kernel
theorem dT_partAll_31 : decode cT_partAll 31 = .ok (.goto 14, 3) := by decide +kernel
theorem dT_partAll_34 : decode cT_partAll 34 = .ok (.aload_n 0, 1) := by decide +kernel
theorem dT_partAll_35 : decode cT_partAll 35 = .ok (.iload_n 1, 1) := by decide +kernel
theorem dT_partAll_36 : decode cT_partAll 36 = .ok (.aload_n 0, 1) := by decide +kernel
theorem dT_partAll_37 : decode cT_partAll 37 = .ok (.getfield 18, 3) := by decide +kernel
theorem dT_partAll_40 : decode cT_partAll 40 = .ok (.iload_n 1, 1) := by decide +kernel
theorem dT_partAll_41 : decode cT_partAll 41 = .ok (.iaload, 1) := by decide +kernel
theorem dT_partAll_42 : decode cT_partAll 42 = .ok (.invokevirtual 60, 3) := by decide +kernel
theorem dT_partAll_45 : decode cT_partAll 45 = .ok (.aload_n 0, 1) := by decide +kernel
theorem dT_partAll_46 : decode cT_partAll 46 = .ok (.getfield 21, 3) := by decide +kernel
theorem dT_partAll_49 : decode cT_partAll 49 = .ok (.iload_n 1, 1) := by decide +kernel
theorem dT_partAll_50 : decode cT_partAll 50 = .ok (.iaload, 1) := by decide +kernel
theorem dT_partAll_51 : decode cT_partAll 51 = .ok (.iconst (-1), 1) := by decide +kernel
theorem dT_partAll_52 : decode cT_partAll 52 = .ok (.if_icmp .eq 14, 3) := by decide +kernel
theorem dT_partAll_55 : decode cT_partAll 55 = .ok (.aload_n 0, 1) := by decide +kernel
theorem dT_partAll_56 : decode cT_partAll 56 = .ok (.iload_n 1, 1) := by decide +kernel
theorem dT_partAll_57 : decode cT_partAll 57 = .ok (.aload_n 0, 1) := by decide +kernel
theorem dT_partAll_58 : decode cT_partAll 58 = .ok (.getfield 21, 3) := by decide +kernel
theorem dT_partAll_61 : decode cT_partAll 61 = .ok (.iload_n 1, 1) := by decide +kernel
theorem dT_partAll_62 : decode cT_partAll 62 = .ok (.iaload, 1) := by decide +kernel
theorem dT_partAll_63 : decode cT_partAll 63 = .ok (.invokevirtual 60, 3) := by decide +kernel
theorem dT_partAll_66 : decode cT_partAll 66 = .ok (.iinc 1 1, 3) := by decide +kernel
theorem dT_partAll_69 : decode cT_partAll 69 = .ok (.goto (-67), 3) := by decide +kernel
theorem dT_partAll_72 : decode cT_partAll 72 = .ok (.return_, 1) := by decide +kernel
theorem dT_addPartsOf_0 : decode cT_addPartsOf 0 = .ok (.iconst 0, 1) := by decide +kernel
theorem dT_addPartsOf_1 : decode cT_addPartsOf 1 = .ok (.istore_n 3, 1) := by decide +kernel
theorem dT_addPartsOf_2 : decode cT_addPartsOf 2 = .ok (.iload_n 3, 1) := by decide +kernel
theorem dT_addPartsOf_3 : decode cT_addPartsOf 3 = .ok (.aload_n 0, 1) := by decide +kernel
theorem dT_addPartsOf_4 : decode cT_addPartsOf 4 = .ok (.getfield 31, 3) := by decide +kernel
theorem dT_addPartsOf_7 : decode cT_addPartsOf 7 = .ok (.iload_n 2, 1) := by decide +kernel
theorem dT_addPartsOf_8 : decode cT_addPartsOf 8 = .ok (.iaload, 1) := by decide +kernel
theorem dT_addPartsOf_9 : decode cT_addPartsOf 9 = .ok (.if_icmp .ge 20, 3) := by decide +kernel
theorem dT_addPartsOf_12 : decode cT_addPartsOf 12 = .ok (.aload_n 0, 1) := by decide +kernel
theorem dT_addPartsOf_13 : decode cT_addPartsOf 13 = .ok (.iload_n 1, 1) := by decide +kernel
theorem dT_addPartsOf_14 : decode cT_addPartsOf 14 = .ok (.aload_n 0, 1) := by decide +kernel
theorem dT_addPartsOf_15 : decode cT_addPartsOf 15 = .ok (.iload_n 2, 1) := by decide +kernel
theorem dT_addPartsOf_16 : decode cT_addPartsOf 16 = .ok (.iload_n 3, 1) := by decide +kernel
theorem dT_addPartsOf_17 : decode cT_addPartsOf 17 = .ok (.invokevirtual 63, 3) := by decide +kernel
theorem dT_addPartsOf_20 : decode cT_addPartsOf 20 = .ok (.invokevirtual 57, 3) := by decide +kernel
theorem dT_addPartsOf_23 : decode cT_addPartsOf 23 = .ok (.iinc 3 1, 3) := by decide +kernel
theorem dT_addPartsOf_26 : decode cT_addPartsOf 26 = .ok (.goto (-24), 3) := by decide +kernel
theorem dT_addPartsOf_29 : decode cT_addPartsOf 29 = .ok (.return_, 1) := by decide +kernel
theorem dT_addPart_0 : decode cT_addPart 0 = .ok (.aload_n 0, 1) := by decide +kernel
theorem dT_addPart_1 : decode cT_addPart 1 = .ok (.getfield 31, 3) := by decide +kernel
theorem dT_addPart_4 : decode cT_addPart 4 = .ok (.iload_n 1, 1) := by decide +kernel
theorem dT_addPart_5 : decode cT_addPart 5 = .ok (.iaload, 1) := by decide +kernel
theorem dT_addPart_6 : decode cT_addPart 6 = .ok (.iconst 4, 1) := by decide +kernel
theorem dT_addPart_7 : decode cT_addPart 7 = .ok (.if_icmp .ge 29, 3) := by decide +kernel
theorem dT_addPart_10 : decode cT_addPart 10 = .ok (.aload_n 0, 1) := by decide +kernel
theorem dT_addPart_11 : decode cT_addPart 11 = .ok (.getfield 28, 3) := by decide +kernel
theorem dT_addPart_14 : decode cT_addPart 14 = .ok (.iload_n 1, 1) := by decide +kernel
theorem dT_addPart_15 : decode cT_addPart 15 = .ok (.iconst 4, 1) := by decide +kernel
theorem dT_addPart_16 : decode cT_addPart 16 = .ok (.imul, 1) := by decide +kernel
theorem dT_addPart_17 : decode cT_addPart 17 = .ok (.aload_n 0, 1) := by decide +kernel
theorem dT_addPart_18 : decode cT_addPart 18 = .ok (.getfield 31, 3) := by decide +kernel
theorem dT_addPart_21 : decode cT_addPart 21 = .ok (.iload_n 1, 1) := by decide +kernel
theorem dT_addPart_22 : decode cT_addPart 22 = .ok (.iaload, 1) := by decide +kernel
theorem dT_addPart_23 : decode cT_addPart 23 = .ok (.iadd, 1) := by decide +kernel
theorem dT_addPart_24 : decode cT_addPart 24 = .ok (.iload_n 2, 1) := by decide +kernel
theorem dT_addPart_25 : decode cT_addPart 25 = .ok (.iastore, 1) := by decide +kernel
theorem dT_addPart_26 : decode cT_addPart 26 = .ok (.aload_n 0, 1) := by decide +kernel
theorem dT_addPart_27 : decode cT_addPart 27 = .ok (.getfield 31, 3) := by decide +kernel
theorem dT_addPart_30 : decode cT_addPart 30 = .ok (.iload_n 1, 1) := by decide +kernel
theorem dT_addPart_31 : decode cT_addPart 31 = .ok (.dup2, 1) := by decide +kernel
theorem dT_addPart_32 : decode cT_addPart 32 = .ok (.iaload, 1) := by decide +kernel
theorem dT_addPart_33 : decode cT_addPart 33 = .ok (.iconst 1, 1) := by decide +kernel
theorem dT_addPart_34 : decode cT_addPart 34 = .ok (.iadd, 1) := by decide +kernel
theorem dT_addPart_35 : decode cT_addPart 35 = .ok (.iastore, 1) := by decide +kernel
theorem dT_addPart_36 : decode cT_addPart 36 = .ok (.return_, 1) := by decide +kernel
theorem dR_init_0 : decode cR_init 0 = .ok (.aload_n 0, 1) := by decide +kernel
theorem dR_init_1 : decode cR_init 1 = .ok (.invokespecial 1, 3) := by decide +kernel
theorem dR_init_4 : decode cR_init 4 = .ok (.aload_n 0, 1) := by decide +kernel
theorem dR_init_5 : decode cR_init 5 = .ok (.iload_n 1, 1) := by decide +kernel
theorem dR_init_6 : decode cR_init 6 = .ok (.newarray .int, 2) := by decide +kernel
theorem dR_init_8 : decode cR_init 8 = .ok (.putfield 7, 3) := by decide +kernel
theorem dR_init_11 : decode cR_init 11 = .ok (.return_, 1) := by decide +kernel
theorem dR_size_0 : decode cR_size 0 = .ok (.aload_n 0, 1) := by decide +kernel
theorem dR_size_1 : decode cR_size 1 = .ok (.getfield 13, 3) := by decide +kernel
theorem dR_size_4 : decode cR_size 4 = .ok (.ireturn, 1) := by decide +kernel
theorem dR_item_0 : decode cR_item 0 = .ok (.aload_n 0, 1) := by decide +kernel
theorem dR_item_1 : decode cR_item 1 = .ok (.getfield 7, 3) := by decide +kernel
theorem dR_item_4 : decode cR_item 4 = .ok (.iload_n 1, 1) := by decide +kernel
theorem dR_item_5 : decode cR_item 5 = .ok (.iaload, 1) := by decide +kernel
theorem dR_item_6 : decode cR_item 6 = .ok (.ireturn, 1) := by decide +kernel
theorem dR_put_0 : decode cR_put 0 = .ok (.aload_n 0, 1) := by decide +kernel
theorem dR_put_1 : decode cR_put 1 = .ok (.getfield 7, 3) := by decide +kernel
theorem dR_put_4 : decode cR_put 4 = .ok (.iload_n 1, 1) := by decide +kernel
theorem dR_put_5 : decode cR_put 5 = .ok (.iload_n 2, 1) := by decide +kernel
theorem dR_put_6 : decode cR_put 6 = .ok (.iastore, 1) := by decide +kernel
theorem dR_put_7 : decode cR_put 7 = .ok (.return_, 1) := by decide +kernel
theorem dR_add_0 : decode cR_add 0 = .ok (.aload_n 0, 1) := by decide +kernel
theorem dR_add_1 : decode cR_add 1 = .ok (.aload_n 0, 1) := by decide +kernel
theorem dR_add_2 : decode cR_add 2 = .ok (.getfield 13, 3) := by decide +kernel
theorem dR_add_5 : decode cR_add 5 = .ok (.iload_n 1, 1) := by decide +kernel
theorem dR_add_6 : decode cR_add 6 = .ok (.invokevirtual 17, 3) := by decide +kernel
theorem dR_add_9 : decode cR_add 9 = .ok (.return_, 1) := by decide +kernel
theorem dR_insert_0 : decode cR_insert 0 = .ok (.aload_n 0, 1) := by decide +kernel
theorem dR_insert_1 : decode cR_insert 1 = .ok (.getfield 13, 3) := by decide +kernel
theorem dR_insert_4 : decode cR_insert 4 = .ok (.aload_n 0, 1) := by decide +kernel
theorem dR_insert_5 : decode cR_insert 5 = .ok (.getfield 7, 3) := by decide +kernel
theorem dR_insert_8 : decode cR_insert 8 = .ok (.arraylength, 1) := by decide +kernel
theorem dR_insert_9 : decode cR_insert 9 = .ok (.if_icmp .ge 15, 3) := by decide +kernel
theorem dR_insert_12 : decode cR_insert 12 = .ok (.iload_n 1, 1) := by decide +kernel
theorem dR_insert_13 : decode cR_insert 13 = .ok (.ifCond .lt 11, 3) := by decide +kernel
theorem dR_insert_16 : decode cR_insert 16 = .ok (.iload_n 1, 1) := by decide +kernel
theorem dR_insert_17 : decode cR_insert 17 = .ok (.aload_n 0, 1) := by decide +kernel
theorem dR_insert_18 : decode cR_insert 18 = .ok (.getfield 13, 3) := by decide +kernel
theorem dR_insert_21 : decode cR_insert 21 = .ok (.if_icmp .le 4, 3) := by decide +kernel
theorem dR_insert_24 : decode cR_insert 24 = .ok (.return_, 1) := by decide +kernel
theorem dR_insert_25 : decode cR_insert 25 = .ok (.aload_n 0, 1) := by decide +kernel
theorem dR_insert_26 : decode cR_insert 26 = .ok (.getfield 13, 3) := by decide +kernel
theorem dR_insert_29 : decode cR_insert 29 = .ok (.istore_n 3, 1) := by decide +kernel
theorem dR_insert_30 : decode cR_insert 30 = .ok (.iload_n 3, 1) := by decide +kernel
theorem dR_insert_31 : decode cR_insert 31 = .ok (.iload_n 1, 1) := by decide +kernel
theorem dR_insert_32 : decode cR_insert 32 = .ok (.if_icmp .le 23, 3) := by decide +kernel
theorem dR_insert_35 : decode cR_insert 35 = .ok (.aload_n 0, 1) := by decide +kernel
theorem dR_insert_36 : decode cR_insert 36 = .ok (.getfield 7, 3) := by decide +kernel
theorem dR_insert_39 : decode cR_insert 39 = .ok (.iload_n 3, 1) := by decide +kernel
theorem dR_insert_40 : decode cR_insert 40 = .ok (.aload_n 0, 1) := by decide +kernel
theorem dR_insert_41 : decode cR_insert 41 = .ok (.getfield 7, 3) := by decide +kernel
theorem dR_insert_44 : decode cR_insert 44 = .ok (.iload_n 3, 1) := by decide +kernel
theorem dR_insert_45 : decode cR_insert 45 = .ok (.iconst 1, 1) := by decide +kernel
theorem dR_insert_46 : decode cR_insert 46 = .ok (.isub, 1) := by decide +kernel
theorem dR_insert_47 : decode cR_insert 47 = .ok (.iaload, 1) := by decide +kernel
theorem dR_insert_48 : decode cR_insert 48 = .ok (.iastore, 1) := by decide +kernel
theorem dR_insert_49 : decode cR_insert 49 = .ok (.iinc 3 (-1), 3) := by decide +kernel
theorem dR_insert_52 : decode cR_insert 52 = .ok (.goto (-22), 3) := by decide +kernel
theorem dR_insert_55 : decode cR_insert 55 = .ok (.aload_n 0, 1) := by decide +kernel
theorem dR_insert_56 : decode cR_insert 56 = .ok (.getfield 7, 3) := by decide +kernel
theorem dR_insert_59 : decode cR_insert 59 = .ok (.iload_n 1, 1) := by decide +kernel
theorem dR_insert_60 : decode cR_insert 60 = .ok (.iload_n 2, 1) := by decide +kernel
theorem dR_insert_61 : decode cR_insert 61 = .ok (.iastore, 1) := by decide +kernel
theorem dR_insert_62 : decode cR_insert 62 = .ok (.aload_n 0, 1) := by decide +kernel
theorem dR_insert_63 : decode cR_insert 63 = .ok (.dup, 1) := by decide +kernel
theorem dR_insert_64 : decode cR_insert 64 = .ok (.getfield 13, 3) := by decide +kernel
theorem dR_insert_67 : decode cR_insert 67 = .ok (.iconst 1, 1) := by decide +kernel
theorem dR_insert_68 : decode cR_insert 68 = .ok (.iadd, 1) := by decide +kernel
theorem dR_insert_69 : decode cR_insert 69 = .ok (.putfield 13, 3) := by decide +kernel
theorem dR_insert_72 : decode cR_insert 72 = .ok (.return_, 1) := by decide +kernel
theorem dR_cutTo_0 : decode cR_cutTo 0 = .ok (.aload_n 0, 1) := by decide +kernel
theorem dR_cutTo_1 : decode cR_cutTo 1 = .ok (.aload_n 0, 1) := by decide +kernel
theorem dR_cutTo_2 : decode cR_cutTo 2 = .ok (.getfield 13, 3) := by decide +kernel
theorem dR_cutTo_5 : decode cR_cutTo 5 = .ok (.iload_n 1, 1) := by decide +kernel
theorem dR_cutTo_6 : decode cR_cutTo 6 = .ok (.iconst 0, 1) := by decide +kernel
theorem dR_cutTo_7 : decode cR_cutTo 7 = .ok (.invokestatic 21, 3) := by decide +kernel
theorem dR_cutTo_10 : decode cR_cutTo 10 = .ok (.invokestatic 27, 3) := by decide +kernel
theorem dR_cutTo_13 : decode cR_cutTo 13 = .ok (.putfield 13, 3) := by decide +kernel
theorem dR_cutTo_16 : decode cR_cutTo 16 = .ok (.return_, 1) := by decide +kernel
theorem dR_copyOf_0 : decode cR_copyOf 0 = .ok (.aload_n 1, 1) := by decide +kernel
theorem dR_copyOf_1 : decode cR_copyOf 1 = .ok (.getfield 13, 3) := by decide +kernel
theorem dR_copyOf_4 : decode cR_copyOf 4 = .ok (.aload_n 0, 1) := by decide +kernel
theorem dR_copyOf_5 : decode cR_copyOf 5 = .ok (.getfield 7, 3) := by decide +kernel
theorem dR_copyOf_8 : decode cR_copyOf 8 = .ok (.arraylength, 1) := by decide +kernel
theorem dR_copyOf_9 : decode cR_copyOf 9 = .ok (.invokestatic 27, 3) := by decide +kernel
theorem dR_copyOf_12 : decode cR_copyOf 12 = .ok (.istore_n 2, 1) := by decide +kernel
theorem dR_copyOf_13 : decode cR_copyOf 13 = .ok (.iconst 0, 1) := by decide +kernel
theorem dR_copyOf_14 : decode cR_copyOf 14 = .ok (.istore_n 3, 1) := by decide +kernel
theorem dR_copyOf_15 : decode cR_copyOf 15 = .ok (.iload_n 3, 1) := by decide +kernel
theorem dR_copyOf_16 : decode cR_copyOf 16 = .ok (.iload_n 2, 1) := by decide +kernel
theorem dR_copyOf_17 : decode cR_copyOf 17 = .ok (.if_icmp .ge 21, 3) := by decide +kernel
theorem dR_copyOf_20 : decode cR_copyOf 20 = .ok (.aload_n 0, 1) := by decide +kernel
theorem dR_copyOf_21 : decode cR_copyOf 21 = .ok (.getfield 7, 3) := by decide +kernel
theorem dR_copyOf_24 : decode cR_copyOf 24 = .ok (.iload_n 3, 1) := by decide +kernel
theorem dR_copyOf_25 : decode cR_copyOf 25 = .ok (.aload_n 1, 1) := by decide +kernel
theorem dR_copyOf_26 : decode cR_copyOf 26 = .ok (.getfield 7, 3) := by decide +kernel
theorem dR_copyOf_29 : decode cR_copyOf 29 = .ok (.iload_n 3, 1) := by decide +kernel
theorem dR_copyOf_30 : decode cR_copyOf 30 = .ok (.iaload, 1) := by decide +kernel
theorem dR_copyOf_31 : decode cR_copyOf 31 = .ok (.iastore, 1) := by decide +kernel
theorem dR_copyOf_32 : decode cR_copyOf 32 = .ok (.iinc 3 1, 3) := by decide +kernel
theorem dR_copyOf_35 : decode cR_copyOf 35 = .ok (.goto (-20), 3) := by decide +kernel
theorem dR_copyOf_38 : decode cR_copyOf 38 = .ok (.aload_n 0, 1) := by decide +kernel
theorem dR_copyOf_39 : decode cR_copyOf 39 = .ok (.iload_n 2, 1) := by decide +kernel
theorem dR_copyOf_40 : decode cR_copyOf 40 = .ok (.putfield 13, 3) := by decide +kernel
theorem dR_copyOf_43 : decode cR_copyOf 43 = .ok (.return_, 1) := by decide +kernel
theorem dR_comparedWith_0 : decode cR_comparedWith 0 = .ok (.aload_n 0, 1) := by decide +kernel
theorem dR_comparedWith_1 : decode cR_comparedWith 1 = .ok (.getfield 13, 3) := by decide +kernel
theorem dR_comparedWith_4 : decode cR_comparedWith 4 = .ok (.aload_n 1, 1) := by decide +kernel
theorem dR_comparedWith_5 : decode cR_comparedWith 5 = .ok (.getfield 13, 3) := by decide +kernel
theorem dR_comparedWith_8 : decode cR_comparedWith 8 = .ok (.invokestatic 27, 3) := by decide +kernel
theorem dR_comparedWith_11 : decode cR_comparedWith 11 = .ok (.istore_n 2, 1) := by decide +kernel
theorem dR_comparedWith_12 : decode cR_comparedWith 12 = .ok (.iconst 0, 1) := by decide +kernel
theorem dR_comparedWith_13 : decode cR_comparedWith 13 = .ok (.istore_n 3, 1) := by decide +kernel
theorem dR_comparedWith_14 : decode cR_comparedWith 14 = .ok (.iload_n 3, 1) := by decide +kernel
theorem dR_comparedWith_15 : decode cR_comparedWith 15 = .ok (.iload_n 2, 1) := by decide +kernel
theorem dR_comparedWith_16 : decode cR_comparedWith 16 = .ok (.if_icmp .ge 45, 3) := by decide +kernel
theorem dR_comparedWith_19 : decode cR_comparedWith 19 = .ok (.aload_n 0, 1) := by decide +kernel
theorem dR_comparedWith_20 : decode cR_comparedWith 20 = .ok (.getfield 7, 3) := by decide +kernel
theorem dR_comparedWith_23 : decode cR_comparedWith 23 = .ok (.iload_n 3, 1) := by decide +kernel
theorem dR_comparedWith_24 : decode cR_comparedWith 24 = .ok (.iaload, 1) := by decide +kernel
theorem dR_comparedWith_25 : decode cR_comparedWith 25 = .ok (.aload_n 1, 1) := by decide +kernel
theorem dR_comparedWith_26 : decode cR_comparedWith 26 = .ok (.getfield 7, 3) := by decide +kernel
theorem dR_comparedWith_29 : decode cR_comparedWith 29 = .ok (.iload_n 3, 1) := by decide +kernel
theorem dR_comparedWith_30 : decode cR_comparedWith 30 = .ok (.iaload, 1) := by decide +kernel
theorem dR_comparedWith_31 : decode cR_comparedWith 31 = .ok (.if_icmp .eq 24, 3) := by decide +kernel
theorem dR_comparedWith_34 : decode cR_comparedWith 34 = .ok (.aload_n 0, 1) := by decide +kernel
theorem dR_comparedWith_35 : decode cR_comparedWith 35 = .ok (.getfield 7, 3) := by decide +kernel
theorem dR_comparedWith_38 : decode cR_comparedWith 38 = .ok (.iload_n 3, 1) := by decide +kernel
theorem dR_comparedWith_39 : decode cR_comparedWith 39 = .ok (.iaload, 1) := by decide +kernel
theorem dR_comparedWith_40 : decode cR_comparedWith 40 = .ok (.aload_n 1, 1) := by decide +kernel
theorem dR_comparedWith_41 : decode cR_comparedWith 41 = .ok (.getfield 7, 3) := by decide +kernel
theorem dR_comparedWith_44 : decode cR_comparedWith 44 = .ok (.iload_n 3, 1) := by decide +kernel
theorem dR_comparedWith_45 : decode cR_comparedWith 45 = .ok (.iaload, 1) := by decide +kernel
theorem dR_comparedWith_46 : decode cR_comparedWith 46 = .ok (.if_icmp .ge 7, 3) := by decide +kernel
theorem dR_comparedWith_49 : decode cR_comparedWith 49 = .ok (.iconst (-1), 1) := by decide +kernel
theorem dR_comparedWith_50 : decode cR_comparedWith 50 = .ok (.goto 4, 3) := by decide +kernel
theorem dR_comparedWith_53 : decode cR_comparedWith 53 = .ok (.iconst 1, 1) := by decide +kernel
theorem dR_comparedWith_54 : decode cR_comparedWith 54 = .ok (.ireturn, 1) := by decide +kernel
theorem dR_comparedWith_55 : decode cR_comparedWith 55 = .ok (.iinc 3 1, 3) := by decide +kernel
theorem dR_comparedWith_58 : decode cR_comparedWith 58 = .ok (.goto (-44), 3) := by decide +kernel
theorem dR_comparedWith_61 : decode cR_comparedWith 61 = .ok (.aload_n 0, 1) := by decide +kernel
theorem dR_comparedWith_62 : decode cR_comparedWith 62 = .ok (.getfield 13, 3) := by decide +kernel
theorem dR_comparedWith_65 : decode cR_comparedWith 65 = .ok (.aload_n 1, 1) := by decide +kernel
theorem dR_comparedWith_66 : decode cR_comparedWith 66 = .ok (.getfield 13, 3) := by decide +kernel
theorem dR_comparedWith_69 : decode cR_comparedWith 69 = .ok (.invokestatic 30, 3) := by decide +kernel
theorem dR_comparedWith_72 : decode cR_comparedWith 72 = .ok (.ireturn, 1) := by decide +kernel
theorem dL_init_0 : decode cL_init 0 = .ok (.aload_n 0, 1) := by decide +kernel
theorem dL_init_1 : decode cL_init 1 = .ok (.invokespecial 3, 3) := by decide +kernel
theorem dL_init_4 : decode cL_init 4 = .ok (.aload_n 0, 1) := by decide +kernel
theorem dL_init_5 : decode cL_init 5 = .ok (.bipush 40, 2) := by decide +kernel
theorem dL_init_7 : decode cL_init 7 = .ok (.newarray .int, 2) := by decide +kernel
theorem dL_init_9 : decode cL_init 9 = .ok (.putfield 9, 3) := by decide +kernel
theorem dL_init_12 : decode cL_init 12 = .ok (.return_, 1) := by decide +kernel
theorem dL_endBefore_0 : decode cL_endBefore 0 = .ok (.iload_n 3, 1) := by decide +kernel
theorem dL_endBefore_1 : decode cL_endBefore 1 = .ok (.ifCond .gt 5, 3) := by decide +kernel
theorem dL_endBefore_4 : decode cL_endBefore 4 = .ok (.iconst 0, 1) := by decide +kernel
theorem dL_endBefore_5 : decode cL_endBefore 5 = .ok (.ireturn, 1) := by decide +kernel
theorem dL_endBefore_6 : decode cL_endBefore 6 = .ok (.iload_n 3, 1) := by decide +kernel
theorem dL_endBefore_7 : decode cL_endBefore 7 = .ok (.aload_n 2, 1) := by decide +kernel
theorem dL_endBefore_8 : decode cL_endBefore 8 = .ok (.invokevirtual 15, 3) := by decide +kernel
theorem dL_endBefore_11 : decode cL_endBefore 11 = .ok (.if_icmp .lt 5, 3) := by decide +kernel
theorem dL_endBefore_14 : decode cL_endBefore 14 = .ok (.iconst 2, 1) := by decide +kernel
theorem dL_endBefore_15 : decode cL_endBefore 15 = .ok (.ireturn, 1) := by decide +kernel
theorem dL_endBefore_16 : decode cL_endBefore 16 = .ok (.aload_n 0, 1) := by decide +kernel
theorem dL_endBefore_17 : decode cL_endBefore 17 = .ok (.aload_n 1, 1) := by decide +kernel
theorem dL_endBefore_18 : decode cL_endBefore 18 = .ok (.aload_n 2, 1) := by decide +kernel
theorem dL_endBefore_19 : decode cL_endBefore 19 = .ok (.invokevirtual 21, 3) := by decide +kernel
theorem dL_endBefore_22 : decode cL_endBefore 22 = .ok (.aload_n 1, 1) := by decide +kernel
theorem dL_endBefore_23 : decode cL_endBefore 23 = .ok (.aload_n 2, 1) := by decide +kernel
theorem dL_endBefore_24 : decode cL_endBefore 24 = .ok (.iload_n 3, 1) := by decide +kernel
theorem dL_endBefore_25 : decode cL_endBefore 25 = .ok (.invokevirtual 25, 3) := by decide +kernel
theorem dL_endBefore_28 : decode cL_endBefore 28 = .ok (.invokevirtual 29, 3) := by decide +kernel
theorem dL_endBefore_31 : decode cL_endBefore 31 = .ok (.bipush 11, 2) := by decide +kernel
theorem dL_endBefore_33 : decode cL_endBefore 33 = .ok (.if_icmp .ne 7, 3) := by decide +kernel
theorem dL_endBefore_36 : decode cL_endBefore 36 = .ok (.iconst 1, 1) := by decide +kernel
theorem dL_endBefore_37 : decode cL_endBefore 37 = .ok (.goto 4, 3) := by decide +kernel
theorem dL_endBefore_40 : decode cL_endBefore 40 = .ok (.iconst 0, 1) := by decide +kernel
theorem dL_endBefore_41 : decode cL_endBefore 41 = .ok (.istore 4, 2) := by decide +kernel
theorem dL_endBefore_43 : decode cL_endBefore 43 = .ok (.aload_n 0, 1) := by decide +kernel
theorem dL_endBefore_44 : decode cL_endBefore 44 = .ok (.getfield 9, 3) := by decide +kernel
theorem dL_endBefore_47 : decode cL_endBefore 47 = .ok (.iload_n 3, 1) := by decide +kernel
theorem dL_endBefore_48 : decode cL_endBefore 48 = .ok (.iconst 1, 1) := by decide +kernel
theorem dL_endBefore_49 : decode cL_endBefore 49 = .ok (.isub, 1) := by decide +kernel
theorem dL_endBefore_50 : decode cL_endBefore 50 = .ok (.iaload, 1) := by decide +kernel
theorem dL_endBefore_51 : decode cL_endBefore 51 = .ok (.aload_n 0, 1) := by decide +kernel
theorem dL_endBefore_52 : decode cL_endBefore 52 = .ok (.getfield 9, 3) := by decide +kernel
theorem dL_endBefore_55 : decode cL_endBefore 55 = .ok (.iload_n 3, 1) := by decide +kernel
theorem dL_endBefore_56 : decode cL_endBefore 56 = .ok (.iaload, 1) := by decide +kernel
theorem dL_endBefore_57 : decode cL_endBefore 57 = .ok (.aload_n 0, 1) := by decide +kernel
theorem dL_endBefore_58 : decode cL_endBefore 58 = .ok (.iload_n 3, 1) := by decide +kernel
theorem dL_endBefore_59 : decode cL_endBefore 59 = .ok (.iconst 1, 1) := by decide +kernel
theorem dL_endBefore_60 : decode cL_endBefore 60 = .ok (.isub, 1) := by decide +kernel
theorem dL_endBefore_61 : decode cL_endBefore 61 = .ok (.invokevirtual 34, 3) := by decide +kernel
theorem dL_endBefore_64 : decode cL_endBefore 64 = .ok (.iload 4, 2) := by decide +kernel
theorem dL_endBefore_66 : decode cL_endBefore 66 = .ok (.invokestatic 37, 3) := by decide +kernel
theorem dL_endBefore_69 : decode cL_endBefore 69 = .ok (.ireturn, 1) := by decide +kernel
theorem dL_findKinds_0 : decode cL_findKinds 0 = .ok (.iconst (-1), 1) := by decide +kernel
theorem dL_findKinds_1 : decode cL_findKinds 1 = .ok (.istore_n 3, 1) := by decide +kernel
theorem dL_findKinds_2 : decode cL_findKinds 2 = .ok (.iconst 0, 1) := by decide +kernel
theorem dL_findKinds_3 : decode cL_findKinds 3 = .ok (.istore 4, 2) := by decide +kernel
theorem dL_findKinds_5 : decode cL_findKinds 5 = .ok (.iload 4, 2) := by decide +kernel
theorem dL_findKinds_7 : decode cL_findKinds 7 = .ok (.aload_n 2, 1) := by decide +kernel
theorem dL_findKinds_8 : decode cL_findKinds 8 = .ok (.invokevirtual 15, 3) := by decide +kernel
theorem dL_findKinds_11 : decode cL_findKinds 11 = .ok (.if_icmp .ge 59, 3) := by decide +kernel
theorem dL_findKinds_14 : decode cL_findKinds 14 = .ok (.aload_n 1, 1) := by decide +kernel
theorem dL_findKinds_15 : decode cL_findKinds 15 = .ok (.aload_n 2, 1) := by decide +kernel
theorem dL_findKinds_16 : decode cL_findKinds 16 = .ok (.iload 4, 2) := by decide +kernel
theorem dL_findKinds_18 : decode cL_findKinds 18 = .ok (.invokevirtual 25, 3) := by decide +kernel
theorem dL_findKinds_21 : decode cL_findKinds 21 = .ok (.invokevirtual 29, 3) := by decide +kernel
theorem dL_findKinds_24 : decode cL_findKinds 24 = .ok (.istore 5, 2) := by decide +kernel
theorem dL_findKinds_26 : decode cL_findKinds 26 = .ok (.iload 5, 2) := by decide +kernel
theorem dL_findKinds_28 : decode cL_findKinds 28 = .ok (.bipush 11, 2) := by decide +kernel
theorem dL_findKinds_30 : decode cL_findKinds 30 = .ok (.if_icmp .ne 22, 3) := by decide +kernel
theorem dL_findKinds_33 : decode cL_findKinds 33 = .ok (.iload_n 3, 1) := by decide +kernel
theorem dL_findKinds_34 : decode cL_findKinds 34 = .ok (.iconst (-1), 1) := by decide +kernel
theorem dL_findKinds_35 : decode cL_findKinds 35 = .ok (.if_icmp .eq 10, 3) := by decide +kernel
theorem dL_findKinds_38 : decode cL_findKinds 38 = .ok (.iload_n 3, 1) := by decide +kernel
theorem dL_findKinds_39 : decode cL_findKinds 39 = .ok (.invokestatic 41, 3) := by decide +kernel
theorem dL_findKinds_42 : decode cL_findKinds 42 = .ok (.ifCond .eq 7, 3) := by decide +kernel
theorem dL_findKinds_45 : decode cL_findKinds 45 = .ok (.iconst 0, 1) := by decide +kernel
theorem dL_findKinds_46 : decode cL_findKinds 46 = .ok (.goto 4, 3) := by decide +kernel
theorem dL_findKinds_49 : decode cL_findKinds 49 = .ok (.iload_n 3, 1) := by decide +kernel
theorem dL_findKinds_50 : decode cL_findKinds 50 = .ok (.istore 5, 2) := by decide +kernel
theorem dL_findKinds_52 : decode cL_findKinds 52 = .ok (.aload_n 0, 1) := by decide +kernel
theorem dL_findKinds_53 : decode cL_findKinds 53 = .ok (.getfield 9, 3) := by decide +kernel
theorem dL_findKinds_56 : decode cL_findKinds 56 = .ok (.iload 4, 2) := by decide +kernel
theorem dL_findKinds_58 : decode cL_findKinds 58 = .ok (.iload 5, 2) := by decide +kernel
theorem dL_findKinds_60 : decode cL_findKinds 60 = .ok (.iastore, 1) := by decide +kernel
theorem dL_findKinds_61 : decode cL_findKinds 61 = .ok (.iload 5, 2) := by decide +kernel
theorem dL_findKinds_63 : decode cL_findKinds 63 = .ok (.istore_n 3, 1) := by decide +kernel
theorem dL_findKinds_64 : decode cL_findKinds 64 = .ok (.iinc 4 1, 3) := by decide +kernel
theorem dL_findKinds_67 : decode cL_findKinds 67 = .ok (.goto (-62), 3) := by decide +kernel
theorem dL_findKinds_70 : decode cL_findKinds 70 = .ok (.return_, 1) := by decide +kernel
theorem dL_kindOverSpaces_0 : decode cL_kindOverSpaces 0 = .ok (.iload_n 1, 1) := by decide +kernel
theorem dL_kindOverSpaces_1 : decode cL_kindOverSpaces 1 = .ok (.istore_n 2, 1) := by decide +kernel
theorem dL_kindOverSpaces_2 : decode cL_kindOverSpaces 2 = .ok (.iload_n 2, 1) := by decide +kernel
theorem dL_kindOverSpaces_3 : decode cL_kindOverSpaces 3 = .ok (.ifCond .lt 19, 3) := by decide +kernel
theorem dL_kindOverSpaces_6 : decode cL_kindOverSpaces 6 = .ok (.aload_n 0, 1) := by decide +kernel
theorem dL_kindOverSpaces_7 : decode cL_kindOverSpaces 7 = .ok (.getfield 9, 3) := by decide +kernel
theorem dL_kindOverSpaces_10 : decode cL_kindOverSpaces 10 = .ok (.iload_n 2, 1) := by decide +kernel
theorem dL_kindOverSpaces_11 : decode cL_kindOverSpaces 11 = .ok (.iaload, 1) := by decide +kernel
theorem dL_kindOverSpaces_12 : decode cL_kindOverSpaces 12 = .ok (.iconst 2, 1) := by decide +kernel
theorem dL_kindOverSpaces_13 : decode cL_kindOverSpaces 13 = .ok (.if_icmp .ne 9, 3) := by decide +kernel
theorem dL_kindOverSpaces_16 : decode cL_kindOverSpaces 16 = .ok (.iinc 2 (-1), 3) := by decide +kernel
theorem dL_kindOverSpaces_19 : decode cL_kindOverSpaces 19 = .ok (.goto (-17), 3) := by decide +kernel
theorem dL_kindOverSpaces_22 : decode cL_kindOverSpaces 22 = .ok (.iload_n 2, 1) := by decide +kernel
theorem dL_kindOverSpaces_23 : decode cL_kindOverSpaces 23 = .ok (.ifCond .ge 7, 3) := by decide +kernel
theorem dL_kindOverSpaces_26 : decode cL_kindOverSpaces 26 = .ok (.iconst (-1), 1) := by decide +kernel
theorem dL_kindOverSpaces_27 : decode cL_kindOverSpaces 27 = .ok (.goto 9, 3) := by decide +kernel
theorem dL_kindOverSpaces_30 : decode cL_kindOverSpaces 30 = .ok (.aload_n 0, 1) := by decide +kernel
theorem dL_kindOverSpaces_31 : decode cL_kindOverSpaces 31 = .ok (.getfield 9, 3) := by decide +kernel
theorem dL_kindOverSpaces_34 : decode cL_kindOverSpaces 34 = .ok (.iload_n 2, 1) := by decide +kernel
theorem dL_kindOverSpaces_35 : decode cL_kindOverSpaces 35 = .ok (.iaload, 1) := by decide +kernel
theorem dL_kindOverSpaces_36 : decode cL_kindOverSpaces 36 = .ok (.ireturn, 1) := by decide +kernel
theorem dL_endBetween_0 : decode cL_endBetween 0 = .ok (.iload_n 0, 1) := by decide +kernel
theorem dL_endBetween_1 : decode cL_endBetween 1 = .ok (.iconst 1, 1) := by decide +kernel
theorem dL_endBetween_2 : decode cL_endBetween 2 = .ok (.if_icmp .ne 5, 3) := by decide +kernel
theorem dL_endBetween_5 : decode cL_endBetween 5 = .ok (.iconst 2, 1) := by decide +kernel
theorem dL_endBetween_6 : decode cL_endBetween 6 = .ok (.ireturn, 1) := by decide +kernel
theorem dL_endBetween_7 : decode cL_endBetween 7 = .ok (.iload_n 1, 1) := by decide +kernel
theorem dL_endBetween_8 : decode cL_endBetween 8 = .ok (.invokestatic 41, 3) := by decide +kernel
theorem dL_endBetween_11 : decode cL_endBetween 11 = .ok (.ifCond .eq 5, 3) := by decide +kernel
theorem dL_endBetween_14 : decode cL_endBetween 14 = .ok (.iconst 0, 1) := by decide +kernel
theorem dL_endBetween_15 : decode cL_endBetween 15 = .ok (.ireturn, 1) := by decide +kernel
theorem dL_endBetween_16 : decode cL_endBetween 16 = .ok (.iload_n 2, 1) := by decide +kernel
theorem dL_endBetween_17 : decode cL_endBetween 17 = .ok (.iconst 3, 1) := by decide +kernel
theorem dL_endBetween_18 : decode cL_endBetween 18 = .ok (.if_icmp .ne 5, 3) := by decide +kernel
theorem dL_endBetween_21 : decode cL_endBetween 21 = .ok (.iconst 1, 1) := by decide +kernel
theorem dL_endBetween_22 : decode cL_endBetween 22 = .ok (.ireturn, 1) := by decide +kernel
theorem dL_endBetween_23 : decode cL_endBetween 23 = .ok (.iload_n 3, 1) := by decide +kernel
theorem dL_endBetween_24 : decode cL_endBetween 24 = .ok (.ifCond .eq 8, 3) := by decide +kernel
theorem dL_endBetween_27 : decode cL_endBetween 27 = .ok (.iload_n 0, 1) := by decide +kernel
theorem dL_endBetween_28 : decode cL_endBetween 28 = .ok (.iload_n 1, 1) := by decide +kernel
theorem dL_endBetween_29 : decode cL_endBetween 29 = .ok (.if_icmp .eq 12, 3) := by decide +kernel
theorem dL_endBetween_32 : decode cL_endBetween 32 = .ok (.iload_n 0, 1) := by decide +kernel
theorem dL_endBetween_33 : decode cL_endBetween 33 = .ok (.iload_n 1, 1) := by decide +kernel
theorem dL_endBetween_34 : decode cL_endBetween 34 = .ok (.iload_n 2, 1) := by decide +kernel
theorem dL_endBetween_35 : decode cL_endBetween 35 = .ok (.invokestatic 45, 3) := by decide +kernel
theorem dL_endBetween_38 : decode cL_endBetween 38 = .ok (.ifCond .eq 5, 3) := by decide +kernel
theorem dL_endBetween_41 : decode cL_endBetween 41 = .ok (.iconst 0, 1) := by decide +kernel
theorem dL_endBetween_42 : decode cL_endBetween 42 = .ok (.ireturn, 1) := by decide +kernel
theorem dL_endBetween_43 : decode cL_endBetween 43 = .ok (.iload_n 0, 1) := by decide +kernel
theorem dL_endBetween_44 : decode cL_endBetween 44 = .ok (.iconst 2, 1) := by decide +kernel
theorem dL_endBetween_45 : decode cL_endBetween 45 = .ok (.if_icmp .eq 11, 3) := by decide +kernel
theorem dL_endBetween_48 : decode cL_endBetween 48 = .ok (.iload_n 0, 1) := by decide +kernel
theorem dL_endBetween_49 : decode cL_endBetween 49 = .ok (.iload_n 1, 1) := by decide +kernel
theorem dL_endBetween_50 : decode cL_endBetween 50 = .ok (.invokestatic 49, 3) := by decide +kernel
theorem dL_endBetween_53 : decode cL_endBetween 53 = .ok (.ifCond .ne 7, 3) := by decide +kernel
theorem dL_endBetween_56 : decode cL_endBetween 56 = .ok (.iconst 1, 1) := by decide +kernel
theorem dL_endBetween_57 : decode cL_endBetween 57 = .ok (.goto 4, 3) := by decide +kernel
theorem dL_endBetween_60 : decode cL_endBetween 60 = .ok (.iconst 0, 1) := by decide +kernel
theorem dL_endBetween_61 : decode cL_endBetween 61 = .ok (.ireturn, 1) := by decide +kernel
theorem dL_isGap_0 : decode cL_isGap 0 = .ok (.iload_n 0, 1) := by decide +kernel
theorem dL_isGap_1 : decode cL_isGap 1 = .ok (.iconst 1, 1) := by decide +kernel
theorem dL_isGap_2 : decode cL_isGap 2 = .ok (.if_icmp .eq 13, 3) := by decide +kernel
theorem dL_isGap_5 : decode cL_isGap 5 = .ok (.iload_n 0, 1) := by decide +kernel
theorem dL_isGap_6 : decode cL_isGap 6 = .ok (.iconst 2, 1) := by decide +kernel
theorem dL_isGap_7 : decode cL_isGap 7 = .ok (.if_icmp .eq 8, 3) := by decide +kernel
theorem dL_isGap_10 : decode cL_isGap 10 = .ok (.iload_n 0, 1) := by decide +kernel
theorem dL_isGap_11 : decode cL_isGap 11 = .ok (.iconst 3, 1) := by decide +kernel
theorem dL_isGap_12 : decode cL_isGap 12 = .ok (.if_icmp .ne 7, 3) := by decide +kernel
theorem dL_isGap_15 : decode cL_isGap 15 = .ok (.iconst 1, 1) := by decide +kernel
theorem dL_isGap_16 : decode cL_isGap 16 = .ok (.goto 4, 3) := by decide +kernel
theorem dL_isGap_19 : decode cL_isGap 19 = .ok (.iconst 0, 1) := by decide +kernel
theorem dL_isGap_20 : decode cL_isGap 20 = .ok (.ireturn, 1) := by decide +kernel
theorem dL_isWord_0 : decode cL_isWord 0 = .ok (.iload_n 0, 1) := by decide +kernel
theorem dL_isWord_1 : decode cL_isWord 1 = .ok (.ifCond .eq 9, 3) := by decide +kernel
theorem dL_isWord_4 : decode cL_isWord 4 = .ok (.iload_n 0, 1) := by decide +kernel
theorem dL_isWord_5 : decode cL_isWord 5 = .ok (.bipush 9, 2) := by decide +kernel
theorem dL_isWord_7 : decode cL_isWord 7 = .ok (.if_icmp .ne 7, 3) := by decide +kernel
theorem dL_isWord_10 : decode cL_isWord 10 = .ok (.iconst 1, 1) := by decide +kernel
theorem dL_isWord_11 : decode cL_isWord 11 = .ok (.goto 4, 3) := by decide +kernel
theorem dL_isWord_14 : decode cL_isWord 14 = .ok (.iconst 0, 1) := by decide +kernel
theorem dL_isWord_15 : decode cL_isWord 15 = .ok (.ireturn, 1) := by decide +kernel
theorem dL_holdsOverSpaces_0 : decode cL_holdsOverSpaces 0 = .ok (.iload_n 0, 1) := by decide +kernel
theorem dL_holdsOverSpaces_1 : decode cL_holdsOverSpaces 1 = .ok (.iconst 4, 1) := by decide +kernel
theorem dL_holdsOverSpaces_2 : decode cL_holdsOverSpaces 2 = .ok (.if_icmp .eq 20, 3) := by decide +kernel
theorem dL_holdsOverSpaces_5 : decode cL_holdsOverSpaces 5 = .ok (.iload_n 1, 1) := by decide +kernel
theorem dL_holdsOverSpaces_6 : decode cL_holdsOverSpaces 6 = .ok (.iconst 4, 1) := by decide +kernel
theorem dL_holdsOverSpaces_7 : decode cL_holdsOverSpaces 7 = .ok (.if_icmp .eq 15, 3) := by decide +kernel
theorem dL_holdsOverSpaces_10 : decode cL_holdsOverSpaces 10 = .ok (.iload_n 1, 1) := by decide +kernel
theorem dL_holdsOverSpaces_11 : decode cL_holdsOverSpaces 11 = .ok (.bipush 6, 2) := by decide +kernel
theorem dL_holdsOverSpaces_13 : decode cL_holdsOverSpaces 13 = .ok (.if_icmp .eq 9, 3) := by decide +kernel
theorem dL_holdsOverSpaces_16 : decode cL_holdsOverSpaces 16 = .ok (.iload_n 1, 1) := by decide +kernel
theorem dL_holdsOverSpaces_17 : decode cL_holdsOverSpaces 17 = .ok (.bipush 12, 2) := by decide +kernel
theorem dL_holdsOverSpaces_19 : decode cL_holdsOverSpaces 19 = .ok (.if_icmp .ne 5, 3) := by decide +kernel
theorem dL_holdsOverSpaces_22 : decode cL_holdsOverSpaces 22 = .ok (.iconst 1, 1) := by decide +kernel
theorem dL_holdsOverSpaces_23 : decode cL_holdsOverSpaces 23 = .ok (.ireturn, 1) := by decide +kernel
theorem dL_holdsOverSpaces_24 : decode cL_holdsOverSpaces 24 = .ok (.iload_n 2, 1) := by decide +kernel
theorem dL_holdsOverSpaces_25 : decode cL_holdsOverSpaces 25 = .ok (.iconst 5, 1) := by decide +kernel
theorem dL_holdsOverSpaces_26 : decode cL_holdsOverSpaces 26 = .ok (.if_icmp .eq 14, 3) := by decide +kernel
theorem dL_holdsOverSpaces_29 : decode cL_holdsOverSpaces 29 = .ok (.iload_n 2, 1) := by decide +kernel
theorem dL_holdsOverSpaces_30 : decode cL_holdsOverSpaces 30 = .ok (.bipush 7, 2) := by decide +kernel
theorem dL_holdsOverSpaces_32 : decode cL_holdsOverSpaces 32 = .ok (.if_icmp .ne 12, 3) := by decide +kernel
theorem dL_holdsOverSpaces_35 : decode cL_holdsOverSpaces 35 = .ok (.iload_n 1, 1) := by decide +kernel
theorem dL_holdsOverSpaces_36 : decode cL_holdsOverSpaces 36 = .ok (.iconst 5, 1) := by decide +kernel
theorem dL_holdsOverSpaces_37 : decode cL_holdsOverSpaces 37 = .ok (.if_icmp .ne 7, 3) := by decide +kernel
theorem dL_holdsOverSpaces_40 : decode cL_holdsOverSpaces 40 = .ok (.iconst 1, 1) := by decide +kernel
theorem dL_holdsOverSpaces_41 : decode cL_holdsOverSpaces 41 = .ok (.goto 4, 3) := by decide +kernel
theorem dL_holdsOverSpaces_44 : decode cL_holdsOverSpaces 44 = .ok (.iconst 0, 1) := by decide +kernel
theorem dL_holdsOverSpaces_45 : decode cL_holdsOverSpaces 45 = .ok (.ireturn, 1) := by decide +kernel
theorem dL_holdsSideBySide_0 : decode cL_holdsSideBySide 0 = .ok (.iload_n 0, 1) := by decide +kernel
theorem dL_holdsSideBySide_1 : decode cL_holdsSideBySide 1 = .ok (.bipush 7, 2) := by decide +kernel
theorem dL_holdsSideBySide_3 : decode cL_holdsSideBySide 3 = .ok (.if_icmp .eq 15, 3) := by decide +kernel
theorem dL_holdsSideBySide_6 : decode cL_holdsSideBySide 6 = .ok (.iload_n 1, 1) := by decide +kernel
theorem dL_holdsSideBySide_7 : decode cL_holdsSideBySide 7 = .ok (.bipush 7, 2) := by decide +kernel
theorem dL_holdsSideBySide_9 : decode cL_holdsSideBySide 9 = .ok (.if_icmp .eq 9, 3) := by decide +kernel
theorem dL_holdsSideBySide_12 : decode cL_holdsSideBySide 12 = .ok (.iload_n 1, 1) := by decide +kernel
theorem dL_holdsSideBySide_13 : decode cL_holdsSideBySide 13 = .ok (.bipush 8, 2) := by decide +kernel
theorem dL_holdsSideBySide_15 : decode cL_holdsSideBySide 15 = .ok (.if_icmp .ne 5, 3) := by decide +kernel
theorem dL_holdsSideBySide_18 : decode cL_holdsSideBySide 18 = .ok (.iconst 1, 1) := by decide +kernel
theorem dL_holdsSideBySide_19 : decode cL_holdsSideBySide 19 = .ok (.ireturn, 1) := by decide +kernel
theorem dL_holdsSideBySide_20 : decode cL_holdsSideBySide 20 = .ok (.iload_n 1, 1) := by decide +kernel
theorem dL_holdsSideBySide_21 : decode cL_holdsSideBySide 21 = .ok (.invokestatic 53, 3) := by decide +kernel
theorem dL_holdsSideBySide_24 : decode cL_holdsSideBySide 24 = .ok (.ifCond .eq 40, 3) := by decide +kernel
theorem dL_holdsSideBySide_27 : decode cL_holdsSideBySide 27 = .ok (.iload_n 0, 1) := by decide +kernel
theorem dL_holdsSideBySide_28 : decode cL_holdsSideBySide 28 = .ok (.invokestatic 53, 3) := by decide +kernel
theorem dL_holdsSideBySide_31 : decode cL_holdsSideBySide 31 = .ok (.ifCond .ne 27, 3) := by decide +kernel
theorem dL_holdsSideBySide_34 : decode cL_holdsSideBySide 34 = .ok (.iload_n 0, 1) := by decide +kernel
theorem dL_holdsSideBySide_35 : decode cL_holdsSideBySide 35 = .ok (.bipush 6, 2) := by decide +kernel
theorem dL_holdsSideBySide_37 : decode cL_holdsSideBySide 37 = .ok (.if_icmp .eq 21, 3) := by decide +kernel
theorem dL_holdsSideBySide_40 : decode cL_holdsSideBySide 40 = .ok (.iload_n 0, 1) := by decide +kernel
theorem dL_holdsSideBySide_41 : decode cL_holdsSideBySide 41 = .ok (.bipush 12, 2) := by decide +kernel
theorem dL_holdsSideBySide_43 : decode cL_holdsSideBySide 43 = .ok (.if_icmp .eq 15, 3) := by decide +kernel
theorem dL_holdsSideBySide_46 : decode cL_holdsSideBySide 46 = .ok (.iload_n 0, 1) := by decide +kernel
theorem dL_holdsSideBySide_47 : decode cL_holdsSideBySide 47 = .ok (.bipush 8, 2) := by decide +kernel
theorem dL_holdsSideBySide_49 : decode cL_holdsSideBySide 49 = .ok (.if_icmp .ne 13, 3) := by decide +kernel
theorem dL_holdsSideBySide_52 : decode cL_holdsSideBySide 52 = .ok (.iload_n 1, 1) := by decide +kernel
theorem dL_holdsSideBySide_53 : decode cL_holdsSideBySide 53 = .ok (.bipush 9, 2) := by decide +kernel
theorem dL_holdsSideBySide_55 : decode cL_holdsSideBySide 55 = .ok (.if_icmp .ne 7, 3) := by decide +kernel
theorem dL_holdsSideBySide_58 : decode cL_holdsSideBySide 58 = .ok (.iconst 1, 1) := by decide +kernel
theorem dL_holdsSideBySide_59 : decode cL_holdsSideBySide 59 = .ok (.goto 4, 3) := by decide +kernel
theorem dL_holdsSideBySide_62 : decode cL_holdsSideBySide 62 = .ok (.iconst 0, 1) := by decide +kernel
theorem dL_holdsSideBySide_63 : decode cL_holdsSideBySide 63 = .ok (.ireturn, 1) := by decide +kernel
theorem dL_holdsSideBySide_64 : decode cL_holdsSideBySide 64 = .ok (.iload_n 0, 1) := by decide +kernel
theorem dL_holdsSideBySide_65 : decode cL_holdsSideBySide 65 = .ok (.invokestatic 53, 3) := by decide +kernel
theorem dL_holdsSideBySide_68 : decode cL_holdsSideBySide 68 = .ok (.ifCond .eq 12, 3) := by decide +kernel
theorem dL_holdsSideBySide_71 : decode cL_holdsSideBySide 71 = .ok (.iload_n 1, 1) := by decide +kernel
theorem dL_holdsSideBySide_72 : decode cL_holdsSideBySide 72 = .ok (.iconst 5, 1) := by decide +kernel
theorem dL_holdsSideBySide_73 : decode cL_holdsSideBySide 73 = .ok (.if_icmp .ne 7, 3) := by decide +kernel
theorem dL_holdsSideBySide_76 : decode cL_holdsSideBySide 76 = .ok (.iconst 1, 1) := by decide +kernel
theorem dL_holdsSideBySide_77 : decode cL_holdsSideBySide 77 = .ok (.goto 4, 3) := by decide +kernel
theorem dL_holdsSideBySide_80 : decode cL_holdsSideBySide 80 = .ok (.iconst 0, 1) := by decide +kernel
theorem dL_holdsSideBySide_81 : decode cL_holdsSideBySide 81 = .ok (.ireturn, 1) := by decide +kernel
theorem dS_init_0 : decode cS_init 0 = .ok (.aload_n 0, 1) := by decide +kernel
theorem dS_init_1 : decode cS_init 1 = .ok (.invokespecial 3, 3) := by decide +kernel
theorem dS_init_4 : decode cS_init 4 = .ok (.aload_n 0, 1) := by decide +kernel
theorem dS_init_5 : decode cS_init 5 = .ok (.bipush 42, 2) := by decide +kernel
theorem dS_init_7 : decode cS_init 7 = .ok (.newarray .int, 2) := by decide +kernel
theorem dS_init_9 : decode cS_init 9 = .ok (.putfield 9, 3) := by decide +kernel
theorem dS_init_12 : decode cS_init 12 = .ok (.aload_n 0, 1) := by decide +kernel
theorem dS_init_13 : decode cS_init 13 = .ok (.bipush 40, 2) := by decide +kernel
theorem dS_init_15 : decode cS_init 15 = .ok (.newarray .int, 2) := by decide +kernel
theorem dS_init_17 : decode cS_init 17 = .ok (.putfield 15, 3) := by decide +kernel
theorem dS_init_20 : decode cS_init 20 = .ok (.aload_n 0, 1) := by decide +kernel
theorem dS_init_21 : decode cS_init 21 = .ok (.bipush 40, 2) := by decide +kernel
theorem dS_init_23 : decode cS_init 23 = .ok (.newarray .int, 2) := by decide +kernel
theorem dS_init_25 : decode cS_init 25 = .ok (.putfield 18, 3) := by decide +kernel
theorem dS_init_28 : decode cS_init 28 = .ok (.return_, 1) := by decide +kernel
theorem dS_levelOf_0 : decode cS_levelOf 0 = .ok (.aload_n 0, 1) := by decide +kernel
theorem dS_levelOf_1 : decode cS_levelOf 1 = .ok (.getfield 15, 3) := by decide +kernel
theorem dS_levelOf_4 : decode cS_levelOf 4 = .ok (.iload_n 1, 1) := by decide +kernel
theorem dS_levelOf_5 : decode cS_levelOf 5 = .ok (.iaload, 1) := by decide +kernel
theorem dS_levelOf_6 : decode cS_levelOf 6 = .ok (.ireturn, 1) := by decide +kernel
theorem dS_readAs_0 : decode cS_readAs 0 = .ok (.aload_n 0, 1) := by decide +kernel
theorem dS_readAs_1 : decode cS_readAs 1 = .ok (.getfield 18, 3) := by decide +kernel
theorem dS_readAs_4 : decode cS_readAs 4 = .ok (.iload_n 1, 1) := by decide +kernel
theorem dS_readAs_5 : decode cS_readAs 5 = .ok (.iaload, 1) := by decide +kernel
theorem dS_readAs_6 : decode cS_readAs 6 = .ok (.ireturn, 1) := by decide +kernel
theorem dS_findLevels_0 : decode cS_findLevels 0 = .ok (.aload_n 2, 1) := by decide +kernel
theorem dS_findLevels_1 : decode cS_findLevels 1 = .ok (.invokevirtual 21, 3) := by decide +kernel
theorem dS_findLevels_4 : decode cS_findLevels 4 = .ok (.istore 4, 2) := by decide +kernel
theorem dS_findLevels_6 : decode cS_findLevels 6 = .ok (.iload_n 3, 1) := by decide +kernel
theorem dS_findLevels_7 : decode cS_findLevels 7 = .ok (.ifCond .eq 8, 3) := by decide +kernel
theorem dS_findLevels_10 : decode cS_findLevels 10 = .ok (.iload_n 3, 1) := by decide +kernel
theorem dS_findLevels_11 : decode cS_findLevels 11 = .ok (.iconst 1, 1) := by decide +kernel
theorem dS_findLevels_12 : decode cS_findLevels 12 = .ok (.if_icmp .ne 7, 3) := by decide +kernel
theorem dS_findLevels_15 : decode cS_findLevels 15 = .ok (.iload_n 3, 1) := by decide +kernel
theorem dS_findLevels_16 : decode cS_findLevels 16 = .ok (.goto 8, 3) := by decide +kernel
theorem dS_findLevels_19 : decode cS_findLevels 19 = .ok (.aload_n 1, 1) := by decide +kernel
theorem dS_findLevels_20 : decode cS_findLevels 20 = .ok (.aload_n 2, 1) := by decide +kernel
theorem dS_findLevels_21 : decode cS_findLevels 21 = .ok (.invokestatic 27, 3) := by decide +kernel
theorem dS_findLevels_24 : decode cS_findLevels 24 = .ok (.istore 5, 2) := by decide +kernel
theorem dS_findLevels_26 : decode cS_findLevels 26 = .ok (.aload_n 0, 1) := by decide +kernel
theorem dS_findLevels_27 : decode cS_findLevels 27 = .ok (.aload_n 1, 1) := by decide +kernel
theorem dS_findLevels_28 : decode cS_findLevels 28 = .ok (.aload_n 2, 1) := by decide +kernel
theorem dS_findLevels_29 : decode cS_findLevels 29 = .ok (.iload 5, 2) := by decide +kernel
theorem dS_findLevels_31 : decode cS_findLevels 31 = .ok (.ifCond .ne 7, 3) := by decide +kernel
theorem dS_findLevels_34 : decode cS_findLevels 34 = .ok (.iconst 0, 1) := by decide +kernel
theorem dS_findLevels_35 : decode cS_findLevels 35 = .ok (.goto 4, 3) := by decide +kernel
theorem dS_findLevels_38 : decode cS_findLevels 38 = .ok (.iconst 1, 1) := by decide +kernel
theorem dS_findLevels_39 : decode cS_findLevels 39 = .ok (.invokevirtual 31, 3) := by decide +kernel
theorem dS_findLevels_42 : decode cS_findLevels 42 = .ok (.aload_n 0, 1) := by decide +kernel
theorem dS_findLevels_43 : decode cS_findLevels 43 = .ok (.iload 4, 2) := by decide +kernel
theorem dS_findLevels_45 : decode cS_findLevels 45 = .ok (.invokevirtual 35, 3) := by decide +kernel
theorem dS_findLevels_48 : decode cS_findLevels 48 = .ok (.aload_n 0, 1) := by decide +kernel
theorem dS_findLevels_49 : decode cS_findLevels 49 = .ok (.iload 4, 2) := by decide +kernel
theorem dS_findLevels_51 : decode cS_findLevels 51 = .ok (.invokevirtual 39, 3) := by decide +kernel
theorem dS_findLevels_54 : decode cS_findLevels 54 = .ok (.aload_n 0, 1) := by decide +kernel
theorem dS_findLevels_55 : decode cS_findLevels 55 = .ok (.iload 4, 2) := by decide +kernel
theorem dS_findLevels_57 : decode cS_findLevels 57 = .ok (.invokevirtual 42, 3) := by decide +kernel
theorem dS_findLevels_60 : decode cS_findLevels 60 = .ok (.aload_n 0, 1) := by decide +kernel
theorem dS_findLevels_61 : decode cS_findLevels 61 = .ok (.iload 4, 2) := by decide +kernel
theorem dS_findLevels_63 : decode cS_findLevels 63 = .ok (.invokevirtual 45, 3) := by decide +kernel
theorem dS_findLevels_66 : decode cS_findLevels 66 = .ok (.aload_n 0, 1) := by decide +kernel
theorem dS_findLevels_67 : decode cS_findLevels 67 = .ok (.iload 4, 2) := by decide +kernel
theorem dS_findLevels_69 : decode cS_findLevels 69 = .ok (.invokevirtual 48, 3) := by decide +kernel
theorem dS_findLevels_72 : decode cS_findLevels 72 = .ok (.aload_n 0, 1) := by decide +kernel
theorem dS_findLevels_73 : decode cS_findLevels 73 = .ok (.iload 4, 2) := by decide +kernel
theorem dS_findLevels_75 : decode cS_findLevels 75 = .ok (.invokevirtual 51, 3) := by decide +kernel
theorem dS_findLevels_78 : decode cS_findLevels 78 = .ok (.iconst 0, 1) := by decide +kernel
theorem dS_findLevels_79 : decode cS_findLevels 79 = .ok (.istore 6, 2) := by decide +kernel
theorem dS_findLevels_81 : decode cS_findLevels 81 = .ok (.iload 6, 2) := by decide +kernel
theorem dS_findLevels_83 : decode cS_findLevels 83 = .ok (.iload 4, 2) := by decide +kernel
theorem dS_findLevels_85 : decode cS_findLevels 85 = .ok (.if_icmp .ge 30, 3) := by decide +kernel
theorem dS_findLevels_88 : decode cS_findLevels 88 = .ok (.aload_n 0, 1) := by decide +kernel
theorem dS_findLevels_89 : decode cS_findLevels 89 = .ok (.getfield 15, 3) := by decide +kernel
theorem dS_findLevels_92 : decode cS_findLevels 92 = .ok (.iload 6, 2) := by decide +kernel
theorem dS_findLevels_94 : decode cS_findLevels 94 = .ok (.aload_n 0, 1) := by decide +kernel
theorem dS_findLevels_95 : decode cS_findLevels 95 = .ok (.getfield 9, 3) := by decide +kernel
theorem dS_findLevels_98 : decode cS_findLevels 98 = .ok (.iload 6, 2) := by decide +kernel
theorem dS_findLevels_100 : decode cS_findLevels 100 = .ok (.iconst 1, 1) := by decide +kernel
theorem dS_findLevels_101 : decode cS_findLevels 101 = .ok (.iadd, 1) := by decide +kernel
theorem dS_findLevels_102 : decode cS_findLevels 102 = .ok (.iaload, 1) := by decide +kernel
theorem dS_findLevels_103 : decode cS_findLevels 103 = .ok (.iload 5, 2) := by decide +kernel
theorem dS_findLevels_105 : decode cS_findLevels 105 = .ok (.invokestatic 54, 3) := by decide +kernel
theorem dS_findLevels_108 : decode cS_findLevels 108 = .ok (.iastore, 1) := by decide +kernel
theorem dS_findLevels_109 : decode cS_findLevels 109 = .ok (.iinc 6 1, 3) := by decide +kernel
theorem dS_findLevels_112 : decode cS_findLevels 112 = .ok (.goto (-31), 3) := by decide +kernel
theorem dS_findLevels_115 : decode cS_findLevels 115 = .ok (.aload_n 0, 1) := by decide +kernel
theorem dS_findLevels_116 : decode cS_findLevels 116 = .ok (.aload_n 1, 1) := by decide +kernel
theorem dS_findLevels_117 : decode cS_findLevels 117 = .ok (.aload_n 2, 1) := by decide +kernel
theorem dS_findLevels_118 : decode cS_findLevels 118 = .ok (.iload 5, 2) := by decide +kernel
theorem dS_findLevels_120 : decode cS_findLevels 120 = .ok (.invokevirtual 58, 3) := by decide +kernel
theorem dS_findLevels_123 : decode cS_findLevels 123 = .ok (.return_, 1) := by decide +kernel
theorem dS_findOrder_0 : decode cS_findOrder 0 = .ok (.iconst 0, 1) := by decide +kernel
theorem dS_findOrder_1 : decode cS_findOrder 1 = .ok (.istore_n 2, 1) := by decide +kernel
theorem dS_findOrder_2 : decode cS_findOrder 2 = .ok (.iload_n 2, 1) := by decide +kernel
theorem dS_findOrder_3 : decode cS_findOrder 3 = .ok (.iload_n 1, 1) := by decide +kernel
theorem dS_findOrder_4 : decode cS_findOrder 4 = .ok (.if_icmp .ge 16, 3) := by decide +kernel
theorem dS_findOrder_7 : decode cS_findOrder 7 = .ok (.aload_n 0, 1) := by decide +kernel
theorem dS_findOrder_8 : decode cS_findOrder 8 = .ok (.getfield 18, 3) := by decide +kernel
theorem dS_findOrder_11 : decode cS_findOrder 11 = .ok (.iload_n 2, 1) := by decide +kernel
theorem dS_findOrder_12 : decode cS_findOrder 12 = .ok (.iload_n 2, 1) := by decide +kernel
theorem dS_findOrder_13 : decode cS_findOrder 13 = .ok (.iastore, 1) := by decide +kernel
theorem dS_findOrder_14 : decode cS_findOrder 14 = .ok (.iinc 2 1, 3) := by decide +kernel
theorem dS_findOrder_17 : decode cS_findOrder 17 = .ok (.goto (-15), 3) := by decide +kernel
theorem dS_findOrder_20 : decode cS_findOrder 20 = .ok (.iconst 2, 1) := by decide +kernel
theorem dS_findOrder_21 : decode cS_findOrder 21 = .ok (.istore_n 2, 1) := by decide +kernel
theorem dS_findOrder_22 : decode cS_findOrder 22 = .ok (.iload_n 2, 1) := by decide +kernel
theorem dS_findOrder_23 : decode cS_findOrder 23 = .ok (.iconst 1, 1) := by decide +kernel
theorem dS_findOrder_24 : decode cS_findOrder 24 = .ok (.if_icmp .lt 15, 3) := by decide +kernel
theorem dS_findOrder_27 : decode cS_findOrder 27 = .ok (.aload_n 0, 1) := by decide +kernel
theorem dS_findOrder_28 : decode cS_findOrder 28 = .ok (.iload_n 1, 1) := by decide +kernel
theorem dS_findOrder_29 : decode cS_findOrder 29 = .ok (.iload_n 2, 1) := by decide +kernel
theorem dS_findOrder_30 : decode cS_findOrder 30 = .ok (.invokevirtual 61, 3) := by decide +kernel
theorem dS_findOrder_33 : decode cS_findOrder 33 = .ok (.iinc 2 (-1), 3) := by decide +kernel
theorem dS_findOrder_36 : decode cS_findOrder 36 = .ok (.goto (-14), 3) := by decide +kernel
theorem dS_findOrder_39 : decode cS_findOrder 39 = .ok (.return_, 1) := by decide +kernel
theorem dS_baseOf_0 : decode cS_baseOf 0 = .ok (.iconst 0, 1) := by decide +kernel
theorem dS_baseOf_1 : decode cS_baseOf 1 = .ok (.istore_n 2, 1) := by decide +kernel
theorem dS_baseOf_2 : decode cS_baseOf 2 = .ok (.iload_n 2, 1) := by decide +kernel
theorem dS_baseOf_3 : decode cS_baseOf 3 = .ok (.aload_n 1, 1) := by decide +kernel
theorem dS_baseOf_4 : decode cS_baseOf 4 = .ok (.invokevirtual 21, 3) := by decide +kernel
theorem dS_baseOf_7 : decode cS_baseOf 7 = .ok (.if_icmp .ge 36, 3) := by decide +kernel
theorem dS_baseOf_10 : decode cS_baseOf 10 = .ok (.aload_n 0, 1) := by decide +kernel
theorem dS_baseOf_11 : decode cS_baseOf 11 = .ok (.aload_n 1, 1) := by decide +kernel
theorem dS_baseOf_12 : decode cS_baseOf 12 = .ok (.iload_n 2, 1) := by decide +kernel
theorem dS_baseOf_13 : decode cS_baseOf 13 = .ok (.invokevirtual 65, 3) := by decide +kernel
theorem dS_baseOf_16 : decode cS_baseOf 16 = .ok (.invokevirtual 69, 3) := by decide +kernel
theorem dS_baseOf_19 : decode cS_baseOf 19 = .ok (.istore_n 3, 1) := by decide +kernel
theorem dS_baseOf_20 : decode cS_baseOf 20 = .ok (.iload_n 3, 1) := by decide +kernel
theorem dS_baseOf_21 : decode cS_baseOf 21 = .ok (.invokestatic 74, 3) := by decide +kernel
theorem dS_baseOf_24 : decode cS_baseOf 24 = .ok (.ifCond .eq 13, 3) := by decide +kernel
theorem dS_baseOf_27 : decode cS_baseOf 27 = .ok (.iload_n 3, 1) := by decide +kernel
theorem dS_baseOf_28 : decode cS_baseOf 28 = .ok (.ifCond .ne 7, 3) := by decide +kernel
theorem dS_baseOf_31 : decode cS_baseOf 31 = .ok (.iconst 0, 1) := by decide +kernel
theorem dS_baseOf_32 : decode cS_baseOf 32 = .ok (.goto 4, 3) := by decide +kernel
theorem dS_baseOf_35 : decode cS_baseOf 35 = .ok (.iconst 1, 1) := by decide +kernel
theorem dS_baseOf_36 : decode cS_baseOf 36 = .ok (.ireturn, 1) := by decide +kernel
theorem dS_baseOf_37 : decode cS_baseOf 37 = .ok (.iinc 2 1, 3) := by decide +kernel
theorem dS_baseOf_40 : decode cS_baseOf 40 = .ok (.goto (-38), 3) := by decide +kernel
theorem dS_baseOf_43 : decode cS_baseOf 43 = .ok (.iconst 0, 1) := by decide +kernel
theorem dS_baseOf_44 : decode cS_baseOf 44 = .ok (.ireturn, 1) := by decide +kernel
theorem dS_isLetter_0 : decode cS_isLetter 0 = .ok (.iload_n 0, 1) := by decide +kernel
theorem dS_isLetter_1 : decode cS_isLetter 1 = .ok (.ifCond .eq 13, 3) := by decide +kernel
theorem dS_isLetter_4 : decode cS_isLetter 4 = .ok (.iload_n 0, 1) := by decide +kernel
theorem dS_isLetter_5 : decode cS_isLetter 5 = .ok (.iconst 1, 1) := by decide +kernel
theorem dS_isLetter_6 : decode cS_isLetter 6 = .ok (.if_icmp .eq 8, 3) := by decide +kernel
theorem dS_isLetter_9 : decode cS_isLetter 9 = .ok (.iload_n 0, 1) := by decide +kernel
theorem dS_isLetter_10 : decode cS_isLetter 10 = .ok (.iconst 2, 1) := by decide +kernel
theorem dS_isLetter_11 : decode cS_isLetter 11 = .ok (.if_icmp .ne 7, 3) := by decide +kernel
theorem dS_isLetter_14 : decode cS_isLetter 14 = .ok (.iconst 1, 1) := by decide +kernel
theorem dS_isLetter_15 : decode cS_isLetter 15 = .ok (.goto 4, 3) := by decide +kernel
theorem dS_isLetter_18 : decode cS_isLetter 18 = .ok (.iconst 0, 1) := by decide +kernel
theorem dS_isLetter_19 : decode cS_isLetter 19 = .ok (.ireturn, 1) := by decide +kernel
theorem dS_isNeutral_0 : decode cS_isNeutral 0 = .ok (.iload_n 0, 1) := by decide +kernel
theorem dS_isNeutral_1 : decode cS_isNeutral 1 = .ok (.bipush 9, 2) := by decide +kernel
theorem dS_isNeutral_3 : decode cS_isNeutral 3 = .ok (.if_icmp .eq 15, 3) := by decide +kernel
theorem dS_isNeutral_6 : decode cS_isNeutral 6 = .ok (.iload_n 0, 1) := by decide +kernel
theorem dS_isNeutral_7 : decode cS_isNeutral 7 = .ok (.bipush 10, 2) := by decide +kernel
theorem dS_isNeutral_9 : decode cS_isNeutral 9 = .ok (.if_icmp .eq 9, 3) := by decide +kernel
theorem dS_isNeutral_12 : decode cS_isNeutral 12 = .ok (.iload_n 0, 1) := by decide +kernel
theorem dS_isNeutral_13 : decode cS_isNeutral 13 = .ok (.bipush 11, 2) := by decide +kernel
theorem dS_isNeutral_15 : decode cS_isNeutral 15 = .ok (.if_icmp .ne 7, 3) := by decide +kernel
theorem dS_isNeutral_18 : decode cS_isNeutral 18 = .ok (.iconst 1, 1) := by decide +kernel
theorem dS_isNeutral_19 : decode cS_isNeutral 19 = .ok (.goto 4, 3) := by decide +kernel
theorem dS_isNeutral_22 : decode cS_isNeutral 22 = .ok (.iconst 0, 1) := by decide +kernel
theorem dS_isNeutral_23 : decode cS_isNeutral 23 = .ok (.ireturn, 1) := by decide +kernel
theorem dS_readsRight_0 : decode cS_readsRight 0 = .ok (.iload_n 0, 1) := by decide +kernel
theorem dS_readsRight_1 : decode cS_readsRight 1 = .ok (.iconst 1, 1) := by decide +kernel
theorem dS_readsRight_2 : decode cS_readsRight 2 = .ok (.if_icmp .eq 14, 3) := by decide +kernel
theorem dS_readsRight_5 : decode cS_readsRight 5 = .ok (.iload_n 0, 1) := by decide +kernel
theorem dS_readsRight_6 : decode cS_readsRight 6 = .ok (.iconst 3, 1) := by decide +kernel
theorem dS_readsRight_7 : decode cS_readsRight 7 = .ok (.if_icmp .eq 9, 3) := by decide +kernel
theorem dS_readsRight_10 : decode cS_readsRight 10 = .ok (.iload_n 0, 1) := by decide +kernel
theorem dS_readsRight_11 : decode cS_readsRight 11 = .ok (.bipush 6, 2) := by decide +kernel
theorem dS_readsRight_13 : decode cS_readsRight 13 = .ok (.if_icmp .ne 7, 3) := by decide +kernel
theorem dS_readsRight_16 : decode cS_readsRight 16 = .ok (.iconst 1, 1) := by decide +kernel
theorem dS_readsRight_17 : decode cS_readsRight 17 = .ok (.goto 4, 3) := by decide +kernel
theorem dS_readsRight_20 : decode cS_readsRight 20 = .ok (.iconst 0, 1) := by decide +kernel
theorem dS_readsRight_21 : decode cS_readsRight 21 = .ok (.ireturn, 1) := by decide +kernel
theorem dS_takeKinds_0 : decode cS_takeKinds 0 = .ok (.aload_n 0, 1) := by decide +kernel
theorem dS_takeKinds_1 : decode cS_takeKinds 1 = .ok (.getfield 9, 3) := by decide +kernel
theorem dS_takeKinds_4 : decode cS_takeKinds 4 = .ok (.iconst 0, 1) := by decide +kernel
theorem dS_takeKinds_5 : decode cS_takeKinds 5 = .ok (.iload_n 3, 1) := by decide +kernel
theorem dS_takeKinds_6 : decode cS_takeKinds 6 = .ok (.iastore, 1) := by decide +kernel
theorem dS_takeKinds_7 : decode cS_takeKinds 7 = .ok (.iconst 0, 1) := by decide +kernel
theorem dS_takeKinds_8 : decode cS_takeKinds 8 = .ok (.istore 4, 2) := by decide +kernel
theorem dS_takeKinds_10 : decode cS_takeKinds 10 = .ok (.iload 4, 2) := by decide +kernel
theorem dS_takeKinds_12 : decode cS_takeKinds 12 = .ok (.aload_n 2, 1) := by decide +kernel
theorem dS_takeKinds_13 : decode cS_takeKinds 13 = .ok (.invokevirtual 21, 3) := by decide +kernel
theorem dS_takeKinds_16 : decode cS_takeKinds 16 = .ok (.if_icmp .ge 28, 3) := by decide +kernel
theorem dS_takeKinds_19 : decode cS_takeKinds 19 = .ok (.aload_n 0, 1) := by decide +kernel
theorem dS_takeKinds_20 : decode cS_takeKinds 20 = .ok (.getfield 9, 3) := by decide +kernel
theorem dS_takeKinds_23 : decode cS_takeKinds 23 = .ok (.iload 4, 2) := by decide +kernel
theorem dS_takeKinds_25 : decode cS_takeKinds 25 = .ok (.iconst 1, 1) := by decide +kernel
theorem dS_takeKinds_26 : decode cS_takeKinds 26 = .ok (.iadd, 1) := by decide +kernel
theorem dS_takeKinds_27 : decode cS_takeKinds 27 = .ok (.aload_n 1, 1) := by decide +kernel
theorem dS_takeKinds_28 : decode cS_takeKinds 28 = .ok (.aload_n 2, 1) := by decide +kernel
theorem dS_takeKinds_29 : decode cS_takeKinds 29 = .ok (.iload 4, 2) := by decide +kernel
theorem dS_takeKinds_31 : decode cS_takeKinds 31 = .ok (.invokevirtual 65, 3) := by decide +kernel
theorem dS_takeKinds_34 : decode cS_takeKinds 34 = .ok (.invokevirtual 69, 3) := by decide +kernel
theorem dS_takeKinds_37 : decode cS_takeKinds 37 = .ok (.iastore, 1) := by decide +kernel
theorem dS_takeKinds_38 : decode cS_takeKinds 38 = .ok (.iinc 4 1, 3) := by decide +kernel
theorem dS_takeKinds_41 : decode cS_takeKinds 41 = .ok (.goto (-31), 3) := by decide +kernel
theorem dS_takeKinds_44 : decode cS_takeKinds 44 = .ok (.aload_n 0, 1) := by decide +kernel
theorem dS_takeKinds_45 : decode cS_takeKinds 45 = .ok (.getfield 9, 3) := by decide +kernel
theorem dS_takeKinds_48 : decode cS_takeKinds 48 = .ok (.aload_n 2, 1) := by decide +kernel
theorem dS_takeKinds_49 : decode cS_takeKinds 49 = .ok (.invokevirtual 21, 3) := by decide +kernel
theorem dS_takeKinds_52 : decode cS_takeKinds 52 = .ok (.iconst 1, 1) := by decide +kernel
theorem dS_takeKinds_53 : decode cS_takeKinds 53 = .ok (.iadd, 1) := by decide +kernel
theorem dS_takeKinds_54 : decode cS_takeKinds 54 = .ok (.iload_n 3, 1) := by decide +kernel
theorem dS_takeKinds_55 : decode cS_takeKinds 55 = .ok (.iastore, 1) := by decide +kernel
theorem dS_takeKinds_56 : decode cS_takeKinds 56 = .ok (.return_, 1) := by decide +kernel
theorem dS_takeFromFront_0 : decode cS_takeFromFront 0 = .ok (.iconst 1, 1) := by decide +kernel
theorem dS_takeFromFront_1 : decode cS_takeFromFront 1 = .ok (.istore_n 2, 1) := by decide +kernel
theorem dS_takeFromFront_2 : decode cS_takeFromFront 2 = .ok (.iload_n 2, 1) := by decide +kernel
theorem dS_takeFromFront_3 : decode cS_takeFromFront 3 = .ok (.iload_n 1, 1) := by decide +kernel
theorem dS_takeFromFront_4 : decode cS_takeFromFront 4 = .ok (.if_icmp .gt 34, 3) := by decide +kernel
theorem dS_takeFromFront_7 : decode cS_takeFromFront 7 = .ok (.aload_n 0, 1) := by decide +kernel
theorem dS_takeFromFront_8 : decode cS_takeFromFront 8 = .ok (.getfield 9, 3) := by decide +kernel
theorem dS_takeFromFront_11 : decode cS_takeFromFront 11 = .ok (.iload_n 2, 1) := by decide +kernel
theorem dS_takeFromFront_12 : decode cS_takeFromFront 12 = .ok (.iaload, 1) := by decide +kernel
theorem dS_takeFromFront_13 : decode cS_takeFromFront 13 = .ok (.bipush 8, 2) := by decide +kernel
theorem dS_takeFromFront_15 : decode cS_takeFromFront 15 = .ok (.if_icmp .ne 17, 3) := by decide +kernel
theorem dS_takeFromFront_18 : decode cS_takeFromFront 18 = .ok (.aload_n 0, 1) := by decide +kernel
theorem dS_takeFromFront_19 : decode cS_takeFromFront 19 = .ok (.getfield 9, 3) := by decide +kernel
theorem dS_takeFromFront_22 : decode cS_takeFromFront 22 = .ok (.iload_n 2, 1) := by decide +kernel
theorem dS_takeFromFront_23 : decode cS_takeFromFront 23 = .ok (.aload_n 0, 1) := by decide +kernel
theorem dS_takeFromFront_24 : decode cS_takeFromFront 24 = .ok (.getfield 9, 3) := by decide +kernel
theorem dS_takeFromFront_27 : decode cS_takeFromFront 27 = .ok (.iload_n 2, 1) := by decide +kernel
theorem dS_takeFromFront_28 : decode cS_takeFromFront 28 = .ok (.iconst 1, 1) := by decide +kernel
theorem dS_takeFromFront_29 : decode cS_takeFromFront 29 = .ok (.isub, 1) := by decide +kernel
theorem dS_takeFromFront_30 : decode cS_takeFromFront 30 = .ok (.iaload, 1) := by decide +kernel
theorem dS_takeFromFront_31 : decode cS_takeFromFront 31 = .ok (.iastore, 1) := by decide +kernel
theorem dS_takeFromFront_32 : decode cS_takeFromFront 32 = .ok (.iinc 2 1, 3) := by decide +kernel
theorem dS_takeFromFront_35 : decode cS_takeFromFront 35 = .ok (.goto (-33), 3) := by decide +kernel
theorem dS_takeFromFront_38 : decode cS_takeFromFront 38 = .ok (.return_, 1) := by decide +kernel
theorem dS_changeArabs_0 : decode cS_changeArabs 0 = .ok (.aload_n 0, 1) := by decide +kernel
theorem dS_changeArabs_1 : decode cS_changeArabs 1 = .ok (.getfield 9, 3) := by decide +kernel
theorem dS_changeArabs_4 : decode cS_changeArabs 4 = .ok (.iconst 0, 1) := by decide +kernel
theorem dS_changeArabs_5 : decode cS_changeArabs 5 = .ok (.iaload, 1) := by decide +kernel
theorem dS_changeArabs_6 : decode cS_changeArabs 6 = .ok (.istore_n 2, 1) := by decide +kernel
theorem dS_changeArabs_7 : decode cS_changeArabs 7 = .ok (.iconst 1, 1) := by decide +kernel
theorem dS_changeArabs_8 : decode cS_changeArabs 8 = .ok (.istore_n 3, 1) := by decide +kernel
theorem dS_changeArabs_9 : decode cS_changeArabs 9 = .ok (.iload_n 3, 1) := by decide +kernel
theorem dS_changeArabs_10 : decode cS_changeArabs 10 = .ok (.iload_n 1, 1) := by decide +kernel
theorem dS_changeArabs_11 : decode cS_changeArabs 11 = .ok (.if_icmp .gt 71, 3) := by decide +kernel
theorem dS_changeArabs_14 : decode cS_changeArabs 14 = .ok (.aload_n 0, 1) := by decide +kernel
theorem dS_changeArabs_15 : decode cS_changeArabs 15 = .ok (.getfield 9, 3) := by decide +kernel
theorem dS_changeArabs_18 : decode cS_changeArabs 18 = .ok (.iload_n 3, 1) := by decide +kernel
theorem dS_changeArabs_19 : decode cS_changeArabs 19 = .ok (.iaload, 1) := by decide +kernel
theorem dS_changeArabs_20 : decode cS_changeArabs 20 = .ok (.invokestatic 74, 3) := by decide +kernel
theorem dS_changeArabs_23 : decode cS_changeArabs 23 = .ok (.ifCond .eq 10, 3) := by decide +kernel
theorem dS_changeArabs_26 : decode cS_changeArabs 26 = .ok (.aload_n 0, 1) := by decide +kernel
theorem dS_changeArabs_27 : decode cS_changeArabs 27 = .ok (.getfield 9, 3) := by decide +kernel
theorem dS_changeArabs_30 : decode cS_changeArabs 30 = .ok (.iload_n 3, 1) := by decide +kernel
theorem dS_changeArabs_31 : decode cS_changeArabs 31 = .ok (.iaload, 1) := by decide +kernel
theorem dS_changeArabs_32 : decode cS_changeArabs 32 = .ok (.istore_n 2, 1) := by decide +kernel
theorem dS_changeArabs_33 : decode cS_changeArabs 33 = .ok (.aload_n 0, 1) := by decide +kernel
theorem dS_changeArabs_34 : decode cS_changeArabs 34 = .ok (.getfield 9, 3) := by decide +kernel
theorem dS_changeArabs_37 : decode cS_changeArabs 37 = .ok (.iload_n 3, 1) := by decide +kernel
theorem dS_changeArabs_38 : decode cS_changeArabs 38 = .ok (.iaload, 1) := by decide +kernel
theorem dS_changeArabs_39 : decode cS_changeArabs 39 = .ok (.iconst 2, 1) := by decide +kernel
theorem dS_changeArabs_40 : decode cS_changeArabs 40 = .ok (.if_icmp .ne 13, 3) := by decide +kernel
theorem dS_changeArabs_43 : decode cS_changeArabs 43 = .ok (.aload_n 0, 1) := by decide +kernel
theorem dS_changeArabs_44 : decode cS_changeArabs 44 = .ok (.getfield 9, 3) := by decide +kernel
theorem dS_changeArabs_47 : decode cS_changeArabs 47 = .ok (.iload_n 3, 1) := by decide +kernel
theorem dS_changeArabs_48 : decode cS_changeArabs 48 = .ok (.iconst 1, 1) := by decide +kernel
theorem dS_changeArabs_49 : decode cS_changeArabs 49 = .ok (.iastore, 1) := by decide +kernel
theorem dS_changeArabs_50 : decode cS_changeArabs 50 = .ok (.goto 26, 3) := by decide +kernel
theorem dS_changeArabs_53 : decode cS_changeArabs 53 = .ok (.aload_n 0, 1) := by decide +kernel
theorem dS_changeArabs_54 : decode cS_changeArabs 54 = .ok (.getfield 9, 3) := by decide +kernel
theorem dS_changeArabs_57 : decode cS_changeArabs 57 = .ok (.iload_n 3, 1) := by decide +kernel
theorem dS_changeArabs_58 : decode cS_changeArabs 58 = .ok (.iaload, 1) := by decide +kernel
theorem dS_changeArabs_59 : decode cS_changeArabs 59 = .ok (.iconst 3, 1) := by decide +kernel
theorem dS_changeArabs_60 : decode cS_changeArabs 60 = .ok (.if_icmp .ne 16, 3) := by decide +kernel
theorem dS_changeArabs_63 : decode cS_changeArabs 63 = .ok (.iload_n 2, 1) := by decide +kernel
theorem dS_changeArabs_64 : decode cS_changeArabs 64 = .ok (.iconst 2, 1) := by decide +kernel
theorem dS_changeArabs_65 : decode cS_changeArabs 65 = .ok (.if_icmp .ne 11, 3) := by decide +kernel
theorem dS_changeArabs_68 : decode cS_changeArabs 68 = .ok (.aload_n 0, 1) := by decide +kernel
theorem dS_changeArabs_69 : decode cS_changeArabs 69 = .ok (.getfield 9, 3) := by decide +kernel
theorem dS_changeArabs_72 : decode cS_changeArabs 72 = .ok (.iload_n 3, 1) := by decide +kernel
theorem dS_changeArabs_73 : decode cS_changeArabs 73 = .ok (.bipush 6, 2) := by decide +kernel
theorem dS_changeArabs_75 : decode cS_changeArabs 75 = .ok (.iastore, 1) := by decide +kernel
theorem dS_changeArabs_76 : decode cS_changeArabs 76 = .ok (.iinc 3 1, 3) := by decide +kernel
theorem dS_changeArabs_79 : decode cS_changeArabs 79 = .ok (.goto (-70), 3) := by decide +kernel
theorem dS_changeArabs_82 : decode cS_changeArabs 82 = .ok (.return_, 1) := by decide +kernel
theorem dS_joinNumbers_0 : decode cS_joinNumbers 0 = .ok (.iconst 1, 1) := by decide +kernel
theorem dS_joinNumbers_1 : decode cS_joinNumbers 1 = .ok (.istore_n 2, 1) := by decide +kernel
theorem dS_joinNumbers_2 : decode cS_joinNumbers 2 = .ok (.iload_n 2, 1) := by decide +kernel
theorem dS_joinNumbers_3 : decode cS_joinNumbers 3 = .ok (.iload_n 1, 1) := by decide +kernel
theorem dS_joinNumbers_4 : decode cS_joinNumbers 4 = .ok (.if_icmp .gt 95, 3) := by decide +kernel
theorem dS_joinNumbers_7 : decode cS_joinNumbers 7 = .ok (.aload_n 0, 1) := by decide +kernel
theorem dS_joinNumbers_8 : decode cS_joinNumbers 8 = .ok (.getfield 9, 3) := by decide +kernel
theorem dS_joinNumbers_11 : decode cS_joinNumbers 11 = .ok (.iload_n 2, 1) := by decide +kernel
theorem dS_joinNumbers_12 : decode cS_joinNumbers 12 = .ok (.iconst 1, 1) := by decide +kernel
theorem dS_joinNumbers_13 : decode cS_joinNumbers 13 = .ok (.isub, 1) := by decide +kernel
theorem dS_joinNumbers_14 : decode cS_joinNumbers 14 = .ok (.iaload, 1) := by decide +kernel
theorem dS_joinNumbers_15 : decode cS_joinNumbers 15 = .ok (.istore_n 3, 1) := by decide +kernel
theorem dS_joinNumbers_16 : decode cS_joinNumbers 16 = .ok (.iload_n 3, 1) := by decide +kernel
theorem dS_joinNumbers_17 : decode cS_joinNumbers 17 = .ok (.aload_n 0, 1) := by decide +kernel
theorem dS_joinNumbers_18 : decode cS_joinNumbers 18 = .ok (.getfield 9, 3) := by decide +kernel
theorem dS_joinNumbers_21 : decode cS_joinNumbers 21 = .ok (.iload_n 2, 1) := by decide +kernel
theorem dS_joinNumbers_22 : decode cS_joinNumbers 22 = .ok (.iconst 1, 1) := by decide +kernel
theorem dS_joinNumbers_23 : decode cS_joinNumbers 23 = .ok (.iadd, 1) := by decide +kernel
theorem dS_joinNumbers_24 : decode cS_joinNumbers 24 = .ok (.iaload, 1) := by decide +kernel
theorem dS_joinNumbers_25 : decode cS_joinNumbers 25 = .ok (.if_icmp .ne 68, 3) := by decide +kernel
theorem dS_joinNumbers_28 : decode cS_joinNumbers 28 = .ok (.aload_n 0, 1) := by decide +kernel
theorem dS_joinNumbers_29 : decode cS_joinNumbers 29 = .ok (.getfield 9, 3) := by decide +kernel
theorem dS_joinNumbers_32 : decode cS_joinNumbers 32 = .ok (.iload_n 2, 1) := by decide +kernel
theorem dS_joinNumbers_33 : decode cS_joinNumbers 33 = .ok (.iaload, 1) := by decide +kernel
theorem dS_joinNumbers_34 : decode cS_joinNumbers 34 = .ok (.iconst 4, 1) := by decide +kernel
theorem dS_joinNumbers_35 : decode cS_joinNumbers 35 = .ok (.if_icmp .ne 8, 3) := by decide +kernel
theorem dS_joinNumbers_38 : decode cS_joinNumbers 38 = .ok (.iload_n 3, 1) := by decide +kernel
theorem dS_joinNumbers_39 : decode cS_joinNumbers 39 = .ok (.iconst 3, 1) := by decide +kernel
theorem dS_joinNumbers_40 : decode cS_joinNumbers 40 = .ok (.if_icmp .eq 25, 3) := by decide +kernel
theorem dS_joinNumbers_43 : decode cS_joinNumbers 43 = .ok (.aload_n 0, 1) := by decide +kernel
theorem dS_joinNumbers_44 : decode cS_joinNumbers 44 = .ok (.getfield 9, 3) := by decide +kernel
theorem dS_joinNumbers_47 : decode cS_joinNumbers 47 = .ok (.iload_n 2, 1) := by decide +kernel
theorem dS_joinNumbers_48 : decode cS_joinNumbers 48 = .ok (.iaload, 1) := by decide +kernel
theorem dS_joinNumbers_49 : decode cS_joinNumbers 49 = .ok (.bipush 7, 2) := by decide +kernel
theorem dS_joinNumbers_51 : decode cS_joinNumbers 51 = .ok (.if_icmp .ne 18, 3) := by decide +kernel
theorem dS_joinNumbers_54 : decode cS_joinNumbers 54 = .ok (.iload_n 3, 1) := by decide +kernel
theorem dS_joinNumbers_55 : decode cS_joinNumbers 55 = .ok (.iconst 3, 1) := by decide +kernel
theorem dS_joinNumbers_56 : decode cS_joinNumbers 56 = .ok (.if_icmp .eq 9, 3) := by decide +kernel
theorem dS_joinNumbers_59 : decode cS_joinNumbers 59 = .ok (.iload_n 3, 1) := by decide +kernel
theorem dS_joinNumbers_60 : decode cS_joinNumbers 60 = .ok (.bipush 6, 2) := by decide +kernel
theorem dS_joinNumbers_62 : decode cS_joinNumbers 62 = .ok (.if_icmp .ne 7, 3) := by decide +kernel
theorem dS_joinNumbers_65 : decode cS_joinNumbers 65 = .ok (.iconst 1, 1) := by decide +kernel
theorem dS_joinNumbers_66 : decode cS_joinNumbers 66 = .ok (.goto 4, 3) := by decide +kernel
theorem dS_joinNumbers_69 : decode cS_joinNumbers 69 = .ok (.iconst 0, 1) := by decide +kernel
theorem dS_joinNumbers_70 : decode cS_joinNumbers 70 = .ok (.istore 4, 2) := by decide +kernel
theorem dS_joinNumbers_72 : decode cS_joinNumbers 72 = .ok (.aload_n 0, 1) := by decide +kernel
theorem dS_joinNumbers_73 : decode cS_joinNumbers 73 = .ok (.getfield 9, 3) := by decide +kernel
theorem dS_joinNumbers_76 : decode cS_joinNumbers 76 = .ok (.iload_n 2, 1) := by decide +kernel
theorem dS_joinNumbers_77 : decode cS_joinNumbers 77 = .ok (.iload 4, 2) := by decide +kernel
theorem dS_joinNumbers_79 : decode cS_joinNumbers 79 = .ok (.ifCond .eq 7, 3) := by decide +kernel
theorem dS_joinNumbers_82 : decode cS_joinNumbers 82 = .ok (.iload_n 3, 1) := by decide +kernel
theorem dS_joinNumbers_83 : decode cS_joinNumbers 83 = .ok (.goto 9, 3) := by decide +kernel
theorem dS_joinNumbers_86 : decode cS_joinNumbers 86 = .ok (.aload_n 0, 1) := by decide +kernel
theorem dS_joinNumbers_87 : decode cS_joinNumbers 87 = .ok (.getfield 9, 3) := by decide +kernel
theorem dS_joinNumbers_90 : decode cS_joinNumbers 90 = .ok (.iload_n 2, 1) := by decide +kernel
theorem dS_joinNumbers_91 : decode cS_joinNumbers 91 = .ok (.iaload, 1) := by decide +kernel
theorem dS_joinNumbers_92 : decode cS_joinNumbers 92 = .ok (.iastore, 1) := by decide +kernel
theorem dS_joinNumbers_93 : decode cS_joinNumbers 93 = .ok (.iinc 2 1, 3) := by decide +kernel
theorem dS_joinNumbers_96 : decode cS_joinNumbers 96 = .ok (.goto (-94), 3) := by decide +kernel
theorem dS_joinNumbers_99 : decode cS_joinNumbers 99 = .ok (.return_, 1) := by decide +kernel
theorem dS_changeUnits_0 : decode cS_changeUnits 0 = .ok (.iconst 1, 1) := by decide +kernel
theorem dS_changeUnits_1 : decode cS_changeUnits 1 = .ok (.istore_n 2, 1) := by decide +kernel
theorem dS_changeUnits_2 : decode cS_changeUnits 2 = .ok (.iload_n 2, 1) := by decide +kernel
theorem dS_changeUnits_3 : decode cS_changeUnits 3 = .ok (.iload_n 1, 1) := by decide +kernel
theorem dS_changeUnits_4 : decode cS_changeUnits 4 = .ok (.if_icmp .gt 120, 3) := by decide +kernel
theorem dS_changeUnits_7 : decode cS_changeUnits 7 = .ok (.aload_n 0, 1) := by decide +kernel
theorem dS_changeUnits_8 : decode cS_changeUnits 8 = .ok (.getfield 9, 3) := by decide +kernel
theorem dS_changeUnits_11 : decode cS_changeUnits 11 = .ok (.iload_n 2, 1) := by decide +kernel
theorem dS_changeUnits_12 : decode cS_changeUnits 12 = .ok (.iaload, 1) := by decide +kernel
theorem dS_changeUnits_13 : decode cS_changeUnits 13 = .ok (.iconst 5, 1) := by decide +kernel
theorem dS_changeUnits_14 : decode cS_changeUnits 14 = .ok (.if_icmp .ne 75, 3) := by decide +kernel
theorem dS_changeUnits_17 : decode cS_changeUnits 17 = .ok (.iload_n 2, 1) := by decide +kernel
theorem dS_changeUnits_18 : decode cS_changeUnits 18 = .ok (.istore_n 3, 1) := by decide +kernel
theorem dS_changeUnits_19 : decode cS_changeUnits 19 = .ok (.iload_n 3, 1) := by decide +kernel
theorem dS_changeUnits_20 : decode cS_changeUnits 20 = .ok (.iload_n 1, 1) := by decide +kernel
theorem dS_changeUnits_21 : decode cS_changeUnits 21 = .ok (.if_icmp .gt 19, 3) := by decide +kernel
theorem dS_changeUnits_24 : decode cS_changeUnits 24 = .ok (.aload_n 0, 1) := by decide +kernel
theorem dS_changeUnits_25 : decode cS_changeUnits 25 = .ok (.getfield 9, 3) := by decide +kernel
theorem dS_changeUnits_28 : decode cS_changeUnits 28 = .ok (.iload_n 3, 1) := by decide +kernel
theorem dS_changeUnits_29 : decode cS_changeUnits 29 = .ok (.iaload, 1) := by decide +kernel
theorem dS_changeUnits_30 : decode cS_changeUnits 30 = .ok (.iconst 5, 1) := by decide +kernel
theorem dS_changeUnits_31 : decode cS_changeUnits 31 = .ok (.if_icmp .ne 9, 3) := by decide +kernel
theorem dS_changeUnits_34 : decode cS_changeUnits 34 = .ok (.iinc 3 1, 3) := by decide +kernel
theorem dS_changeUnits_37 : decode cS_changeUnits 37 = .ok (.goto (-18), 3) := by decide +kernel
theorem dS_changeUnits_40 : decode cS_changeUnits 40 = .ok (.aload_n 0, 1) := by decide +kernel
theorem dS_changeUnits_41 : decode cS_changeUnits 41 = .ok (.getfield 9, 3) := by decide +kernel
theorem dS_changeUnits_44 : decode cS_changeUnits 44 = .ok (.iload_n 2, 1) := by decide +kernel
theorem dS_changeUnits_45 : decode cS_changeUnits 45 = .ok (.iconst 1, 1) := by decide +kernel
theorem dS_changeUnits_46 : decode cS_changeUnits 46 = .ok (.isub, 1) := by decide +kernel
theorem dS_changeUnits_47 : decode cS_changeUnits 47 = .ok (.iaload, 1) := by decide +kernel
theorem dS_changeUnits_48 : decode cS_changeUnits 48 = .ok (.iconst 3, 1) := by decide +kernel
theorem dS_changeUnits_49 : decode cS_changeUnits 49 = .ok (.if_icmp .eq 13, 3) := by decide +kernel
theorem dS_changeUnits_52 : decode cS_changeUnits 52 = .ok (.aload_n 0, 1) := by decide +kernel
theorem dS_changeUnits_53 : decode cS_changeUnits 53 = .ok (.getfield 9, 3) := by decide +kernel
theorem dS_changeUnits_56 : decode cS_changeUnits 56 = .ok (.iload_n 3, 1) := by decide +kernel
theorem dS_changeUnits_57 : decode cS_changeUnits 57 = .ok (.iaload, 1) := by decide +kernel
theorem dS_changeUnits_58 : decode cS_changeUnits 58 = .ok (.iconst 3, 1) := by decide +kernel
theorem dS_changeUnits_59 : decode cS_changeUnits 59 = .ok (.if_icmp .ne 7, 3) := by decide +kernel
theorem dS_changeUnits_62 : decode cS_changeUnits 62 = .ok (.iconst 1, 1) := by decide +kernel
theorem dS_changeUnits_63 : decode cS_changeUnits 63 = .ok (.goto 4, 3) := by decide +kernel
theorem dS_changeUnits_66 : decode cS_changeUnits 66 = .ok (.iconst 0, 1) := by decide +kernel
theorem dS_changeUnits_67 : decode cS_changeUnits 67 = .ok (.istore 4, 2) := by decide +kernel
theorem dS_changeUnits_69 : decode cS_changeUnits 69 = .ok (.aload_n 0, 1) := by decide +kernel
theorem dS_changeUnits_70 : decode cS_changeUnits 70 = .ok (.iload_n 2, 1) := by decide +kernel
theorem dS_changeUnits_71 : decode cS_changeUnits 71 = .ok (.iload_n 3, 1) := by decide +kernel
theorem dS_changeUnits_72 : decode cS_changeUnits 72 = .ok (.iload 4, 2) := by decide +kernel
theorem dS_changeUnits_74 : decode cS_changeUnits 74 = .ok (.ifCond .eq 7, 3) := by decide +kernel
theorem dS_changeUnits_77 : decode cS_changeUnits 77 = .ok (.iconst 3, 1) := by decide +kernel
theorem dS_changeUnits_78 : decode cS_changeUnits 78 = .ok (.goto 5, 3) := by decide +kernel
theorem dS_changeUnits_81 : decode cS_changeUnits 81 = .ok (.bipush 11, 2) := by decide +kernel
theorem dS_changeUnits_83 : decode cS_changeUnits 83 = .ok (.invokevirtual 78, 3) := by decide +kernel
theorem dS_changeUnits_86 : decode cS_changeUnits 86 = .ok (.goto 32, 3) := by decide +kernel
theorem dS_changeUnits_89 : decode cS_changeUnits 89 = .ok (.aload_n 0, 1) := by decide +kernel
theorem dS_changeUnits_90 : decode cS_changeUnits 90 = .ok (.getfield 9, 3) := by decide +kernel
theorem dS_changeUnits_93 : decode cS_changeUnits 93 = .ok (.iload_n 2, 1) := by decide +kernel
theorem dS_changeUnits_94 : decode cS_changeUnits 94 = .ok (.iaload, 1) := by decide +kernel
theorem dS_changeUnits_95 : decode cS_changeUnits 95 = .ok (.iconst 4, 1) := by decide +kernel
theorem dS_changeUnits_96 : decode cS_changeUnits 96 = .ok (.if_icmp .eq 14, 3) := by decide +kernel
theorem dS_changeUnits_99 : decode cS_changeUnits 99 = .ok (.aload_n 0, 1) := by decide +kernel
theorem dS_changeUnits_100 : decode cS_changeUnits 100 = .ok (.getfield 9, 3) := by decide +kernel
theorem dS_changeUnits_103 : decode cS_changeUnits 103 = .ok (.iload_n 2, 1) := by decide +kernel
theorem dS_changeUnits_104 : decode cS_changeUnits 104 = .ok (.iaload, 1) := by decide +kernel
theorem dS_changeUnits_105 : decode cS_changeUnits 105 = .ok (.bipush 7, 2) := by decide +kernel
theorem dS_changeUnits_107 : decode cS_changeUnits 107 = .ok (.if_icmp .ne 11, 3) := by decide +kernel
theorem dS_changeUnits_110 : decode cS_changeUnits 110 = .ok (.aload_n 0, 1) := by decide +kernel
theorem dS_changeUnits_111 : decode cS_changeUnits 111 = .ok (.getfield 9, 3) := by decide +kernel
theorem dS_changeUnits_114 : decode cS_changeUnits 114 = .ok (.iload_n 2, 1) := by decide +kernel
theorem dS_changeUnits_115 : decode cS_changeUnits 115 = .ok (.bipush 11, 2) := by decide +kernel
theorem dS_changeUnits_117 : decode cS_changeUnits 117 = .ok (.iastore, 1) := by decide +kernel
theorem dS_changeUnits_118 : decode cS_changeUnits 118 = .ok (.iinc 2 1, 3) := by decide +kernel
theorem dS_changeUnits_121 : decode cS_changeUnits 121 = .ok (.goto (-119), 3) := by decide +kernel
theorem dS_changeUnits_124 : decode cS_changeUnits 124 = .ok (.return_, 1) := by decide +kernel
theorem dS_changeLeftNumbers_0 : decode cS_changeLeftNumbers 0 = .ok (.aload_n 0, 1) := by decide +kernel
theorem dS_changeLeftNumbers_1 : decode cS_changeLeftNumbers 1 = .ok (.getfield 9, 3) := by decide +kernel
theorem dS_changeLeftNumbers_4 : decode cS_changeLeftNumbers 4 = .ok (.iconst 0, 1) := by decide +kernel
theorem dS_changeLeftNumbers_5 : decode cS_changeLeftNumbers 5 = .ok (.iaload, 1) := by decide +kernel
theorem dS_changeLeftNumbers_6 : decode cS_changeLeftNumbers 6 = .ok (.istore_n 2, 1) := by decide +kernel
theorem dS_changeLeftNumbers_7 : decode cS_changeLeftNumbers 7 = .ok (.iconst 1, 1) := by decide +kernel
theorem dS_changeLeftNumbers_8 : decode cS_changeLeftNumbers 8 = .ok (.istore_n 3, 1) := by decide +kernel
theorem dS_changeLeftNumbers_9 : decode cS_changeLeftNumbers 9 = .ok (.iload_n 3, 1) := by decide +kernel
theorem dS_changeLeftNumbers_10 : decode cS_changeLeftNumbers 10 = .ok (.iload_n 1, 1) := by decide +kernel
theorem dS_changeLeftNumbers_11 : decode cS_changeLeftNumbers 11 = .ok (.if_icmp .gt 59, 3) := by decide +kernel
theorem dS_changeLeftNumbers_14 : decode cS_changeLeftNumbers 14 = .ok (.aload_n 0, 1) := by decide +kernel
theorem dS_changeLeftNumbers_15 : decode cS_changeLeftNumbers 15 = .ok (.getfield 9, 3) := by decide +kernel
theorem dS_changeLeftNumbers_18 : decode cS_changeLeftNumbers 18 = .ok (.iload_n 3, 1) := by decide +kernel
theorem dS_changeLeftNumbers_19 : decode cS_changeLeftNumbers 19 = .ok (.iaload, 1) := by decide +kernel
theorem dS_changeLeftNumbers_20 : decode cS_changeLeftNumbers 20 = .ok (.ifCond .eq 13, 3) := by decide +kernel
theorem dS_changeLeftNumbers_23 : decode cS_changeLeftNumbers 23 = .ok (.aload_n 0, 1) := by decide +kernel
theorem dS_changeLeftNumbers_24 : decode cS_changeLeftNumbers 24 = .ok (.getfield 9, 3) := by decide +kernel
theorem dS_changeLeftNumbers_27 : decode cS_changeLeftNumbers 27 = .ok (.iload_n 3, 1) := by decide +kernel
theorem dS_changeLeftNumbers_28 : decode cS_changeLeftNumbers 28 = .ok (.iaload, 1) := by decide +kernel
theorem dS_changeLeftNumbers_29 : decode cS_changeLeftNumbers 29 = .ok (.iconst 1, 1) := by decide +kernel
theorem dS_changeLeftNumbers_30 : decode cS_changeLeftNumbers 30 = .ok (.if_icmp .ne 13, 3) := by decide +kernel
theorem dS_changeLeftNumbers_33 : decode cS_changeLeftNumbers 33 = .ok (.aload_n 0, 1) := by decide +kernel
theorem dS_changeLeftNumbers_34 : decode cS_changeLeftNumbers 34 = .ok (.getfield 9, 3) := by decide +kernel
theorem dS_changeLeftNumbers_37 : decode cS_changeLeftNumbers 37 = .ok (.iload_n 3, 1) := by decide +kernel
theorem dS_changeLeftNumbers_38 : decode cS_changeLeftNumbers 38 = .ok (.iaload, 1) := by decide +kernel
theorem dS_changeLeftNumbers_39 : decode cS_changeLeftNumbers 39 = .ok (.istore_n 2, 1) := by decide +kernel
theorem dS_changeLeftNumbers_40 : decode cS_changeLeftNumbers 40 = .ok (.goto 24, 3) := by decide +kernel
theorem dS_changeLeftNumbers_43 : decode cS_changeLeftNumbers 43 = .ok (.aload_n 0, 1) := by decide +kernel
theorem dS_changeLeftNumbers_44 : decode cS_changeLeftNumbers 44 = .ok (.getfield 9, 3) := by decide +kernel
theorem dS_changeLeftNumbers_47 : decode cS_changeLeftNumbers 47 = .ok (.iload_n 3, 1) := by decide +kernel
theorem dS_changeLeftNumbers_48 : decode cS_changeLeftNumbers 48 = .ok (.iaload, 1) := by decide +kernel
theorem dS_changeLeftNumbers_49 : decode cS_changeLeftNumbers 49 = .ok (.iconst 3, 1) := by decide +kernel
theorem dS_changeLeftNumbers_50 : decode cS_changeLeftNumbers 50 = .ok (.if_icmp .ne 14, 3) := by decide +kernel
theorem dS_changeLeftNumbers_53 : decode cS_changeLeftNumbers 53 = .ok (.iload_n 2, 1) := by decide +kernel
theorem dS_changeLeftNumbers_54 : decode cS_changeLeftNumbers 54 = .ok (.ifCond .ne 10, 3) := by decide +kernel
theorem dS_changeLeftNumbers_57 : decode cS_changeLeftNumbers 57 = .ok (.aload_n 0, 1) := by decide +kernel
theorem dS_changeLeftNumbers_58 : decode cS_changeLeftNumbers 58 = .ok (.getfield 9, 3) := by decide +kernel
theorem dS_changeLeftNumbers_61 : decode cS_changeLeftNumbers 61 = .ok (.iload_n 3, 1) := by decide +kernel
theorem dS_changeLeftNumbers_62 : decode cS_changeLeftNumbers 62 = .ok (.iconst 0, 1) := by decide +kernel
theorem dS_changeLeftNumbers_63 : decode cS_changeLeftNumbers 63 = .ok (.iastore, 1) := by decide +kernel
theorem dS_changeLeftNumbers_64 : decode cS_changeLeftNumbers 64 = .ok (.iinc 3 1, 3) := by decide +kernel
theorem dS_changeLeftNumbers_67 : decode cS_changeLeftNumbers 67 = .ok (.goto (-58), 3) := by decide +kernel
theorem dS_changeLeftNumbers_70 : decode cS_changeLeftNumbers 70 = .ok (.return_, 1) := by decide +kernel
theorem dS_changeNeutrals_0 : decode cS_changeNeutrals 0 = .ok (.iconst 1, 1) := by decide +kernel
theorem dS_changeNeutrals_1 : decode cS_changeNeutrals 1 = .ok (.istore_n 2, 1) := by decide +kernel
theorem dS_changeNeutrals_2 : decode cS_changeNeutrals 2 = .ok (.iload_n 2, 1) := by decide +kernel
theorem dS_changeNeutrals_3 : decode cS_changeNeutrals 3 = .ok (.iload_n 1, 1) := by decide +kernel
theorem dS_changeNeutrals_4 : decode cS_changeNeutrals 4 = .ok (.if_icmp .gt 70, 3) := by decide +kernel
theorem dS_changeNeutrals_7 : decode cS_changeNeutrals 7 = .ok (.aload_n 0, 1) := by decide +kernel
theorem dS_changeNeutrals_8 : decode cS_changeNeutrals 8 = .ok (.getfield 9, 3) := by decide +kernel
theorem dS_changeNeutrals_11 : decode cS_changeNeutrals 11 = .ok (.iload_n 2, 1) := by decide +kernel
theorem dS_changeNeutrals_12 : decode cS_changeNeutrals 12 = .ok (.iaload, 1) := by decide +kernel
theorem dS_changeNeutrals_13 : decode cS_changeNeutrals 13 = .ok (.invokestatic 82, 3) := by decide +kernel
theorem dS_changeNeutrals_16 : decode cS_changeNeutrals 16 = .ok (.ifCond .eq 52, 3) := by decide +kernel
theorem dS_changeNeutrals_19 : decode cS_changeNeutrals 19 = .ok (.iload_n 2, 1) := by decide +kernel
theorem dS_changeNeutrals_20 : decode cS_changeNeutrals 20 = .ok (.istore_n 3, 1) := by decide +kernel
theorem dS_changeNeutrals_21 : decode cS_changeNeutrals 21 = .ok (.iload_n 3, 1) := by decide +kernel
theorem dS_changeNeutrals_22 : decode cS_changeNeutrals 22 = .ok (.iload_n 1, 1) := by decide +kernel
theorem dS_changeNeutrals_23 : decode cS_changeNeutrals 23 = .ok (.if_icmp .gt 21, 3) := by decide +kernel
theorem dS_changeNeutrals_26 : decode cS_changeNeutrals 26 = .ok (.aload_n 0, 1) := by decide +kernel
theorem dS_changeNeutrals_27 : decode cS_changeNeutrals 27 = .ok (.getfield 9, 3) := by decide +kernel
theorem dS_changeNeutrals_30 : decode cS_changeNeutrals 30 = .ok (.iload_n 3, 1) := by decide +kernel
theorem dS_changeNeutrals_31 : decode cS_changeNeutrals 31 = .ok (.iaload, 1) := by decide +kernel
theorem dS_changeNeutrals_32 : decode cS_changeNeutrals 32 = .ok (.invokestatic 82, 3) := by decide +kernel
theorem dS_changeNeutrals_35 : decode cS_changeNeutrals 35 = .ok (.ifCond .eq 9, 3) := by decide +kernel
theorem dS_changeNeutrals_38 : decode cS_changeNeutrals 38 = .ok (.iinc 3 1, 3) := by decide +kernel
theorem dS_changeNeutrals_41 : decode cS_changeNeutrals 41 = .ok (.goto (-20), 3) := by decide +kernel
theorem dS_changeNeutrals_44 : decode cS_changeNeutrals 44 = .ok (.aload_n 0, 1) := by decide +kernel
theorem dS_changeNeutrals_45 : decode cS_changeNeutrals 45 = .ok (.iload_n 2, 1) := by decide +kernel
theorem dS_changeNeutrals_46 : decode cS_changeNeutrals 46 = .ok (.iload_n 3, 1) := by decide +kernel
theorem dS_changeNeutrals_47 : decode cS_changeNeutrals 47 = .ok (.aload_n 0, 1) := by decide +kernel
theorem dS_changeNeutrals_48 : decode cS_changeNeutrals 48 = .ok (.aload_n 0, 1) := by decide +kernel
theorem dS_changeNeutrals_49 : decode cS_changeNeutrals 49 = .ok (.getfield 9, 3) := by decide +kernel
theorem dS_changeNeutrals_52 : decode cS_changeNeutrals 52 = .ok (.iload_n 2, 1) := by decide +kernel
theorem dS_changeNeutrals_53 : decode cS_changeNeutrals 53 = .ok (.iconst 1, 1) := by decide +kernel
theorem dS_changeNeutrals_54 : decode cS_changeNeutrals 54 = .ok (.isub, 1) := by decide +kernel
theorem dS_changeNeutrals_55 : decode cS_changeNeutrals 55 = .ok (.iaload, 1) := by decide +kernel
theorem dS_changeNeutrals_56 : decode cS_changeNeutrals 56 = .ok (.aload_n 0, 1) := by decide +kernel
theorem dS_changeNeutrals_57 : decode cS_changeNeutrals 57 = .ok (.getfield 9, 3) := by decide +kernel
theorem dS_changeNeutrals_60 : decode cS_changeNeutrals 60 = .ok (.iload_n 3, 1) := by decide +kernel
theorem dS_changeNeutrals_61 : decode cS_changeNeutrals 61 = .ok (.iaload, 1) := by decide +kernel
theorem dS_changeNeutrals_62 : decode cS_changeNeutrals 62 = .ok (.invokevirtual 85, 3) := by decide +kernel
theorem dS_changeNeutrals_65 : decode cS_changeNeutrals 65 = .ok (.invokevirtual 78, 3) := by decide +kernel
theorem dS_changeNeutrals_68 : decode cS_changeNeutrals 68 = .ok (.iinc 2 1, 3) := by decide +kernel
theorem dS_changeNeutrals_71 : decode cS_changeNeutrals 71 = .ok (.goto (-69), 3) := by decide +kernel
theorem dS_changeNeutrals_74 : decode cS_changeNeutrals 74 = .ok (.return_, 1) := by decide +kernel
theorem dS_kindBetween_0 : decode cS_kindBetween 0 = .ok (.iload_n 1, 1) := by decide +kernel
theorem dS_kindBetween_1 : decode cS_kindBetween 1 = .ok (.ifCond .ne 9, 3) := by decide +kernel
theorem dS_kindBetween_4 : decode cS_kindBetween 4 = .ok (.iload_n 2, 1) := by decide +kernel
theorem dS_kindBetween_5 : decode cS_kindBetween 5 = .ok (.ifCond .ne 5, 3) := by decide +kernel
theorem dS_kindBetween_8 : decode cS_kindBetween 8 = .ok (.iconst 0, 1) := by decide +kernel
theorem dS_kindBetween_9 : decode cS_kindBetween 9 = .ok (.ireturn, 1) := by decide +kernel
theorem dS_kindBetween_10 : decode cS_kindBetween 10 = .ok (.iload_n 1, 1) := by decide +kernel
theorem dS_kindBetween_11 : decode cS_kindBetween 11 = .ok (.invokestatic 88, 3) := by decide +kernel
theorem dS_kindBetween_14 : decode cS_kindBetween 14 = .ok (.ifCond .eq 14, 3) := by decide +kernel
theorem dS_kindBetween_17 : decode cS_kindBetween 17 = .ok (.iload_n 2, 1) := by decide +kernel
theorem dS_kindBetween_18 : decode cS_kindBetween 18 = .ok (.invokestatic 88, 3) := by decide +kernel
theorem dS_kindBetween_21 : decode cS_kindBetween 21 = .ok (.ifCond .eq 7, 3) := by decide +kernel
theorem dS_kindBetween_24 : decode cS_kindBetween 24 = .ok (.iconst 1, 1) := by decide +kernel
theorem dS_kindBetween_25 : decode cS_kindBetween 25 = .ok (.goto 9, 3) := by decide +kernel
theorem dS_kindBetween_28 : decode cS_kindBetween 28 = .ok (.aload_n 0, 1) := by decide +kernel
theorem dS_kindBetween_29 : decode cS_kindBetween 29 = .ok (.getfield 9, 3) := by decide +kernel
theorem dS_kindBetween_32 : decode cS_kindBetween 32 = .ok (.iconst 0, 1) := by decide +kernel
theorem dS_kindBetween_33 : decode cS_kindBetween 33 = .ok (.iaload, 1) := by decide +kernel
theorem dS_kindBetween_34 : decode cS_kindBetween 34 = .ok (.ireturn, 1) := by decide +kernel
theorem dS_fillKinds_0 : decode cS_fillKinds 0 = .ok (.iload_n 1, 1) := by decide +kernel
theorem dS_fillKinds_1 : decode cS_fillKinds 1 = .ok (.istore 4, 2) := by decide +kernel
theorem dS_fillKinds_3 : decode cS_fillKinds 3 = .ok (.iload 4, 2) := by decide +kernel
theorem dS_fillKinds_5 : decode cS_fillKinds 5 = .ok (.iload_n 2, 1) := by decide +kernel
theorem dS_fillKinds_6 : decode cS_fillKinds 6 = .ok (.if_icmp .ge 17, 3) := by decide +kernel
theorem dS_fillKinds_9 : decode cS_fillKinds 9 = .ok (.aload_n 0, 1) := by decide +kernel
theorem dS_fillKinds_10 : decode cS_fillKinds 10 = .ok (.getfield 9, 3) := by decide +kernel
theorem dS_fillKinds_13 : decode cS_fillKinds 13 = .ok (.iload 4, 2) := by decide +kernel
theorem dS_fillKinds_15 : decode cS_fillKinds 15 = .ok (.iload_n 3, 1) := by decide +kernel
theorem dS_fillKinds_16 : decode cS_fillKinds 16 = .ok (.iastore, 1) := by decide +kernel
theorem dS_fillKinds_17 : decode cS_fillKinds 17 = .ok (.iinc 4 1, 3) := by decide +kernel
theorem dS_fillKinds_20 : decode cS_fillKinds 20 = .ok (.goto (-17), 3) := by decide +kernel
theorem dS_fillKinds_23 : decode cS_fillKinds 23 = .ok (.return_, 1) := by decide +kernel
theorem dS_levelFor_0 : decode cS_levelFor 0 = .ok (.iload_n 0, 1) := by decide +kernel
theorem dS_levelFor_1 : decode cS_levelFor 1 = .ok (.iconst 1, 1) := by decide +kernel
theorem dS_levelFor_2 : decode cS_levelFor 2 = .ok (.if_icmp .ne 5, 3) := by decide +kernel
theorem dS_levelFor_5 : decode cS_levelFor 5 = .ok (.iconst 1, 1) := by decide +kernel
theorem dS_levelFor_6 : decode cS_levelFor 6 = .ok (.ireturn, 1) := by decide +kernel
theorem dS_levelFor_7 : decode cS_levelFor 7 = .ok (.iload_n 0, 1) := by decide +kernel
theorem dS_levelFor_8 : decode cS_levelFor 8 = .ok (.ifCond .ne 11, 3) := by decide +kernel
theorem dS_levelFor_11 : decode cS_levelFor 11 = .ok (.iload_n 1, 1) := by decide +kernel
theorem dS_levelFor_12 : decode cS_levelFor 12 = .ok (.ifCond .ne 7, 3) := by decide +kernel
theorem dS_levelFor_15 : decode cS_levelFor 15 = .ok (.iconst 0, 1) := by decide +kernel
theorem dS_levelFor_16 : decode cS_levelFor 16 = .ok (.goto 4, 3) := by decide +kernel
theorem dS_levelFor_19 : decode cS_levelFor 19 = .ok (.iconst 2, 1) := by decide +kernel
theorem dS_levelFor_20 : decode cS_levelFor 20 = .ok (.ireturn, 1) := by decide +kernel
theorem dS_resetGaps_0 : decode cS_resetGaps 0 = .ok (.iconst 1, 1) := by decide +kernel
theorem dS_resetGaps_1 : decode cS_resetGaps 1 = .ok (.istore 4, 2) := by decide +kernel
theorem dS_resetGaps_3 : decode cS_resetGaps 3 = .ok (.aload_n 2, 1) := by decide +kernel
theorem dS_resetGaps_4 : decode cS_resetGaps 4 = .ok (.invokevirtual 21, 3) := by decide +kernel
theorem dS_resetGaps_7 : decode cS_resetGaps 7 = .ok (.iconst 1, 1) := by decide +kernel
theorem dS_resetGaps_8 : decode cS_resetGaps 8 = .ok (.isub, 1) := by decide +kernel
theorem dS_resetGaps_9 : decode cS_resetGaps 9 = .ok (.istore 5, 2) := by decide +kernel
theorem dS_resetGaps_11 : decode cS_resetGaps 11 = .ok (.iload 5, 2) := by decide +kernel
theorem dS_resetGaps_13 : decode cS_resetGaps 13 = .ok (.ifCond .lt 60, 3) := by decide +kernel
theorem dS_resetGaps_16 : decode cS_resetGaps 16 = .ok (.aload_n 1, 1) := by decide +kernel
theorem dS_resetGaps_17 : decode cS_resetGaps 17 = .ok (.aload_n 2, 1) := by decide +kernel
theorem dS_resetGaps_18 : decode cS_resetGaps 18 = .ok (.iload 5, 2) := by decide +kernel
theorem dS_resetGaps_20 : decode cS_resetGaps 20 = .ok (.invokevirtual 65, 3) := by decide +kernel
theorem dS_resetGaps_23 : decode cS_resetGaps 23 = .ok (.invokevirtual 69, 3) := by decide +kernel
theorem dS_resetGaps_26 : decode cS_resetGaps 26 = .ok (.istore 6, 2) := by decide +kernel
theorem dS_resetGaps_28 : decode cS_resetGaps 28 = .ok (.iload 6, 2) := by decide +kernel
theorem dS_resetGaps_30 : decode cS_resetGaps 30 = .ok (.bipush 10, 2) := by decide +kernel
theorem dS_resetGaps_32 : decode cS_resetGaps 32 = .ok (.if_icmp .eq 15, 3) := by decide +kernel
theorem dS_resetGaps_35 : decode cS_resetGaps 35 = .ok (.iload 6, 2) := by decide +kernel
theorem dS_resetGaps_37 : decode cS_resetGaps 37 = .ok (.bipush 9, 2) := by decide +kernel
theorem dS_resetGaps_39 : decode cS_resetGaps 39 = .ok (.if_icmp .ne 12, 3) := by decide +kernel
theorem dS_resetGaps_42 : decode cS_resetGaps 42 = .ok (.iload 4, 2) := by decide +kernel
theorem dS_resetGaps_44 : decode cS_resetGaps 44 = .ok (.ifCond .eq 7, 3) := by decide +kernel
theorem dS_resetGaps_47 : decode cS_resetGaps 47 = .ok (.iconst 1, 1) := by decide +kernel
theorem dS_resetGaps_48 : decode cS_resetGaps 48 = .ok (.goto 4, 3) := by decide +kernel
theorem dS_resetGaps_51 : decode cS_resetGaps 51 = .ok (.iconst 0, 1) := by decide +kernel
theorem dS_resetGaps_52 : decode cS_resetGaps 52 = .ok (.istore 4, 2) := by decide +kernel
theorem dS_resetGaps_54 : decode cS_resetGaps 54 = .ok (.iload 4, 2) := by decide +kernel
theorem dS_resetGaps_56 : decode cS_resetGaps 56 = .ok (.ifCond .eq 11, 3) := by decide +kernel
theorem dS_resetGaps_59 : decode cS_resetGaps 59 = .ok (.aload_n 0, 1) := by decide +kernel
theorem dS_resetGaps_60 : decode cS_resetGaps 60 = .ok (.getfield 15, 3) := by decide +kernel
theorem dS_resetGaps_63 : decode cS_resetGaps 63 = .ok (.iload 5, 2) := by decide +kernel
theorem dS_resetGaps_65 : decode cS_resetGaps 65 = .ok (.iload_n 3, 1) := by decide +kernel
theorem dS_resetGaps_66 : decode cS_resetGaps 66 = .ok (.iastore, 1) := by decide +kernel
theorem dS_resetGaps_67 : decode cS_resetGaps 67 = .ok (.iinc 5 (-1), 3) := by decide +kernel
theorem dS_resetGaps_70 : decode cS_resetGaps 70 = .ok (.goto (-59), 3) := by decide +kernel
theorem dS_resetGaps_73 : decode cS_resetGaps 73 = .ok (.return_, 1) := by decide +kernel
theorem dS_turnRows_0 : decode cS_turnRows 0 = .ok (.iconst 0, 1) := by decide +kernel
theorem dS_turnRows_1 : decode cS_turnRows 1 = .ok (.istore_n 3, 1) := by decide +kernel
theorem dS_turnRows_2 : decode cS_turnRows 2 = .ok (.iconst 0, 1) := by decide +kernel
theorem dS_turnRows_3 : decode cS_turnRows 3 = .ok (.istore 4, 2) := by decide +kernel
theorem dS_turnRows_5 : decode cS_turnRows 5 = .ok (.iload 4, 2) := by decide +kernel
theorem dS_turnRows_7 : decode cS_turnRows 7 = .ok (.iload_n 1, 1) := by decide +kernel
theorem dS_turnRows_8 : decode cS_turnRows 8 = .ok (.if_icmp .ge 56, 3) := by decide +kernel
theorem dS_turnRows_11 : decode cS_turnRows 11 = .ok (.aload_n 0, 1) := by decide +kernel
theorem dS_turnRows_12 : decode cS_turnRows 12 = .ok (.getfield 15, 3) := by decide +kernel
theorem dS_turnRows_15 : decode cS_turnRows 15 = .ok (.iload 4, 2) := by decide +kernel
theorem dS_turnRows_17 : decode cS_turnRows 17 = .ok (.iaload, 1) := by decide +kernel
theorem dS_turnRows_18 : decode cS_turnRows 18 = .ok (.iload_n 2, 1) := by decide +kernel
theorem dS_turnRows_19 : decode cS_turnRows 19 = .ok (.if_icmp .ge 11, 3) := by decide +kernel
theorem dS_turnRows_22 : decode cS_turnRows 22 = .ok (.iload 4, 2) := by decide +kernel
theorem dS_turnRows_24 : decode cS_turnRows 24 = .ok (.iconst 1, 1) := by decide +kernel
theorem dS_turnRows_25 : decode cS_turnRows 25 = .ok (.iadd, 1) := by decide +kernel
theorem dS_turnRows_26 : decode cS_turnRows 26 = .ok (.istore_n 3, 1) := by decide +kernel
theorem dS_turnRows_27 : decode cS_turnRows 27 = .ok (.goto 31, 3) := by decide +kernel
theorem dS_turnRows_30 : decode cS_turnRows 30 = .ok (.iload 4, 2) := by decide +kernel
theorem dS_turnRows_32 : decode cS_turnRows 32 = .ok (.iconst 1, 1) := by decide +kernel
theorem dS_turnRows_33 : decode cS_turnRows 33 = .ok (.iadd, 1) := by decide +kernel
theorem dS_turnRows_34 : decode cS_turnRows 34 = .ok (.iload_n 1, 1) := by decide +kernel
theorem dS_turnRows_35 : decode cS_turnRows 35 = .ok (.if_icmp .eq 16, 3) := by decide +kernel
theorem dS_turnRows_38 : decode cS_turnRows 38 = .ok (.aload_n 0, 1) := by decide +kernel
theorem dS_turnRows_39 : decode cS_turnRows 39 = .ok (.getfield 15, 3) := by decide +kernel
theorem dS_turnRows_42 : decode cS_turnRows 42 = .ok (.iload 4, 2) := by decide +kernel
theorem dS_turnRows_44 : decode cS_turnRows 44 = .ok (.iconst 1, 1) := by decide +kernel
theorem dS_turnRows_45 : decode cS_turnRows 45 = .ok (.iadd, 1) := by decide +kernel
theorem dS_turnRows_46 : decode cS_turnRows 46 = .ok (.iaload, 1) := by decide +kernel
theorem dS_turnRows_47 : decode cS_turnRows 47 = .ok (.iload_n 2, 1) := by decide +kernel
theorem dS_turnRows_48 : decode cS_turnRows 48 = .ok (.if_icmp .ge 10, 3) := by decide +kernel
theorem dS_turnRows_51 : decode cS_turnRows 51 = .ok (.aload_n 0, 1) := by decide +kernel
theorem dS_turnRows_52 : decode cS_turnRows 52 = .ok (.iload_n 3, 1) := by decide +kernel
theorem dS_turnRows_53 : decode cS_turnRows 53 = .ok (.iload 4, 2) := by decide +kernel
theorem dS_turnRows_55 : decode cS_turnRows 55 = .ok (.invokevirtual 91, 3) := by decide +kernel
theorem dS_turnRows_58 : decode cS_turnRows 58 = .ok (.iinc 4 1, 3) := by decide +kernel
theorem dS_turnRows_61 : decode cS_turnRows 61 = .ok (.goto (-56), 3) := by decide +kernel
theorem dS_turnRows_64 : decode cS_turnRows 64 = .ok (.return_, 1) := by decide +kernel
theorem dS_turnRound_0 : decode cS_turnRound 0 = .ok (.iload_n 1, 1) := by decide +kernel
theorem dS_turnRound_1 : decode cS_turnRound 1 = .ok (.istore_n 3, 1) := by decide +kernel
theorem dS_turnRound_2 : decode cS_turnRound 2 = .ok (.iload_n 2, 1) := by decide +kernel
theorem dS_turnRound_3 : decode cS_turnRound 3 = .ok (.istore 4, 2) := by decide +kernel
theorem dS_turnRound_5 : decode cS_turnRound 5 = .ok (.iload_n 3, 1) := by decide +kernel
theorem dS_turnRound_6 : decode cS_turnRound 6 = .ok (.iload 4, 2) := by decide +kernel
theorem dS_turnRound_8 : decode cS_turnRound 8 = .ok (.if_icmp .ge 42, 3) := by decide +kernel
theorem dS_turnRound_11 : decode cS_turnRound 11 = .ok (.aload_n 0, 1) := by decide +kernel
theorem dS_turnRound_12 : decode cS_turnRound 12 = .ok (.getfield 18, 3) := by decide +kernel
theorem dS_turnRound_15 : decode cS_turnRound 15 = .ok (.iload_n 3, 1) := by decide +kernel
theorem dS_turnRound_16 : decode cS_turnRound 16 = .ok (.iaload, 1) := by decide +kernel
theorem dS_turnRound_17 : decode cS_turnRound 17 = .ok (.istore 5, 2) := by decide +kernel
theorem dS_turnRound_19 : decode cS_turnRound 19 = .ok (.aload_n 0, 1) := by decide +kernel
theorem dS_turnRound_20 : decode cS_turnRound 20 = .ok (.getfield 18, 3) := by decide +kernel
theorem dS_turnRound_23 : decode cS_turnRound 23 = .ok (.iload_n 3, 1) := by decide +kernel
theorem dS_turnRound_24 : decode cS_turnRound 24 = .ok (.aload_n 0, 1) := by decide +kernel
theorem dS_turnRound_25 : decode cS_turnRound 25 = .ok (.getfield 18, 3) := by decide +kernel
theorem dS_turnRound_28 : decode cS_turnRound 28 = .ok (.iload 4, 2) := by decide +kernel
theorem dS_turnRound_30 : decode cS_turnRound 30 = .ok (.iaload, 1) := by decide +kernel
theorem dS_turnRound_31 : decode cS_turnRound 31 = .ok (.iastore, 1) := by decide +kernel
theorem dS_turnRound_32 : decode cS_turnRound 32 = .ok (.aload_n 0, 1) := by decide +kernel
theorem dS_turnRound_33 : decode cS_turnRound 33 = .ok (.getfield 18, 3) := by decide +kernel
theorem dS_turnRound_36 : decode cS_turnRound 36 = .ok (.iload 4, 2) := by decide +kernel
theorem dS_turnRound_38 : decode cS_turnRound 38 = .ok (.iload 5, 2) := by decide +kernel
theorem dS_turnRound_40 : decode cS_turnRound 40 = .ok (.iastore, 1) := by decide +kernel
theorem dS_turnRound_41 : decode cS_turnRound 41 = .ok (.iinc 3 1, 3) := by decide +kernel
theorem dS_turnRound_44 : decode cS_turnRound 44 = .ok (.iinc 4 (-1), 3) := by decide +kernel
theorem dS_turnRound_47 : decode cS_turnRound 47 = .ok (.goto (-42), 3) := by decide +kernel
theorem dS_turnRound_50 : decode cS_turnRound 50 = .ok (.return_, 1) := by decide +kernel
theorem dC_endsBefore_0 : decode cC_endsBefore 0 = .ok (.iload_n 2, 1) := by decide +kernel
theorem dC_endsBefore_1 : decode cC_endsBefore 1 = .ok (.ifCond .le 11, 3) := by decide +kernel
theorem dC_endsBefore_4 : decode cC_endsBefore 4 = .ok (.iload_n 2, 1) := by decide +kernel
theorem dC_endsBefore_5 : decode cC_endsBefore 5 = .ok (.aload_n 1, 1) := by decide +kernel
theorem dC_endsBefore_6 : decode cC_endsBefore 6 = .ok (.invokevirtual 7, 3) := by decide +kernel
theorem dC_endsBefore_9 : decode cC_endsBefore 9 = .ok (.if_icmp .lt 5, 3) := by decide +kernel
theorem dC_endsBefore_12 : decode cC_endsBefore 12 = .ok (.iconst 1, 1) := by decide +kernel
theorem dC_endsBefore_13 : decode cC_endsBefore 13 = .ok (.ireturn, 1) := by decide +kernel
theorem dC_endsBefore_14 : decode cC_endsBefore 14 = .ok (.aload_n 0, 1) := by decide +kernel
theorem dC_endsBefore_15 : decode cC_endsBefore 15 = .ok (.aload_n 1, 1) := by decide +kernel
theorem dC_endsBefore_16 : decode cC_endsBefore 16 = .ok (.iload_n 2, 1) := by decide +kernel
theorem dC_endsBefore_17 : decode cC_endsBefore 17 = .ok (.iconst 1, 1) := by decide +kernel
theorem dC_endsBefore_18 : decode cC_endsBefore 18 = .ok (.isub, 1) := by decide +kernel
theorem dC_endsBefore_19 : decode cC_endsBefore 19 = .ok (.invokevirtual 13, 3) := by decide +kernel
theorem dC_endsBefore_22 : decode cC_endsBefore 22 = .ok (.invokevirtual 17, 3) := by decide +kernel
theorem dC_endsBefore_25 : decode cC_endsBefore 25 = .ok (.istore_n 3, 1) := by decide +kernel
theorem dC_endsBefore_26 : decode cC_endsBefore 26 = .ok (.aload_n 0, 1) := by decide +kernel
theorem dC_endsBefore_27 : decode cC_endsBefore 27 = .ok (.aload_n 1, 1) := by decide +kernel
theorem dC_endsBefore_28 : decode cC_endsBefore 28 = .ok (.iload_n 2, 1) := by decide +kernel
theorem dC_endsBefore_29 : decode cC_endsBefore 29 = .ok (.invokevirtual 13, 3) := by decide +kernel
theorem dC_endsBefore_32 : decode cC_endsBefore 32 = .ok (.invokevirtual 17, 3) := by decide +kernel
theorem dC_endsBefore_35 : decode cC_endsBefore 35 = .ok (.istore 4, 2) := by decide +kernel
theorem dC_endsBefore_37 : decode cC_endsBefore 37 = .ok (.iload_n 3, 1) := by decide +kernel
theorem dC_endsBefore_38 : decode cC_endsBefore 38 = .ok (.iconst 1, 1) := by decide +kernel
theorem dC_endsBefore_39 : decode cC_endsBefore 39 = .ok (.if_icmp .ne 11, 3) := by decide +kernel
theorem dC_endsBefore_42 : decode cC_endsBefore 42 = .ok (.iload 4, 2) := by decide +kernel
theorem dC_endsBefore_44 : decode cC_endsBefore 44 = .ok (.iconst 2, 1) := by decide +kernel
theorem dC_endsBefore_45 : decode cC_endsBefore 45 = .ok (.if_icmp .ne 5, 3) := by decide +kernel
theorem dC_endsBefore_48 : decode cC_endsBefore 48 = .ok (.iconst 0, 1) := by decide +kernel
theorem dC_endsBefore_49 : decode cC_endsBefore 49 = .ok (.ireturn, 1) := by decide +kernel
theorem dC_endsBefore_50 : decode cC_endsBefore 50 = .ok (.iload_n 3, 1) := by decide +kernel
theorem dC_endsBefore_51 : decode cC_endsBefore 51 = .ok (.invokestatic 24, 3) := by decide +kernel
theorem dC_endsBefore_54 : decode cC_endsBefore 54 = .ok (.ifCond .ne 11, 3) := by decide +kernel
theorem dC_endsBefore_57 : decode cC_endsBefore 57 = .ok (.iload 4, 2) := by decide +kernel
theorem dC_endsBefore_59 : decode cC_endsBefore 59 = .ok (.invokestatic 24, 3) := by decide +kernel
theorem dC_endsBefore_62 : decode cC_endsBefore 62 = .ok (.ifCond .eq 5, 3) := by decide +kernel
theorem dC_endsBefore_65 : decode cC_endsBefore 65 = .ok (.iconst 1, 1) := by decide +kernel
theorem dC_endsBefore_66 : decode cC_endsBefore 66 = .ok (.ireturn, 1) := by decide +kernel
theorem dC_endsBefore_67 : decode cC_endsBefore 67 = .ok (.aload_n 1, 1) := by decide +kernel
theorem dC_endsBefore_68 : decode cC_endsBefore 68 = .ok (.iload_n 2, 1) := by decide +kernel
theorem dC_endsBefore_69 : decode cC_endsBefore 69 = .ok (.iconst 1, 1) := by decide +kernel
theorem dC_endsBefore_70 : decode cC_endsBefore 70 = .ok (.isub, 1) := by decide +kernel
theorem dC_endsBefore_71 : decode cC_endsBefore 71 = .ok (.invokevirtual 13, 3) := by decide +kernel
theorem dC_endsBefore_74 : decode cC_endsBefore 74 = .ok (.aload_n 1, 1) := by decide +kernel
theorem dC_endsBefore_75 : decode cC_endsBefore 75 = .ok (.iload_n 2, 1) := by decide +kernel
theorem dC_endsBefore_76 : decode cC_endsBefore 76 = .ok (.invokevirtual 13, 3) := by decide +kernel
theorem dC_endsBefore_79 : decode cC_endsBefore 79 = .ok (.invokestatic 28, 3) := by decide +kernel
theorem dC_endsBefore_82 : decode cC_endsBefore 82 = .ok (.ifCond .ne 34, 3) := by decide +kernel
theorem dC_endsBefore_85 : decode cC_endsBefore 85 = .ok (.iload_n 3, 1) := by decide +kernel
theorem dC_endsBefore_86 : decode cC_endsBefore 86 = .ok (.iload 4, 2) := by decide +kernel
theorem dC_endsBefore_88 : decode cC_endsBefore 88 = .ok (.invokestatic 32, 3) := by decide +kernel
theorem dC_endsBefore_91 : decode cC_endsBefore 91 = .ok (.ifCond .ne 25, 3) := by decide +kernel
theorem dC_endsBefore_94 : decode cC_endsBefore 94 = .ok (.aload_n 0, 1) := by decide +kernel
theorem dC_endsBefore_95 : decode cC_endsBefore 95 = .ok (.aload_n 1, 1) := by decide +kernel
theorem dC_endsBefore_96 : decode cC_endsBefore 96 = .ok (.iload_n 2, 1) := by decide +kernel
theorem dC_endsBefore_97 : decode cC_endsBefore 97 = .ok (.invokestatic 35, 3) := by decide +kernel
theorem dC_endsBefore_100 : decode cC_endsBefore 100 = .ok (.ifCond .ne 16, 3) := by decide +kernel
theorem dC_endsBefore_103 : decode cC_endsBefore 103 = .ok (.aload_n 0, 1) := by decide +kernel
theorem dC_endsBefore_104 : decode cC_endsBefore 104 = .ok (.aload_n 1, 1) := by decide +kernel
theorem dC_endsBefore_105 : decode cC_endsBefore 105 = .ok (.iload_n 2, 1) := by decide +kernel
theorem dC_endsBefore_106 : decode cC_endsBefore 106 = .ok (.invokestatic 39, 3) := by decide +kernel
theorem dC_endsBefore_109 : decode cC_endsBefore 109 = .ok (.ifCond .ne 7, 3) := by decide +kernel
theorem dC_endsBefore_112 : decode cC_endsBefore 112 = .ok (.iconst 1, 1) := by decide +kernel
theorem dC_endsBefore_113 : decode cC_endsBefore 113 = .ok (.goto 4, 3) := by decide +kernel
theorem dC_endsBefore_116 : decode cC_endsBefore 116 = .ok (.iconst 0, 1) := by decide +kernel
theorem dC_endsBefore_117 : decode cC_endsBefore 117 = .ok (.ireturn, 1) := by decide +kernel
theorem dC_standsAlone_0 : decode cC_standsAlone 0 = .ok (.iload_n 0, 1) := by decide +kernel
theorem dC_standsAlone_1 : decode cC_standsAlone 1 = .ok (.iconst 1, 1) := by decide +kernel
theorem dC_standsAlone_2 : decode cC_standsAlone 2 = .ok (.if_icmp .eq 13, 3) := by decide +kernel
theorem dC_standsAlone_5 : decode cC_standsAlone 5 = .ok (.iload_n 0, 1) := by decide +kernel
theorem dC_standsAlone_6 : decode cC_standsAlone 6 = .ok (.iconst 2, 1) := by decide +kernel
theorem dC_standsAlone_7 : decode cC_standsAlone 7 = .ok (.if_icmp .eq 8, 3) := by decide +kernel
theorem dC_standsAlone_10 : decode cC_standsAlone 10 = .ok (.iload_n 0, 1) := by decide +kernel
theorem dC_standsAlone_11 : decode cC_standsAlone 11 = .ok (.iconst 3, 1) := by decide +kernel
theorem dC_standsAlone_12 : decode cC_standsAlone 12 = .ok (.if_icmp .ne 7, 3) := by decide +kernel
theorem dC_standsAlone_15 : decode cC_standsAlone 15 = .ok (.iconst 1, 1) := by decide +kernel
theorem dC_standsAlone_16 : decode cC_standsAlone 16 = .ok (.goto 4, 3) := by decide +kernel
theorem dC_standsAlone_19 : decode cC_standsAlone 19 = .ok (.iconst 0, 1) := by decide +kernel
theorem dC_standsAlone_20 : decode cC_standsAlone 20 = .ok (.ireturn, 1) := by decide +kernel
theorem dC_staysInSyllable_0 : decode cC_staysInSyllable 0 = .ok (.iload_n 0, 1) := by decide +kernel
theorem dC_staysInSyllable_1 : decode cC_staysInSyllable 1 = .ok (.invokestatic 42, 3) := by decide +kernel
theorem dC_staysInSyllable_4 : decode cC_staysInSyllable 4 = .ok (.ifCond .eq 30, 3) := by decide +kernel
theorem dC_staysInSyllable_7 : decode cC_staysInSyllable 7 = .ok (.iload_n 1, 1) := by decide +kernel
theorem dC_staysInSyllable_8 : decode cC_staysInSyllable 8 = .ok (.invokestatic 42, 3) := by decide +kernel
theorem dC_staysInSyllable_11 : decode cC_staysInSyllable 11 = .ok (.ifCond .ne 17, 3) := by decide +kernel
theorem dC_staysInSyllable_14 : decode cC_staysInSyllable 14 = .ok (.iload_n 1, 1) := by decide +kernel
theorem dC_staysInSyllable_15 : decode cC_staysInSyllable 15 = .ok (.invokestatic 45, 3) := by decide +kernel
theorem dC_staysInSyllable_18 : decode cC_staysInSyllable 18 = .ok (.ifCond .ne 10, 3) := by decide +kernel
theorem dC_staysInSyllable_21 : decode cC_staysInSyllable 21 = .ok (.iload_n 1, 1) := by decide +kernel
theorem dC_staysInSyllable_22 : decode cC_staysInSyllable 22 = .ok (.invokestatic 48, 3) := by decide +kernel
theorem dC_staysInSyllable_25 : decode cC_staysInSyllable 25 = .ok (.ifCond .eq 7, 3) := by decide +kernel
theorem dC_staysInSyllable_28 : decode cC_staysInSyllable 28 = .ok (.iconst 1, 1) := by decide +kernel
theorem dC_staysInSyllable_29 : decode cC_staysInSyllable 29 = .ok (.goto 4, 3) := by decide +kernel
theorem dC_staysInSyllable_32 : decode cC_staysInSyllable 32 = .ok (.iconst 0, 1) := by decide +kernel
theorem dC_staysInSyllable_33 : decode cC_staysInSyllable 33 = .ok (.ireturn, 1) := by decide +kernel
theorem dC_staysInSyllable_34 : decode cC_staysInSyllable 34 = .ok (.iload_n 0, 1) := by decide +kernel
theorem dC_staysInSyllable_35 : decode cC_staysInSyllable 35 = .ok (.invokestatic 45, 3) := by decide +kernel
theorem dC_staysInSyllable_38 : decode cC_staysInSyllable 38 = .ok (.ifCond .ne 17, 3) := by decide +kernel
theorem dC_staysInSyllable_41 : decode cC_staysInSyllable 41 = .ok (.iload_n 0, 1) := by decide +kernel
theorem dC_staysInSyllable_42 : decode cC_staysInSyllable 42 = .ok (.invokestatic 48, 3) := by decide +kernel
theorem dC_staysInSyllable_45 : decode cC_staysInSyllable 45 = .ok (.ifCond .eq 30, 3) := by decide +kernel
theorem dC_staysInSyllable_48 : decode cC_staysInSyllable 48 = .ok (.iload_n 0, 1) := by decide +kernel
theorem dC_staysInSyllable_49 : decode cC_staysInSyllable 49 = .ok (.invokestatic 51, 3) := by decide +kernel
theorem dC_staysInSyllable_52 : decode cC_staysInSyllable 52 = .ok (.ifCond .ne 23, 3) := by decide +kernel
theorem dC_staysInSyllable_55 : decode cC_staysInSyllable 55 = .ok (.iload_n 1, 1) := by decide +kernel
theorem dC_staysInSyllable_56 : decode cC_staysInSyllable 56 = .ok (.invokestatic 45, 3) := by decide +kernel
theorem dC_staysInSyllable_59 : decode cC_staysInSyllable 59 = .ok (.ifCond .ne 10, 3) := by decide +kernel
theorem dC_staysInSyllable_62 : decode cC_staysInSyllable 62 = .ok (.iload_n 1, 1) := by decide +kernel
theorem dC_staysInSyllable_63 : decode cC_staysInSyllable 63 = .ok (.invokestatic 54, 3) := by decide +kernel
theorem dC_staysInSyllable_66 : decode cC_staysInSyllable 66 = .ok (.ifCond .eq 7, 3) := by decide +kernel
theorem dC_staysInSyllable_69 : decode cC_staysInSyllable 69 = .ok (.iconst 1, 1) := by decide +kernel
theorem dC_staysInSyllable_70 : decode cC_staysInSyllable 70 = .ok (.goto 4, 3) := by decide +kernel
theorem dC_staysInSyllable_73 : decode cC_staysInSyllable 73 = .ok (.iconst 0, 1) := by decide +kernel
theorem dC_staysInSyllable_74 : decode cC_staysInSyllable 74 = .ok (.ireturn, 1) := by decide +kernel
theorem dC_staysInSyllable_75 : decode cC_staysInSyllable 75 = .ok (.iload_n 0, 1) := by decide +kernel
theorem dC_staysInSyllable_76 : decode cC_staysInSyllable 76 = .ok (.invokestatic 54, 3) := by decide +kernel
theorem dC_staysInSyllable_79 : decode cC_staysInSyllable 79 = .ok (.ifCond .ne 10, 3) := by decide +kernel
theorem dC_staysInSyllable_82 : decode cC_staysInSyllable 82 = .ok (.iload_n 0, 1) := by decide +kernel
theorem dC_staysInSyllable_83 : decode cC_staysInSyllable 83 = .ok (.invokestatic 51, 3) := by decide +kernel
theorem dC_staysInSyllable_86 : decode cC_staysInSyllable 86 = .ok (.ifCond .eq 14, 3) := by decide +kernel
theorem dC_staysInSyllable_89 : decode cC_staysInSyllable 89 = .ok (.iload_n 1, 1) := by decide +kernel
theorem dC_staysInSyllable_90 : decode cC_staysInSyllable 90 = .ok (.invokestatic 54, 3) := by decide +kernel
theorem dC_staysInSyllable_93 : decode cC_staysInSyllable 93 = .ok (.ifCond .eq 7, 3) := by decide +kernel
theorem dC_staysInSyllable_96 : decode cC_staysInSyllable 96 = .ok (.iconst 1, 1) := by decide +kernel
theorem dC_staysInSyllable_97 : decode cC_staysInSyllable 97 = .ok (.goto 4, 3) := by decide +kernel
theorem dC_staysInSyllable_100 : decode cC_staysInSyllable 100 = .ok (.iconst 0, 1) := by decide +kernel
theorem dC_staysInSyllable_101 : decode cC_staysInSyllable 101 = .ok (.ireturn, 1) := by decide +kernel
theorem dC_isAttached_0 : decode cC_isAttached 0 = .ok (.iload_n 1, 1) := by decide +kernel
theorem dC_isAttached_1 : decode cC_isAttached 1 = .ok (.iconst 4, 1) := by decide +kernel
theorem dC_isAttached_2 : decode cC_isAttached 2 = .ok (.if_icmp .eq 20, 3) := by decide +kernel
theorem dC_isAttached_5 : decode cC_isAttached 5 = .ok (.iload_n 1, 1) := by decide +kernel
theorem dC_isAttached_6 : decode cC_isAttached 6 = .ok (.iconst 5, 1) := by decide +kernel
theorem dC_isAttached_7 : decode cC_isAttached 7 = .ok (.if_icmp .eq 15, 3) := by decide +kernel
theorem dC_isAttached_10 : decode cC_isAttached 10 = .ok (.iload_n 1, 1) := by decide +kernel
theorem dC_isAttached_11 : decode cC_isAttached 11 = .ok (.bipush 8, 2) := by decide +kernel
theorem dC_isAttached_13 : decode cC_isAttached 13 = .ok (.if_icmp .eq 9, 3) := by decide +kernel
theorem dC_isAttached_16 : decode cC_isAttached 16 = .ok (.iload_n 0, 1) := by decide +kernel
theorem dC_isAttached_17 : decode cC_isAttached 17 = .ok (.bipush 7, 2) := by decide +kernel
theorem dC_isAttached_19 : decode cC_isAttached 19 = .ok (.if_icmp .ne 7, 3) := by decide +kernel
theorem dC_isAttached_22 : decode cC_isAttached 22 = .ok (.iconst 1, 1) := by decide +kernel
theorem dC_isAttached_23 : decode cC_isAttached 23 = .ok (.goto 4, 3) := by decide +kernel
theorem dC_isAttached_26 : decode cC_isAttached 26 = .ok (.iconst 0, 1) := by decide +kernel
theorem dC_isAttached_27 : decode cC_isAttached 27 = .ok (.ireturn, 1) := by decide +kernel
theorem dC_isJoinedPicture_0 : decode cC_isJoinedPicture 0 = .ok (.aload_n 0, 1) := by decide +kernel
theorem dC_isJoinedPicture_1 : decode cC_isJoinedPicture 1 = .ok (.aload_n 1, 1) := by decide +kernel
theorem dC_isJoinedPicture_2 : decode cC_isJoinedPicture 2 = .ok (.iload_n 2, 1) := by decide +kernel
theorem dC_isJoinedPicture_3 : decode cC_isJoinedPicture 3 = .ok (.invokevirtual 13, 3) := by decide +kernel
theorem dC_isJoinedPicture_6 : decode cC_isJoinedPicture 6 = .ok (.invokevirtual 17, 3) := by decide +kernel
theorem dC_isJoinedPicture_9 : decode cC_isJoinedPicture 9 = .ok (.bipush 9, 2) := by decide +kernel
theorem dC_isJoinedPicture_11 : decode cC_isJoinedPicture 11 = .ok (.if_icmp .ne 18, 3) := by decide +kernel
theorem dC_isJoinedPicture_14 : decode cC_isJoinedPicture 14 = .ok (.aload_n 0, 1) := by decide +kernel
theorem dC_isJoinedPicture_15 : decode cC_isJoinedPicture 15 = .ok (.aload_n 1, 1) := by decide +kernel
theorem dC_isJoinedPicture_16 : decode cC_isJoinedPicture 16 = .ok (.iload_n 2, 1) := by decide +kernel
theorem dC_isJoinedPicture_17 : decode cC_isJoinedPicture 17 = .ok (.iconst 1, 1) := by decide +kernel
theorem dC_isJoinedPicture_18 : decode cC_isJoinedPicture 18 = .ok (.isub, 1) := by decide +kernel
theorem dC_isJoinedPicture_19 : decode cC_isJoinedPicture 19 = .ok (.invokevirtual 13, 3) := by decide +kernel
theorem dC_isJoinedPicture_22 : decode cC_isJoinedPicture 22 = .ok (.invokevirtual 17, 3) := by decide +kernel
theorem dC_isJoinedPicture_25 : decode cC_isJoinedPicture 25 = .ok (.iconst 5, 1) := by decide +kernel
theorem dC_isJoinedPicture_26 : decode cC_isJoinedPicture 26 = .ok (.if_icmp .eq 5, 3) := by decide +kernel
theorem dC_isJoinedPicture_29 : decode cC_isJoinedPicture 29 = .ok (.iconst 0, 1) := by decide +kernel
theorem dC_isJoinedPicture_30 : decode cC_isJoinedPicture 30 = .ok (.ireturn, 1) := by decide +kernel
theorem dC_isJoinedPicture_31 : decode cC_isJoinedPicture 31 = .ok (.iload_n 2, 1) := by decide +kernel
theorem dC_isJoinedPicture_32 : decode cC_isJoinedPicture 32 = .ok (.iconst 2, 1) := by decide +kernel
theorem dC_isJoinedPicture_33 : decode cC_isJoinedPicture 33 = .ok (.isub, 1) := by decide +kernel
theorem dC_isJoinedPicture_34 : decode cC_isJoinedPicture 34 = .ok (.istore_n 3, 1) := by decide +kernel
theorem dC_isJoinedPicture_35 : decode cC_isJoinedPicture 35 = .ok (.iload_n 3, 1) := by decide +kernel
theorem dC_isJoinedPicture_36 : decode cC_isJoinedPicture 36 = .ok (.ifCond .lt 22, 3) := by decide +kernel
theorem dC_isJoinedPicture_39 : decode cC_isJoinedPicture 39 = .ok (.aload_n 0, 1) := by decide +kernel
theorem dC_isJoinedPicture_40 : decode cC_isJoinedPicture 40 = .ok (.aload_n 1, 1) := by decide +kernel
theorem dC_isJoinedPicture_41 : decode cC_isJoinedPicture 41 = .ok (.iload_n 3, 1) := by decide +kernel
theorem dC_isJoinedPicture_42 : decode cC_isJoinedPicture 42 = .ok (.invokevirtual 13, 3) := by decide +kernel
theorem dC_isJoinedPicture_45 : decode cC_isJoinedPicture 45 = .ok (.invokevirtual 17, 3) := by decide +kernel
theorem dC_isJoinedPicture_48 : decode cC_isJoinedPicture 48 = .ok (.iconst 4, 1) := by decide +kernel
theorem dC_isJoinedPicture_49 : decode cC_isJoinedPicture 49 = .ok (.if_icmp .ne 9, 3) := by decide +kernel
theorem dC_isJoinedPicture_52 : decode cC_isJoinedPicture 52 = .ok (.iinc 3 (-1), 3) := by decide +kernel
theorem dC_isJoinedPicture_55 : decode cC_isJoinedPicture 55 = .ok (.goto (-20), 3) := by decide +kernel
theorem dC_isJoinedPicture_58 : decode cC_isJoinedPicture 58 = .ok (.iload_n 3, 1) := by decide +kernel
theorem dC_isJoinedPicture_59 : decode cC_isJoinedPicture 59 = .ok (.ifCond .lt 21, 3) := by decide +kernel
theorem dC_isJoinedPicture_62 : decode cC_isJoinedPicture 62 = .ok (.aload_n 0, 1) := by decide +kernel
theorem dC_isJoinedPicture_63 : decode cC_isJoinedPicture 63 = .ok (.aload_n 1, 1) := by decide +kernel
theorem dC_isJoinedPicture_64 : decode cC_isJoinedPicture 64 = .ok (.iload_n 3, 1) := by decide +kernel
theorem dC_isJoinedPicture_65 : decode cC_isJoinedPicture 65 = .ok (.invokevirtual 13, 3) := by decide +kernel
theorem dC_isJoinedPicture_68 : decode cC_isJoinedPicture 68 = .ok (.invokevirtual 17, 3) := by decide +kernel
theorem dC_isJoinedPicture_71 : decode cC_isJoinedPicture 71 = .ok (.bipush 9, 2) := by decide +kernel
theorem dC_isJoinedPicture_73 : decode cC_isJoinedPicture 73 = .ok (.if_icmp .ne 7, 3) := by decide +kernel
theorem dC_isJoinedPicture_76 : decode cC_isJoinedPicture 76 = .ok (.iconst 1, 1) := by decide +kernel
theorem dC_isJoinedPicture_77 : decode cC_isJoinedPicture 77 = .ok (.goto 4, 3) := by decide +kernel
theorem dC_isJoinedPicture_80 : decode cC_isJoinedPicture 80 = .ok (.iconst 0, 1) := by decide +kernel
theorem dC_isJoinedPicture_81 : decode cC_isJoinedPicture 81 = .ok (.ireturn, 1) := by decide +kernel
theorem dC_isSecondRegion_0 : decode cC_isSecondRegion 0 = .ok (.aload_n 0, 1) := by decide +kernel
theorem dC_isSecondRegion_1 : decode cC_isSecondRegion 1 = .ok (.aload_n 1, 1) := by decide +kernel
theorem dC_isSecondRegion_2 : decode cC_isSecondRegion 2 = .ok (.iload_n 2, 1) := by decide +kernel
theorem dC_isSecondRegion_3 : decode cC_isSecondRegion 3 = .ok (.invokevirtual 13, 3) := by decide +kernel
theorem dC_isSecondRegion_6 : decode cC_isSecondRegion 6 = .ok (.invokevirtual 17, 3) := by decide +kernel
theorem dC_isSecondRegion_9 : decode cC_isSecondRegion 9 = .ok (.bipush 6, 2) := by decide +kernel
theorem dC_isSecondRegion_11 : decode cC_isSecondRegion 11 = .ok (.if_icmp .eq 5, 3) := by decide +kernel
theorem dC_isSecondRegion_14 : decode cC_isSecondRegion 14 = .ok (.iconst 0, 1) := by decide +kernel
theorem dC_isSecondRegion_15 : decode cC_isSecondRegion 15 = .ok (.ireturn, 1) := by decide +kernel
theorem dC_isSecondRegion_16 : decode cC_isSecondRegion 16 = .ok (.iload_n 2, 1) := by decide +kernel
theorem dC_isSecondRegion_17 : decode cC_isSecondRegion 17 = .ok (.iconst 1, 1) := by decide +kernel
theorem dC_isSecondRegion_18 : decode cC_isSecondRegion 18 = .ok (.isub, 1) := by decide +kernel
theorem dC_isSecondRegion_19 : decode cC_isSecondRegion 19 = .ok (.istore_n 3, 1) := by decide +kernel
theorem dC_isSecondRegion_20 : decode cC_isSecondRegion 20 = .ok (.iload_n 3, 1) := by decide +kernel
theorem dC_isSecondRegion_21 : decode cC_isSecondRegion 21 = .ok (.ifCond .lt 23, 3) := by decide +kernel
theorem dC_isSecondRegion_24 : decode cC_isSecondRegion 24 = .ok (.aload_n 0, 1) := by decide +kernel
theorem dC_isSecondRegion_25 : decode cC_isSecondRegion 25 = .ok (.aload_n 1, 1) := by decide +kernel
theorem dC_isSecondRegion_26 : decode cC_isSecondRegion 26 = .ok (.iload_n 3, 1) := by decide +kernel
theorem dC_isSecondRegion_27 : decode cC_isSecondRegion 27 = .ok (.invokevirtual 13, 3) := by decide +kernel
theorem dC_isSecondRegion_30 : decode cC_isSecondRegion 30 = .ok (.invokevirtual 17, 3) := by decide +kernel
theorem dC_isSecondRegion_33 : decode cC_isSecondRegion 33 = .ok (.bipush 6, 2) := by decide +kernel
theorem dC_isSecondRegion_35 : decode cC_isSecondRegion 35 = .ok (.if_icmp .ne 9, 3) := by decide +kernel
theorem dC_isSecondRegion_38 : decode cC_isSecondRegion 38 = .ok (.iinc 3 (-1), 3) := by decide +kernel
theorem dC_isSecondRegion_41 : decode cC_isSecondRegion 41 = .ok (.goto (-21), 3) := by decide +kernel
theorem dC_isSecondRegion_44 : decode cC_isSecondRegion 44 = .ok (.iload_n 2, 1) := by decide +kernel
theorem dC_isSecondRegion_45 : decode cC_isSecondRegion 45 = .ok (.iconst 1, 1) := by decide +kernel
theorem dC_isSecondRegion_46 : decode cC_isSecondRegion 46 = .ok (.isub, 1) := by decide +kernel
theorem dC_isSecondRegion_47 : decode cC_isSecondRegion 47 = .ok (.iload_n 3, 1) := by decide +kernel
theorem dC_isSecondRegion_48 : decode cC_isSecondRegion 48 = .ok (.isub, 1) := by decide +kernel
theorem dC_isSecondRegion_49 : decode cC_isSecondRegion 49 = .ok (.iconst 2, 1) := by decide +kernel
theorem dC_isSecondRegion_50 : decode cC_isSecondRegion 50 = .ok (.irem, 1) := by decide +kernel
theorem dC_isSecondRegion_51 : decode cC_isSecondRegion 51 = .ok (.iconst 1, 1) := by decide +kernel
theorem dC_isSecondRegion_52 : decode cC_isSecondRegion 52 = .ok (.if_icmp .ne 7, 3) := by decide +kernel
theorem dC_isSecondRegion_55 : decode cC_isSecondRegion 55 = .ok (.iconst 1, 1) := by decide +kernel
theorem dC_isSecondRegion_56 : decode cC_isSecondRegion 56 = .ok (.goto 4, 3) := by decide +kernel
theorem dC_isSecondRegion_59 : decode cC_isSecondRegion 59 = .ok (.iconst 0, 1) := by decide +kernel
theorem dC_isSecondRegion_60 : decode cC_isSecondRegion 60 = .ok (.ireturn, 1) := by decide +kernel
theorem dF_fillParted_0 : decode cF_fillParted 0 = .ok (.aload_n 2, 1) := by decide +kernel
theorem dF_fillParted_1 : decode cF_fillParted 1 = .ok (.iconst 0, 1) := by decide +kernel
theorem dF_fillParted_2 : decode cF_fillParted 2 = .ok (.invokevirtual 11, 3) := by decide +kernel
theorem dF_fillParted_5 : decode cF_fillParted 5 = .ok (.iconst 0, 1) := by decide +kernel
theorem dF_fillParted_6 : decode cF_fillParted 6 = .ok (.istore_n 3, 1) := by decide +kernel
theorem dF_fillParted_7 : decode cF_fillParted 7 = .ok (.iload_n 3, 1) := by decide +kernel
theorem dF_fillParted_8 : decode cF_fillParted 8 = .ok (.aload_n 1, 1) := by decide +kernel
theorem dF_fillParted_9 : decode cF_fillParted 9 = .ok (.invokevirtual 17, 3) := by decide +kernel
theorem dF_fillParted_12 : decode cF_fillParted 12 = .ok (.if_icmp .ge 49, 3) := by decide +kernel
theorem dF_fillParted_15 : decode cF_fillParted 15 = .ok (.aload_n 1, 1) := by decide +kernel
theorem dF_fillParted_16 : decode cF_fillParted 16 = .ok (.iload_n 3, 1) := by decide +kernel
theorem dF_fillParted_17 : decode cF_fillParted 17 = .ok (.invokevirtual 21, 3) := by decide +kernel
theorem dF_fillParted_20 : decode cF_fillParted 20 = .ok (.istore 4, 2) := by decide +kernel
theorem dF_fillParted_22 : decode cF_fillParted 22 = .ok (.iconst 0, 1) := by decide +kernel
theorem dF_fillParted_23 : decode cF_fillParted 23 = .ok (.istore 5, 2) := by decide +kernel
theorem dF_fillParted_25 : decode cF_fillParted 25 = .ok (.iload 5, 2) := by decide +kernel
theorem dF_fillParted_27 : decode cF_fillParted 27 = .ok (.aload_n 0, 1) := by decide +kernel
theorem dF_fillParted_28 : decode cF_fillParted 28 = .ok (.iload 4, 2) := by decide +kernel
theorem dF_fillParted_30 : decode cF_fillParted 30 = .ok (.invokevirtual 25, 3) := by decide +kernel
theorem dF_fillParted_33 : decode cF_fillParted 33 = .ok (.if_icmp .ge 22, 3) := by decide +kernel
theorem dF_fillParted_36 : decode cF_fillParted 36 = .ok (.aload_n 0, 1) := by decide +kernel
theorem dF_fillParted_37 : decode cF_fillParted 37 = .ok (.aload_n 2, 1) := by decide +kernel
theorem dF_fillParted_38 : decode cF_fillParted 38 = .ok (.aload_n 0, 1) := by decide +kernel
theorem dF_fillParted_39 : decode cF_fillParted 39 = .ok (.iload 4, 2) := by decide +kernel
theorem dF_fillParted_41 : decode cF_fillParted 41 = .ok (.iload 5, 2) := by decide +kernel
theorem dF_fillParted_43 : decode cF_fillParted 43 = .ok (.invokevirtual 28, 3) := by decide +kernel
theorem dF_fillParted_46 : decode cF_fillParted 46 = .ok (.invokestatic 32, 3) := by decide +kernel
theorem dF_fillParted_49 : decode cF_fillParted 49 = .ok (.iinc 5 1, 3) := by decide +kernel
theorem dF_fillParted_52 : decode cF_fillParted 52 = .ok (.goto (-27), 3) := by decide +kernel
theorem dF_fillParted_55 : decode cF_fillParted 55 = .ok (.iinc 3 1, 3) := by decide +kernel
theorem dF_fillParted_58 : decode cF_fillParted 58 = .ok (.goto (-51), 3) := by decide +kernel
theorem dF_fillParted_61 : decode cF_fillParted 61 = .ok (.return_, 1) := by decide +kernel
theorem dF_joinAll_0 : decode cF_joinAll 0 = .ok (.iconst 0, 1) := by decide +kernel
theorem dF_joinAll_1 : decode cF_joinAll 1 = .ok (.istore_n 2, 1) := by decide +kernel
theorem dF_joinAll_2 : decode cF_joinAll 2 = .ok (.iconst 0, 1) := by decide +kernel
theorem dF_joinAll_3 : decode cF_joinAll 3 = .ok (.istore_n 3, 1) := by decide +kernel
theorem dF_joinAll_4 : decode cF_joinAll 4 = .ok (.iload_n 3, 1) := by decide +kernel
theorem dF_joinAll_5 : decode cF_joinAll 5 = .ok (.aload_n 1, 1) := by decide +kernel
theorem dF_joinAll_6 : decode cF_joinAll 6 = .ok (.invokevirtual 17, 3) := by decide +kernel
theorem dF_joinAll_9 : decode cF_joinAll 9 = .ok (.if_icmp .ge 80, 3) := by decide +kernel
theorem dF_joinAll_12 : decode cF_joinAll 12 = .ok (.aload_n 1, 1) := by decide +kernel
theorem dF_joinAll_13 : decode cF_joinAll 13 = .ok (.iload_n 3, 1) := by decide +kernel
theorem dF_joinAll_14 : decode cF_joinAll 14 = .ok (.invokevirtual 21, 3) := by decide +kernel
theorem dF_joinAll_17 : decode cF_joinAll 17 = .ok (.istore 4, 2) := by decide +kernel
theorem dF_joinAll_19 : decode cF_joinAll 19 = .ok (.aload_n 0, 1) := by decide +kernel
theorem dF_joinAll_20 : decode cF_joinAll 20 = .ok (.aload_n 1, 1) := by decide +kernel
theorem dF_joinAll_21 : decode cF_joinAll 21 = .ok (.iload_n 2, 1) := by decide +kernel
theorem dF_joinAll_22 : decode cF_joinAll 22 = .ok (.aload_n 0, 1) := by decide +kernel
theorem dF_joinAll_23 : decode cF_joinAll 23 = .ok (.iload 4, 2) := by decide +kernel
theorem dF_joinAll_25 : decode cF_joinAll 25 = .ok (.invokevirtual 38, 3) := by decide +kernel
theorem dF_joinAll_28 : decode cF_joinAll 28 = .ok (.invokestatic 41, 3) := by decide +kernel
theorem dF_joinAll_31 : decode cF_joinAll 31 = .ok (.istore 5, 2) := by decide +kernel
theorem dF_joinAll_33 : decode cF_joinAll 33 = .ok (.iconst (-1), 1) := by decide +kernel
theorem dF_joinAll_34 : decode cF_joinAll 34 = .ok (.istore 6, 2) := by decide +kernel
theorem dF_joinAll_36 : decode cF_joinAll 36 = .ok (.iload 5, 2) := by decide +kernel
theorem dF_joinAll_38 : decode cF_joinAll 38 = .ok (.iconst (-1), 1) := by decide +kernel
theorem dF_joinAll_39 : decode cF_joinAll 39 = .ok (.if_icmp .eq 17, 3) := by decide +kernel
theorem dF_joinAll_42 : decode cF_joinAll 42 = .ok (.aload_n 0, 1) := by decide +kernel
theorem dF_joinAll_43 : decode cF_joinAll 43 = .ok (.aload_n 1, 1) := by decide +kernel
theorem dF_joinAll_44 : decode cF_joinAll 44 = .ok (.iload 5, 2) := by decide +kernel
theorem dF_joinAll_46 : decode cF_joinAll 46 = .ok (.invokevirtual 21, 3) := by decide +kernel
theorem dF_joinAll_49 : decode cF_joinAll 49 = .ok (.iload 4, 2) := by decide +kernel
theorem dF_joinAll_51 : decode cF_joinAll 51 = .ok (.invokevirtual 45, 3) := by decide +kernel
theorem dF_joinAll_54 : decode cF_joinAll 54 = .ok (.istore 6, 2) := by decide +kernel
theorem dF_joinAll_56 : decode cF_joinAll 56 = .ok (.iload 6, 2) := by decide +kernel
theorem dF_joinAll_58 : decode cF_joinAll 58 = .ok (.iconst (-1), 1) := by decide +kernel
theorem dF_joinAll_59 : decode cF_joinAll 59 = .ok (.if_icmp .ne 16, 3) := by decide +kernel
theorem dF_joinAll_62 : decode cF_joinAll 62 = .ok (.aload_n 1, 1) := by decide +kernel
theorem dF_joinAll_63 : decode cF_joinAll 63 = .ok (.iload_n 2, 1) := by decide +kernel
theorem dF_joinAll_64 : decode cF_joinAll 64 = .ok (.iload 4, 2) := by decide +kernel
theorem dF_joinAll_66 : decode cF_joinAll 66 = .ok (.invokevirtual 48, 3) := by decide +kernel
theorem dF_joinAll_69 : decode cF_joinAll 69 = .ok (.iinc 2 1, 3) := by decide +kernel
theorem dF_joinAll_72 : decode cF_joinAll 72 = .ok (.goto 11, 3) := by decide +kernel
theorem dF_joinAll_75 : decode cF_joinAll 75 = .ok (.aload_n 1, 1) := by decide +kernel
theorem dF_joinAll_76 : decode cF_joinAll 76 = .ok (.iload 5, 2) := by decide +kernel
theorem dF_joinAll_78 : decode cF_joinAll 78 = .ok (.iload 6, 2) := by decide +kernel
theorem dF_joinAll_80 : decode cF_joinAll 80 = .ok (.invokevirtual 48, 3) := by decide +kernel
theorem dF_joinAll_83 : decode cF_joinAll 83 = .ok (.iinc 3 1, 3) := by decide +kernel
theorem dF_joinAll_86 : decode cF_joinAll 86 = .ok (.goto (-82), 3) := by decide +kernel
theorem dF_joinAll_89 : decode cF_joinAll 89 = .ok (.aload_n 1, 1) := by decide +kernel
theorem dF_joinAll_90 : decode cF_joinAll 90 = .ok (.iload_n 2, 1) := by decide +kernel
theorem dF_joinAll_91 : decode cF_joinAll 91 = .ok (.invokevirtual 11, 3) := by decide +kernel
theorem dF_joinAll_94 : decode cF_joinAll 94 = .ok (.return_, 1) := by decide +kernel
theorem dF_insertByRank_0 : decode cF_insertByRank 0 = .ok (.aload_n 0, 1) := by decide +kernel
theorem dF_insertByRank_1 : decode cF_insertByRank 1 = .ok (.iload_n 2, 1) := by decide +kernel
theorem dF_insertByRank_2 : decode cF_insertByRank 2 = .ok (.invokevirtual 38, 3) := by decide +kernel
theorem dF_insertByRank_5 : decode cF_insertByRank 5 = .ok (.istore_n 3, 1) := by decide +kernel
theorem dF_insertByRank_6 : decode cF_insertByRank 6 = .ok (.aload_n 1, 1) := by decide +kernel
theorem dF_insertByRank_7 : decode cF_insertByRank 7 = .ok (.invokevirtual 17, 3) := by decide +kernel
theorem dF_insertByRank_10 : decode cF_insertByRank 10 = .ok (.istore 4, 2) := by decide +kernel
theorem dF_insertByRank_12 : decode cF_insertByRank 12 = .ok (.iload_n 3, 1) := by decide +kernel
theorem dF_insertByRank_13 : decode cF_insertByRank 13 = .ok (.ifCond .eq 30, 3) := by decide +kernel
theorem dF_insertByRank_16 : decode cF_insertByRank 16 = .ok (.iload 4, 2) := by decide +kernel
theorem dF_insertByRank_18 : decode cF_insertByRank 18 = .ok (.ifCond .le 25, 3) := by decide +kernel
theorem dF_insertByRank_21 : decode cF_insertByRank 21 = .ok (.aload_n 0, 1) := by decide +kernel
theorem dF_insertByRank_22 : decode cF_insertByRank 22 = .ok (.aload_n 1, 1) := by decide +kernel
theorem dF_insertByRank_23 : decode cF_insertByRank 23 = .ok (.iload 4, 2) := by decide +kernel
theorem dF_insertByRank_25 : decode cF_insertByRank 25 = .ok (.iconst 1, 1) := by decide +kernel
theorem dF_insertByRank_26 : decode cF_insertByRank 26 = .ok (.isub, 1) := by decide +kernel
theorem dF_insertByRank_27 : decode cF_insertByRank 27 = .ok (.invokevirtual 21, 3) := by decide +kernel
theorem dF_insertByRank_30 : decode cF_insertByRank 30 = .ok (.invokevirtual 38, 3) := by decide +kernel
theorem dF_insertByRank_33 : decode cF_insertByRank 33 = .ok (.iload_n 3, 1) := by decide +kernel
theorem dF_insertByRank_34 : decode cF_insertByRank 34 = .ok (.if_icmp .le 9, 3) := by decide +kernel
theorem dF_insertByRank_37 : decode cF_insertByRank 37 = .ok (.iinc 4 (-1), 3) := by decide +kernel
theorem dF_insertByRank_40 : decode cF_insertByRank 40 = .ok (.goto (-28), 3) := by decide +kernel
theorem dF_insertByRank_43 : decode cF_insertByRank 43 = .ok (.aload_n 1, 1) := by decide +kernel
theorem dF_insertByRank_44 : decode cF_insertByRank 44 = .ok (.iload 4, 2) := by decide +kernel
theorem dF_insertByRank_46 : decode cF_insertByRank 46 = .ok (.iload_n 2, 1) := by decide +kernel
theorem dF_insertByRank_47 : decode cF_insertByRank 47 = .ok (.invokevirtual 52, 3) := by decide +kernel
theorem dF_insertByRank_50 : decode cF_insertByRank 50 = .ok (.return_, 1) := by decide +kernel
theorem dF_openStarter_0 : decode cF_openStarter 0 = .ok (.iload_n 2, 1) := by decide +kernel
theorem dF_openStarter_1 : decode cF_openStarter 1 = .ok (.iconst 1, 1) := by decide +kernel
theorem dF_openStarter_2 : decode cF_openStarter 2 = .ok (.isub, 1) := by decide +kernel
theorem dF_openStarter_3 : decode cF_openStarter 3 = .ok (.istore 4, 2) := by decide +kernel
theorem dF_openStarter_5 : decode cF_openStarter 5 = .ok (.iload 4, 2) := by decide +kernel
theorem dF_openStarter_7 : decode cF_openStarter 7 = .ok (.ifCond .lt 37, 3) := by decide +kernel
theorem dF_openStarter_10 : decode cF_openStarter 10 = .ok (.aload_n 0, 1) := by decide +kernel
theorem dF_openStarter_11 : decode cF_openStarter 11 = .ok (.aload_n 1, 1) := by decide +kernel
theorem dF_openStarter_12 : decode cF_openStarter 12 = .ok (.iload 4, 2) := by decide +kernel
theorem dF_openStarter_14 : decode cF_openStarter 14 = .ok (.invokevirtual 21, 3) := by decide +kernel
theorem dF_openStarter_17 : decode cF_openStarter 17 = .ok (.invokevirtual 38, 3) := by decide +kernel
theorem dF_openStarter_20 : decode cF_openStarter 20 = .ok (.istore 5, 2) := by decide +kernel
theorem dF_openStarter_22 : decode cF_openStarter 22 = .ok (.iload 5, 2) := by decide +kernel
theorem dF_openStarter_24 : decode cF_openStarter 24 = .ok (.ifCond .ne 6, 3) := by decide +kernel
theorem dF_openStarter_27 : decode cF_openStarter 27 = .ok (.iload 4, 2) := by decide +kernel
theorem dF_openStarter_29 : decode cF_openStarter 29 = .ok (.ireturn, 1) := by decide +kernel
theorem dF_openStarter_30 : decode cF_openStarter 30 = .ok (.iload 5, 2) := by decide +kernel
theorem dF_openStarter_32 : decode cF_openStarter 32 = .ok (.iload_n 3, 1) := by decide +kernel
theorem dF_openStarter_33 : decode cF_openStarter 33 = .ok (.if_icmp .lt 5, 3) := by decide +kernel
theorem dF_openStarter_36 : decode cF_openStarter 36 = .ok (.iconst (-1), 1) := by decide +kernel
theorem dF_openStarter_37 : decode cF_openStarter 37 = .ok (.ireturn, 1) := by decide +kernel
theorem dF_openStarter_38 : decode cF_openStarter 38 = .ok (.iinc 4 (-1), 3) := by decide +kernel
theorem dF_openStarter_41 : decode cF_openStarter 41 = .ok (.goto (-36), 3) := by decide +kernel
theorem dF_openStarter_44 : decode cF_openStarter 44 = .ok (.iconst (-1), 1) := by decide +kernel
theorem dF_openStarter_45 : decode cF_openStarter 45 = .ok (.ireturn, 1) := by decide +kernel
theorem dK_fill_0 : decode cK_fill 0 = .ok (.aload_n 2, 1) := by decide +kernel
theorem dK_fill_1 : decode cK_fill 1 = .ok (.iconst 0, 1) := by decide +kernel
theorem dK_fill_2 : decode cK_fill 2 = .ok (.invokevirtual 11, 3) := by decide +kernel
theorem dK_fill_5 : decode cK_fill 5 = .ok (.iconst 0, 1) := by decide +kernel
theorem dK_fill_6 : decode cK_fill 6 = .ok (.istore_n 3, 1) := by decide +kernel
theorem dK_fill_7 : decode cK_fill 7 = .ok (.iload_n 3, 1) := by decide +kernel
theorem dK_fill_8 : decode cK_fill 8 = .ok (.iconst 3, 1) := by decide +kernel
theorem dK_fill_9 : decode cK_fill 9 = .ok (.if_icmp .ge 60, 3) := by decide +kernel
theorem dK_fill_12 : decode cK_fill 12 = .ok (.iload_n 3, 1) := by decide +kernel
theorem dK_fill_13 : decode cK_fill 13 = .ok (.ifCond .le 8, 3) := by decide +kernel
theorem dK_fill_16 : decode cK_fill 16 = .ok (.aload_n 2, 1) := by decide +kernel
theorem dK_fill_17 : decode cK_fill 17 = .ok (.iconst 0, 1) := by decide +kernel
theorem dK_fill_18 : decode cK_fill 18 = .ok (.invokevirtual 17, 3) := by decide +kernel
theorem dK_fill_21 : decode cK_fill 21 = .ok (.iconst 0, 1) := by decide +kernel
theorem dK_fill_22 : decode cK_fill 22 = .ok (.istore 4, 2) := by decide +kernel
theorem dK_fill_24 : decode cK_fill 24 = .ok (.iload 4, 2) := by decide +kernel
theorem dK_fill_26 : decode cK_fill 26 = .ok (.aload_n 1, 1) := by decide +kernel
theorem dK_fill_27 : decode cK_fill 27 = .ok (.invokevirtual 20, 3) := by decide +kernel
theorem dK_fill_30 : decode cK_fill 30 = .ok (.if_icmp .ge 33, 3) := by decide +kernel
theorem dK_fill_33 : decode cK_fill 33 = .ok (.aload_n 0, 1) := by decide +kernel
theorem dK_fill_34 : decode cK_fill 34 = .ok (.aload_n 1, 1) := by decide +kernel
theorem dK_fill_35 : decode cK_fill 35 = .ok (.iload 4, 2) := by decide +kernel
theorem dK_fill_37 : decode cK_fill 37 = .ok (.invokevirtual 24, 3) := by decide +kernel
theorem dK_fill_40 : decode cK_fill 40 = .ok (.iload_n 3, 1) := by decide +kernel
theorem dK_fill_41 : decode cK_fill 41 = .ok (.invokevirtual 28, 3) := by decide +kernel
theorem dK_fill_44 : decode cK_fill 44 = .ok (.istore 5, 2) := by decide +kernel
theorem dK_fill_46 : decode cK_fill 46 = .ok (.iload 5, 2) := by decide +kernel
theorem dK_fill_48 : decode cK_fill 48 = .ok (.ifCond .eq 9, 3) := by decide +kernel
theorem dK_fill_51 : decode cK_fill 51 = .ok (.aload_n 2, 1) := by decide +kernel
theorem dK_fill_52 : decode cK_fill 52 = .ok (.iload 5, 2) := by decide +kernel
theorem dK_fill_54 : decode cK_fill 54 = .ok (.invokevirtual 17, 3) := by decide +kernel
theorem dK_fill_57 : decode cK_fill 57 = .ok (.iinc 4 1, 3) := by decide +kernel
theorem dK_fill_60 : decode cK_fill 60 = .ok (.goto (-36), 3) := by decide +kernel
theorem dK_fill_63 : decode cK_fill 63 = .ok (.iinc 3 1, 3) := by decide +kernel
theorem dK_fill_66 : decode cK_fill 66 = .ok (.goto (-59), 3) := by decide +kernel
theorem dK_fill_69 : decode cK_fill 69 = .ok (.return_, 1) := by decide +kernel
end
section
theorem dP_init_0 : decode cP_init 0 = .ok (.aload_n 0, 1) := by decide +kernel
theorem dP_init_1 : decode cP_init 1 = .ok (.invokespecial 1, 3) := by decide +kernel
theorem dP_init_4 : decode cP_init 4 = .ok (.aload_n 0, 1) := by decide +kernel
theorem dP_init_5 : decode cP_init 5 = .ok (.new 7, 3) := by decide +kernel
theorem dP_init_8 : decode cP_init 8 = .ok (.dup, 1) := by decide +kernel
theorem dP_init_9 : decode cP_init 9 = .ok (.invokespecial 9, 3) := by decide +kernel
theorem dP_init_12 : decode cP_init 12 = .ok (.putfield 10, 3) := by decide +kernel
theorem dP_init_15 : decode cP_init 15 = .ok (.aload_n 0, 1) := by decide +kernel
theorem dP_init_16 : decode cP_init 16 = .ok (.new 16, 3) := by decide +kernel
theorem dP_init_19 : decode cP_init 19 = .ok (.dup, 1) := by decide +kernel
theorem dP_init_20 : decode cP_init 20 = .ok (.bipush 40, 2) := by decide +kernel
theorem dP_init_22 : decode cP_init 22 = .ok (.invokespecial 18, 3) := by decide +kernel
theorem dP_init_25 : decode cP_init 25 = .ok (.putfield 21, 3) := by decide +kernel
theorem dP_init_28 : decode cP_init 28 = .ok (.aload_n 0, 1) := by decide +kernel
theorem dP_init_29 : decode cP_init 29 = .ok (.iconst 4, 1) := by decide +kernel
theorem dP_init_30 : decode cP_init 30 = .ok (.anewarray 16, 3) := by decide +kernel
theorem dP_init_33 : decode cP_init 33 = .ok (.putfield 25, 3) := by decide +kernel
theorem dP_init_36 : decode cP_init 36 = .ok (.iconst 0, 1) := by decide +kernel
theorem dP_init_37 : decode cP_init 37 = .ok (.istore_n 1, 1) := by decide +kernel
theorem dP_init_38 : decode cP_init 38 = .ok (.iload_n 1, 1) := by decide +kernel
theorem dP_init_39 : decode cP_init 39 = .ok (.iconst 4, 1) := by decide +kernel
theorem dP_init_40 : decode cP_init 40 = .ok (.if_icmp .ge 24, 3) := by decide +kernel
theorem dP_init_43 : decode cP_init 43 = .ok (.aload_n 0, 1) := by decide +kernel
theorem dP_init_44 : decode cP_init 44 = .ok (.getfield 25, 3) := by decide +kernel
theorem dP_init_47 : decode cP_init 47 = .ok (.iload_n 1, 1) := by decide +kernel
theorem dP_init_48 : decode cP_init 48 = .ok (.new 16, 3) := by decide +kernel
theorem dP_init_51 : decode cP_init 51 = .ok (.dup, 1) := by decide +kernel
theorem dP_init_52 : decode cP_init 52 = .ok (.bipush 40, 2) := by decide +kernel
theorem dP_init_54 : decode cP_init 54 = .ok (.invokespecial 18, 3) := by decide +kernel
theorem dP_init_57 : decode cP_init 57 = .ok (.aastore, 1) := by decide +kernel
theorem dP_init_58 : decode cP_init 58 = .ok (.iinc 1 1, 3) := by decide +kernel
theorem dP_init_61 : decode cP_init 61 = .ok (.goto (-23), 3) := by decide +kernel
theorem dP_init_64 : decode cP_init 64 = .ok (.aload_n 0, 1) := by decide +kernel
theorem dP_init_65 : decode cP_init 65 = .ok (.new 16, 3) := by decide +kernel
theorem dP_init_68 : decode cP_init 68 = .ok (.dup, 1) := by decide +kernel
theorem dP_init_69 : decode cP_init 69 = .ok (.sipush 160, 3) := by decide +kernel
theorem dP_init_72 : decode cP_init 72 = .ok (.invokespecial 18, 3) := by decide +kernel
theorem dP_init_75 : decode cP_init 75 = .ok (.putfield 31, 3) := by decide +kernel
theorem dP_init_78 : decode cP_init 78 = .ok (.aload_n 0, 1) := by decide +kernel
theorem dP_init_79 : decode cP_init 79 = .ok (.new 16, 3) := by decide +kernel
theorem dP_init_82 : decode cP_init 82 = .ok (.dup, 1) := by decide +kernel
theorem dP_init_83 : decode cP_init 83 = .ok (.sipush 160, 3) := by decide +kernel
theorem dP_init_86 : decode cP_init 86 = .ok (.invokespecial 18, 3) := by decide +kernel
theorem dP_init_89 : decode cP_init 89 = .ok (.putfield 34, 3) := by decide +kernel
theorem dP_init_92 : decode cP_init 92 = .ok (.aload_n 0, 1) := by decide +kernel
theorem dP_init_93 : decode cP_init 93 = .ok (.new 16, 3) := by decide +kernel
theorem dP_init_96 : decode cP_init 96 = .ok (.dup, 1) := by decide +kernel
theorem dP_init_97 : decode cP_init 97 = .ok (.sipush 482, 3) := by decide +kernel
theorem dP_init_100 : decode cP_init 100 = .ok (.invokespecial 18, 3) := by decide +kernel
theorem dP_init_103 : decode cP_init 103 = .ok (.putfield 39, 3) := by decide +kernel
theorem dP_init_106 : decode cP_init 106 = .ok (.aload_n 0, 1) := by decide +kernel
theorem dP_init_107 : decode cP_init 107 = .ok (.new 16, 3) := by decide +kernel
theorem dP_init_110 : decode cP_init 110 = .ok (.dup, 1) := by decide +kernel
theorem dP_init_111 : decode cP_init 111 = .ok (.sipush 482, 3) := by decide +kernel
theorem dP_init_114 : decode cP_init 114 = .ok (.invokespecial 18, 3) := by decide +kernel
theorem dP_init_117 : decode cP_init 117 = .ok (.putfield 42, 3) := by decide +kernel
theorem dP_init_120 : decode cP_init 120 = .ok (.aload_n 0, 1) := by decide +kernel
theorem dP_init_121 : decode cP_init 121 = .ok (.new 45, 3) := by decide +kernel
theorem dP_init_124 : decode cP_init 124 = .ok (.dup, 1) := by decide +kernel
theorem dP_init_125 : decode cP_init 125 = .ok (.invokespecial 47, 3) := by decide +kernel
theorem dP_init_128 : decode cP_init 128 = .ok (.putfield 48, 3) := by decide +kernel
theorem dP_init_131 : decode cP_init 131 = .ok (.aload_n 0, 1) := by decide +kernel
theorem dP_init_132 : decode cP_init 132 = .ok (.new 52, 3) := by decide +kernel
theorem dP_init_135 : decode cP_init 135 = .ok (.dup, 1) := by decide +kernel
theorem dP_init_136 : decode cP_init 136 = .ok (.invokespecial 54, 3) := by decide +kernel
theorem dP_init_139 : decode cP_init 139 = .ok (.putfield 55, 3) := by decide +kernel
theorem dP_init_142 : decode cP_init 142 = .ok (.return_, 1) := by decide +kernel
theorem dP_set_0 : decode cP_set 0 = .ok (.iload_n 1, 1) := by decide +kernel
theorem dP_set_1 : decode cP_set 1 = .ok (.invokestatic 59, 3) := by decide +kernel
theorem dP_set_4 : decode cP_set 4 = .ok (.ifCond .eq 11, 3) := by decide +kernel
theorem dP_set_7 : decode cP_set 7 = .ok (.iload_n 2, 1) := by decide +kernel
theorem dP_set_8 : decode cP_set 8 = .ok (.iload_n 3, 1) := by decide +kernel
theorem dP_set_9 : decode cP_set 9 = .ok (.invokestatic 63, 3) := by decide +kernel
theorem dP_set_12 : decode cP_set 12 = .ok (.ifCond .ne 13, 3) := by decide +kernel
theorem dP_set_15 : decode cP_set 15 = .ok (.new 67, 3) := by decide +kernel
theorem dP_set_18 : decode cP_set 18 = .ok (.dup, 1) := by decide +kernel
theorem dP_set_19 : decode cP_set 19 = .ok (.ldc 69, 2) := by decide +kernel
theorem dP_set_21 : decode cP_set 21 = .ok (.invokespecial 71, 3) := by decide +kernel
theorem dP_set_24 : decode cP_set 24 = .ok (.athrow, 1) := by decide +kernel
theorem dP_set_25 : decode cP_set 25 = .ok (.aload_n 0, 1) := by decide +kernel
theorem dP_set_26 : decode cP_set 26 = .ok (.getfield 10, 3) := by decide +kernel
theorem dP_set_29 : decode cP_set 29 = .ok (.iload_n 1, 1) := by decide +kernel
theorem dP_set_30 : decode cP_set 30 = .ok (.iload_n 2, 1) := by decide +kernel
theorem dP_set_31 : decode cP_set 31 = .ok (.iload_n 3, 1) := by decide +kernel
theorem dP_set_32 : decode cP_set 32 = .ok (.invokevirtual 74, 3) := by decide +kernel
theorem dP_set_35 : decode cP_set 35 = .ok (.return_, 1) := by decide +kernel
theorem dP_part_0 : decode cP_part 0 = .ok (.iload_n 1, 1) := by decide +kernel
theorem dP_part_1 : decode cP_part 1 = .ok (.iload_n 2, 1) := by decide +kernel
theorem dP_part_2 : decode cP_part 2 = .ok (.iload_n 3, 1) := by decide +kernel
theorem dP_part_3 : decode cP_part 3 = .ok (.invokestatic 78, 3) := by decide +kernel
theorem dP_part_6 : decode cP_part 6 = .ok (.ifCond .ne 13, 3) := by decide +kernel
theorem dP_part_9 : decode cP_part 9 = .ok (.new 67, 3) := by decide +kernel
theorem dP_part_12 : decode cP_part 12 = .ok (.dup, 1) := by decide +kernel
theorem dP_part_13 : decode cP_part 13 = .ok (.ldc 82, 2) := by decide +kernel
theorem dP_part_15 : decode cP_part 15 = .ok (.invokespecial 71, 3) := by decide +kernel
theorem dP_part_18 : decode cP_part 18 = .ok (.athrow, 1) := by decide +kernel
theorem dP_part_19 : decode cP_part 19 = .ok (.aload_n 0, 1) := by decide +kernel
theorem dP_part_20 : decode cP_part 20 = .ok (.getfield 10, 3) := by decide +kernel
theorem dP_part_23 : decode cP_part 23 = .ok (.iload_n 1, 1) := by decide +kernel
theorem dP_part_24 : decode cP_part 24 = .ok (.iload_n 2, 1) := by decide +kernel
theorem dP_part_25 : decode cP_part 25 = .ok (.iload_n 3, 1) := by decide +kernel
theorem dP_part_26 : decode cP_part 26 = .ok (.invokevirtual 84, 3) := by decide +kernel
theorem dP_part_29 : decode cP_part 29 = .ok (.ifCond .ne 13, 3) := by decide +kernel
theorem dP_part_32 : decode cP_part 32 = .ok (.new 87, 3) := by decide +kernel
theorem dP_part_35 : decode cP_part 35 = .ok (.dup, 1) := by decide +kernel
theorem dP_part_36 : decode cP_part 36 = .ok (.ldc 89, 2) := by decide +kernel
theorem dP_part_38 : decode cP_part 38 = .ok (.invokespecial 91, 3) := by decide +kernel
theorem dP_part_41 : decode cP_part 41 = .ok (.athrow, 1) := by decide +kernel
theorem dP_part_42 : decode cP_part 42 = .ok (.aload_n 0, 1) := by decide +kernel
theorem dP_part_43 : decode cP_part 43 = .ok (.getfield 10, 3) := by decide +kernel
theorem dP_part_46 : decode cP_part 46 = .ok (.iload_n 1, 1) := by decide +kernel
theorem dP_part_47 : decode cP_part 47 = .ok (.iload_n 2, 1) := by decide +kernel
theorem dP_part_48 : decode cP_part 48 = .ok (.iload_n 3, 1) := by decide +kernel
theorem dP_part_49 : decode cP_part 49 = .ok (.iload 4, 2) := by decide +kernel
theorem dP_part_51 : decode cP_part 51 = .ok (.invokevirtual 92, 3) := by decide +kernel
theorem dP_part_54 : decode cP_part 54 = .ok (.return_, 1) := by decide +kernel
theorem dP_type_0 : decode cP_type 0 = .ok (.iload_n 1, 1) := by decide +kernel
theorem dP_type_1 : decode cP_type 1 = .ok (.ifCond .lt 9, 3) := by decide +kernel
theorem dP_type_4 : decode cP_type 4 = .ok (.iload_n 1, 1) := by decide +kernel
theorem dP_type_5 : decode cP_type 5 = .ok (.bipush 75, 2) := by decide +kernel
theorem dP_type_7 : decode cP_type 7 = .ok (.if_icmp .lt 13, 3) := by decide +kernel
theorem dP_type_10 : decode cP_type 10 = .ok (.new 67, 3) := by decide +kernel
theorem dP_type_13 : decode cP_type 13 = .ok (.dup, 1) := by decide +kernel
theorem dP_type_14 : decode cP_type 14 = .ok (.ldc 96, 2) := by decide +kernel
theorem dP_type_16 : decode cP_type 16 = .ok (.invokespecial 71, 3) := by decide +kernel
theorem dP_type_19 : decode cP_type 19 = .ok (.athrow, 1) := by decide +kernel
theorem dP_type_20 : decode cP_type 20 = .ok (.aload_n 0, 1) := by decide +kernel
theorem dP_type_21 : decode cP_type 21 = .ok (.getfield 21, 3) := by decide +kernel
theorem dP_type_24 : decode cP_type 24 = .ok (.invokevirtual 98, 3) := by decide +kernel
theorem dP_type_27 : decode cP_type 27 = .ok (.bipush 40, 2) := by decide +kernel
theorem dP_type_29 : decode cP_type 29 = .ok (.if_icmp .lt 13, 3) := by decide +kernel
theorem dP_type_32 : decode cP_type 32 = .ok (.new 87, 3) := by decide +kernel
theorem dP_type_35 : decode cP_type 35 = .ok (.dup, 1) := by decide +kernel
theorem dP_type_36 : decode cP_type 36 = .ok (.ldc 102, 2) := by decide +kernel
theorem dP_type_38 : decode cP_type 38 = .ok (.invokespecial 91, 3) := by decide +kernel
theorem dP_type_41 : decode cP_type 41 = .ok (.athrow, 1) := by decide +kernel
theorem dP_type_42 : decode cP_type 42 = .ok (.aload_n 0, 1) := by decide +kernel
theorem dP_type_43 : decode cP_type 43 = .ok (.getfield 21, 3) := by decide +kernel
theorem dP_type_46 : decode cP_type 46 = .ok (.iload_n 1, 1) := by decide +kernel
theorem dP_type_47 : decode cP_type 47 = .ok (.invokevirtual 104, 3) := by decide +kernel
theorem dP_type_50 : decode cP_type 50 = .ok (.aload_n 0, 1) := by decide +kernel
theorem dP_type_51 : decode cP_type 51 = .ok (.getfield 21, 3) := by decide +kernel
theorem dP_type_54 : decode cP_type 54 = .ok (.invokevirtual 98, 3) := by decide +kernel
theorem dP_type_57 : decode cP_type 57 = .ok (.ireturn, 1) := by decide +kernel
theorem dP_wipe_0 : decode cP_wipe 0 = .ok (.aload_n 0, 1) := by decide +kernel
theorem dP_wipe_1 : decode cP_wipe 1 = .ok (.getfield 21, 3) := by decide +kernel
theorem dP_wipe_4 : decode cP_wipe 4 = .ok (.iconst 0, 1) := by decide +kernel
theorem dP_wipe_5 : decode cP_wipe 5 = .ok (.invokevirtual 107, 3) := by decide +kernel
theorem dP_wipe_8 : decode cP_wipe 8 = .ok (.return_, 1) := by decide +kernel
theorem dP_bring_0 : decode cP_bring 0 = .ok (.aload_n 0, 1) := by decide +kernel
theorem dP_bring_1 : decode cP_bring 1 = .ok (.getfield 10, 3) := by decide +kernel
theorem dP_bring_4 : decode cP_bring 4 = .ok (.aload_n 0, 1) := by decide +kernel
theorem dP_bring_5 : decode cP_bring 5 = .ok (.getfield 21, 3) := by decide +kernel
theorem dP_bring_8 : decode cP_bring 8 = .ok (.aload_n 0, 1) := by decide +kernel
theorem dP_bring_9 : decode cP_bring 9 = .ok (.getfield 31, 3) := by decide +kernel
theorem dP_bring_12 : decode cP_bring 12 = .ok (.invokestatic 110, 3) := by decide +kernel
theorem dP_bring_15 : decode cP_bring 15 = .ok (.iload_n 1, 1) := by decide +kernel
theorem dP_bring_16 : decode cP_bring 16 = .ok (.ifCond .eq 14, 3) := by decide +kernel
theorem dP_bring_19 : decode cP_bring 19 = .ok (.aload_n 0, 1) := by decide +kernel
theorem dP_bring_20 : decode cP_bring 20 = .ok (.getfield 10, 3) := by decide +kernel
theorem dP_bring_23 : decode cP_bring 23 = .ok (.aload_n 0, 1) := by decide +kernel
theorem dP_bring_24 : decode cP_bring 24 = .ok (.getfield 31, 3) := by decide +kernel
theorem dP_bring_27 : decode cP_bring 27 = .ok (.invokestatic 114, 3) := by decide +kernel
theorem dP_bring_30 : decode cP_bring 30 = .ok (.aload_n 0, 1) := by decide +kernel
theorem dP_bring_31 : decode cP_bring 31 = .ok (.getfield 31, 3) := by decide +kernel
theorem dP_bring_34 : decode cP_bring 34 = .ok (.invokevirtual 98, 3) := by decide +kernel
theorem dP_bring_37 : decode cP_bring 37 = .ok (.bipush 40, 2) := by decide +kernel
theorem dP_bring_39 : decode cP_bring 39 = .ok (.if_icmp .le 13, 3) := by decide +kernel
theorem dP_bring_42 : decode cP_bring 42 = .ok (.new 87, 3) := by decide +kernel
theorem dP_bring_45 : decode cP_bring 45 = .ok (.dup, 1) := by decide +kernel
theorem dP_bring_46 : decode cP_bring 46 = .ok (.ldc 118, 2) := by decide +kernel
theorem dP_bring_48 : decode cP_bring 48 = .ok (.invokespecial 91, 3) := by decide +kernel
theorem dP_bring_51 : decode cP_bring 51 = .ok (.athrow, 1) := by decide +kernel
theorem dP_bring_52 : decode cP_bring 52 = .ok (.aload_n 0, 1) := by decide +kernel
theorem dP_bring_53 : decode cP_bring 53 = .ok (.getfield 21, 3) := by decide +kernel
theorem dP_bring_56 : decode cP_bring 56 = .ok (.aload_n 0, 1) := by decide +kernel
theorem dP_bring_57 : decode cP_bring 57 = .ok (.getfield 31, 3) := by decide +kernel
theorem dP_bring_60 : decode cP_bring 60 = .ok (.invokevirtual 120, 3) := by decide +kernel
theorem dP_bring_63 : decode cP_bring 63 = .ok (.aload_n 0, 1) := by decide +kernel
theorem dP_bring_64 : decode cP_bring 64 = .ok (.getfield 21, 3) := by decide +kernel
theorem dP_bring_67 : decode cP_bring 67 = .ok (.invokevirtual 98, 3) := by decide +kernel
theorem dP_bring_70 : decode cP_bring 70 = .ok (.ireturn, 1) := by decide +kernel
theorem dP_at_0 : decode cP_at 0 = .ok (.aload_n 0, 1) := by decide +kernel
theorem dP_at_1 : decode cP_at 1 = .ok (.iload_n 1, 1) := by decide +kernel
theorem dP_at_2 : decode cP_at 2 = .ok (.invokevirtual 124, 3) := by decide +kernel
theorem dP_at_5 : decode cP_at 5 = .ok (.aload_n 0, 1) := by decide +kernel
theorem dP_at_6 : decode cP_at 6 = .ok (.getfield 21, 3) := by decide +kernel
theorem dP_at_9 : decode cP_at 9 = .ok (.iload_n 1, 1) := by decide +kernel
theorem dP_at_10 : decode cP_at 10 = .ok (.invokevirtual 127, 3) := by decide +kernel
theorem dP_at_13 : decode cP_at 13 = .ok (.ireturn, 1) := by decide +kernel
theorem dP_cluster_0 : decode cP_cluster 0 = .ok (.aload_n 0, 1) := by decide +kernel
theorem dP_cluster_1 : decode cP_cluster 1 = .ok (.iload_n 1, 1) := by decide +kernel
theorem dP_cluster_2 : decode cP_cluster 2 = .ok (.invokevirtual 131, 3) := by decide +kernel
theorem dP_cluster_5 : decode cP_cluster 5 = .ok (.aload_n 0, 1) := by decide +kernel
theorem dP_cluster_6 : decode cP_cluster 6 = .ok (.getfield 10, 3) := by decide +kernel
theorem dP_cluster_9 : decode cP_cluster 9 = .ok (.aload_n 0, 1) := by decide +kernel
theorem dP_cluster_10 : decode cP_cluster 10 = .ok (.getfield 21, 3) := by decide +kernel
theorem dP_cluster_13 : decode cP_cluster 13 = .ok (.iload_n 1, 1) := by decide +kernel
theorem dP_cluster_14 : decode cP_cluster 14 = .ok (.invokestatic 134, 3) := by decide +kernel
theorem dP_cluster_17 : decode cP_cluster 17 = .ok (.ireturn, 1) := by decide +kernel
theorem dP_clusters_0 : decode cP_clusters 0 = .ok (.iconst 0, 1) := by decide +kernel
theorem dP_clusters_1 : decode cP_clusters 1 = .ok (.istore_n 1, 1) := by decide +kernel
theorem dP_clusters_2 : decode cP_clusters 2 = .ok (.iconst 1, 1) := by decide +kernel
theorem dP_clusters_3 : decode cP_clusters 3 = .ok (.istore_n 2, 1) := by decide +kernel
theorem dP_clusters_4 : decode cP_clusters 4 = .ok (.iload_n 2, 1) := by decide +kernel
theorem dP_clusters_5 : decode cP_clusters 5 = .ok (.aload_n 0, 1) := by decide +kernel
theorem dP_clusters_6 : decode cP_clusters 6 = .ok (.getfield 21, 3) := by decide +kernel
theorem dP_clusters_9 : decode cP_clusters 9 = .ok (.invokevirtual 98, 3) := by decide +kernel
theorem dP_clusters_12 : decode cP_clusters 12 = .ok (.if_icmp .gt 27, 3) := by decide +kernel
theorem dP_clusters_15 : decode cP_clusters 15 = .ok (.aload_n 0, 1) := by decide +kernel
theorem dP_clusters_16 : decode cP_clusters 16 = .ok (.getfield 10, 3) := by decide +kernel
theorem dP_clusters_19 : decode cP_clusters 19 = .ok (.aload_n 0, 1) := by decide +kernel
theorem dP_clusters_20 : decode cP_clusters 20 = .ok (.getfield 21, 3) := by decide +kernel
theorem dP_clusters_23 : decode cP_clusters 23 = .ok (.iload_n 2, 1) := by decide +kernel
theorem dP_clusters_24 : decode cP_clusters 24 = .ok (.invokestatic 134, 3) := by decide +kernel
theorem dP_clusters_27 : decode cP_clusters 27 = .ok (.ifCond .eq 6, 3) := by decide +kernel
theorem dP_clusters_30 : decode cP_clusters 30 = .ok (.iinc 1 1, 3) := by decide +kernel
theorem dP_clusters_33 : decode cP_clusters 33 = .ok (.iinc 2 1, 3) := by decide +kernel
theorem dP_clusters_36 : decode cP_clusters 36 = .ok (.goto (-32), 3) := by decide +kernel
theorem dP_clusters_39 : decode cP_clusters 39 = .ok (.iload_n 1, 1) := by decide +kernel
theorem dP_clusters_40 : decode cP_clusters 40 = .ok (.ireturn, 1) := by decide +kernel
theorem dP_line_0 : decode cP_line 0 = .ok (.aload_n 0, 1) := by decide +kernel
theorem dP_line_1 : decode cP_line 1 = .ok (.iload_n 1, 1) := by decide +kernel
theorem dP_line_2 : decode cP_line 2 = .ok (.invokevirtual 131, 3) := by decide +kernel
theorem dP_line_5 : decode cP_line 5 = .ok (.aload_n 0, 1) := by decide +kernel
theorem dP_line_6 : decode cP_line 6 = .ok (.getfield 48, 3) := by decide +kernel
theorem dP_line_9 : decode cP_line 9 = .ok (.aload_n 0, 1) := by decide +kernel
theorem dP_line_10 : decode cP_line 10 = .ok (.getfield 10, 3) := by decide +kernel
theorem dP_line_13 : decode cP_line 13 = .ok (.aload_n 0, 1) := by decide +kernel
theorem dP_line_14 : decode cP_line 14 = .ok (.getfield 21, 3) := by decide +kernel
theorem dP_line_17 : decode cP_line 17 = .ok (.iload_n 1, 1) := by decide +kernel
theorem dP_line_18 : decode cP_line 18 = .ok (.invokevirtual 140, 3) := by decide +kernel
theorem dP_line_21 : decode cP_line 21 = .ok (.ireturn, 1) := by decide +kernel
theorem dP_level_0 : decode cP_level 0 = .ok (.aload_n 0, 1) := by decide +kernel
theorem dP_level_1 : decode cP_level 1 = .ok (.iload_n 1, 1) := by decide +kernel
theorem dP_level_2 : decode cP_level 2 = .ok (.invokevirtual 124, 3) := by decide +kernel
theorem dP_level_5 : decode cP_level 5 = .ok (.aload_n 0, 1) := by decide +kernel
theorem dP_level_6 : decode cP_level 6 = .ok (.getfield 55, 3) := by decide +kernel
theorem dP_level_9 : decode cP_level 9 = .ok (.aload_n 0, 1) := by decide +kernel
theorem dP_level_10 : decode cP_level 10 = .ok (.getfield 10, 3) := by decide +kernel
theorem dP_level_13 : decode cP_level 13 = .ok (.aload_n 0, 1) := by decide +kernel
theorem dP_level_14 : decode cP_level 14 = .ok (.getfield 21, 3) := by decide +kernel
theorem dP_level_17 : decode cP_level 17 = .ok (.iload_n 2, 1) := by decide +kernel
theorem dP_level_18 : decode cP_level 18 = .ok (.invokevirtual 144, 3) := by decide +kernel
theorem dP_level_21 : decode cP_level 21 = .ok (.aload_n 0, 1) := by decide +kernel
theorem dP_level_22 : decode cP_level 22 = .ok (.getfield 55, 3) := by decide +kernel
theorem dP_level_25 : decode cP_level 25 = .ok (.iload_n 1, 1) := by decide +kernel
theorem dP_level_26 : decode cP_level 26 = .ok (.invokevirtual 148, 3) := by decide +kernel
theorem dP_level_29 : decode cP_level 29 = .ok (.ireturn, 1) := by decide +kernel
theorem dP_order_0 : decode cP_order 0 = .ok (.aload_n 0, 1) := by decide +kernel
theorem dP_order_1 : decode cP_order 1 = .ok (.iload_n 1, 1) := by decide +kernel
theorem dP_order_2 : decode cP_order 2 = .ok (.invokevirtual 124, 3) := by decide +kernel
theorem dP_order_5 : decode cP_order 5 = .ok (.aload_n 0, 1) := by decide +kernel
theorem dP_order_6 : decode cP_order 6 = .ok (.getfield 55, 3) := by decide +kernel
theorem dP_order_9 : decode cP_order 9 = .ok (.aload_n 0, 1) := by decide +kernel
theorem dP_order_10 : decode cP_order 10 = .ok (.getfield 10, 3) := by decide +kernel
theorem dP_order_13 : decode cP_order 13 = .ok (.aload_n 0, 1) := by decide +kernel
theorem dP_order_14 : decode cP_order 14 = .ok (.getfield 21, 3) := by decide +kernel
theorem dP_order_17 : decode cP_order 17 = .ok (.iload_n 2, 1) := by decide +kernel
theorem dP_order_18 : decode cP_order 18 = .ok (.invokevirtual 144, 3) := by decide +kernel
theorem dP_order_21 : decode cP_order 21 = .ok (.aload_n 0, 1) := by decide +kernel
theorem dP_order_22 : decode cP_order 22 = .ok (.getfield 55, 3) := by decide +kernel
theorem dP_order_25 : decode cP_order 25 = .ok (.aload_n 0, 1) := by decide +kernel
theorem dP_order_26 : decode cP_order 26 = .ok (.getfield 21, 3) := by decide +kernel
theorem dP_order_29 : decode cP_order 29 = .ok (.invokevirtual 98, 3) := by decide +kernel
theorem dP_order_32 : decode cP_order 32 = .ok (.invokevirtual 151, 3) := by decide +kernel
theorem dP_order_35 : decode cP_order 35 = .ok (.aload_n 0, 1) := by decide +kernel
theorem dP_order_36 : decode cP_order 36 = .ok (.getfield 55, 3) := by decide +kernel
theorem dP_order_39 : decode cP_order 39 = .ok (.iload_n 1, 1) := by decide +kernel
theorem dP_order_40 : decode cP_order 40 = .ok (.invokevirtual 154, 3) := by decide +kernel
theorem dP_order_43 : decode cP_order 43 = .ok (.ireturn, 1) := by decide +kernel
theorem dP_key_0 : decode cP_key 0 = .ok (.aload_n 0, 1) := by decide +kernel
theorem dP_key_1 : decode cP_key 1 = .ok (.invokevirtual 157, 3) := by decide +kernel
theorem dP_key_4 : decode cP_key 4 = .ok (.aload_n 0, 1) := by decide +kernel
theorem dP_key_5 : decode cP_key 5 = .ok (.getfield 39, 3) := by decide +kernel
theorem dP_key_8 : decode cP_key 8 = .ok (.invokevirtual 98, 3) := by decide +kernel
theorem dP_key_11 : decode cP_key 11 = .ok (.ireturn, 1) := by decide +kernel
theorem dP_keyAt_0 : decode cP_keyAt 0 = .ok (.aload_n 0, 1) := by decide +kernel
theorem dP_keyAt_1 : decode cP_keyAt 1 = .ok (.invokevirtual 157, 3) := by decide +kernel
theorem dP_keyAt_4 : decode cP_keyAt 4 = .ok (.iload_n 1, 1) := by decide +kernel
theorem dP_keyAt_5 : decode cP_keyAt 5 = .ok (.ifCond .lt 14, 3) := by decide +kernel
theorem dP_keyAt_8 : decode cP_keyAt 8 = .ok (.iload_n 1, 1) := by decide +kernel
theorem dP_keyAt_9 : decode cP_keyAt 9 = .ok (.aload_n 0, 1) := by decide +kernel
theorem dP_keyAt_10 : decode cP_keyAt 10 = .ok (.getfield 39, 3) := by decide +kernel
theorem dP_keyAt_13 : decode cP_keyAt 13 = .ok (.invokevirtual 98, 3) := by decide +kernel
theorem dP_keyAt_16 : decode cP_keyAt 16 = .ok (.if_icmp .lt 13, 3) := by decide +kernel
theorem dP_keyAt_19 : decode cP_keyAt 19 = .ok (.new 160, 3) := by decide +kernel
theorem dP_keyAt_22 : decode cP_keyAt 22 = .ok (.dup, 1) := by decide +kernel
theorem dP_keyAt_23 : decode cP_keyAt 23 = .ok (.ldc 162, 2) := by decide +kernel
theorem dP_keyAt_25 : decode cP_keyAt 25 = .ok (.invokespecial 164, 3) := by decide +kernel
theorem dP_keyAt_28 : decode cP_keyAt 28 = .ok (.athrow, 1) := by decide +kernel
theorem dP_keyAt_29 : decode cP_keyAt 29 = .ok (.aload_n 0, 1) := by decide +kernel
theorem dP_keyAt_30 : decode cP_keyAt 30 = .ok (.getfield 39, 3) := by decide +kernel
theorem dP_keyAt_33 : decode cP_keyAt 33 = .ok (.iload_n 1, 1) := by decide +kernel
theorem dP_keyAt_34 : decode cP_keyAt 34 = .ok (.invokevirtual 127, 3) := by decide +kernel
theorem dP_keyAt_37 : decode cP_keyAt 37 = .ok (.ireturn, 1) := by decide +kernel
theorem dP_keep_0 : decode cP_keep 0 = .ok (.iload_n 1, 1) := by decide +kernel
theorem dP_keep_1 : decode cP_keep 1 = .ok (.invokestatic 165, 3) := by decide +kernel
theorem dP_keep_4 : decode cP_keep 4 = .ok (.aload_n 0, 1) := by decide +kernel
theorem dP_keep_5 : decode cP_keep 5 = .ok (.getfield 25, 3) := by decide +kernel
theorem dP_keep_8 : decode cP_keep 8 = .ok (.iload_n 1, 1) := by decide +kernel
theorem dP_keep_9 : decode cP_keep 9 = .ok (.aaload, 1) := by decide +kernel
theorem dP_keep_10 : decode cP_keep 10 = .ok (.aload_n 0, 1) := by decide +kernel
theorem dP_keep_11 : decode cP_keep 11 = .ok (.getfield 21, 3) := by decide +kernel
theorem dP_keep_14 : decode cP_keep 14 = .ok (.invokevirtual 120, 3) := by decide +kernel
theorem dP_keep_17 : decode cP_keep 17 = .ok (.return_, 1) := by decide +kernel
theorem dP_compare_0 : decode cP_compare 0 = .ok (.iload_n 1, 1) := by decide +kernel
theorem dP_compare_1 : decode cP_compare 1 = .ok (.invokestatic 165, 3) := by decide +kernel
theorem dP_compare_4 : decode cP_compare 4 = .ok (.aload_n 0, 1) := by decide +kernel
theorem dP_compare_5 : decode cP_compare 5 = .ok (.invokevirtual 157, 3) := by decide +kernel
theorem dP_compare_8 : decode cP_compare 8 = .ok (.aload_n 0, 1) := by decide +kernel
theorem dP_compare_9 : decode cP_compare 9 = .ok (.getfield 10, 3) := by decide +kernel
theorem dP_compare_12 : decode cP_compare 12 = .ok (.aload_n 0, 1) := by decide +kernel
theorem dP_compare_13 : decode cP_compare 13 = .ok (.getfield 25, 3) := by decide +kernel
theorem dP_compare_16 : decode cP_compare 16 = .ok (.iload_n 1, 1) := by decide +kernel
theorem dP_compare_17 : decode cP_compare 17 = .ok (.aaload, 1) := by decide +kernel
theorem dP_compare_18 : decode cP_compare 18 = .ok (.aload_n 0, 1) := by decide +kernel
theorem dP_compare_19 : decode cP_compare 19 = .ok (.getfield 34, 3) := by decide +kernel
theorem dP_compare_22 : decode cP_compare 22 = .ok (.invokestatic 110, 3) := by decide +kernel
theorem dP_compare_25 : decode cP_compare 25 = .ok (.aload_n 0, 1) := by decide +kernel
theorem dP_compare_26 : decode cP_compare 26 = .ok (.getfield 10, 3) := by decide +kernel
theorem dP_compare_29 : decode cP_compare 29 = .ok (.aload_n 0, 1) := by decide +kernel
theorem dP_compare_30 : decode cP_compare 30 = .ok (.getfield 34, 3) := by decide +kernel
theorem dP_compare_33 : decode cP_compare 33 = .ok (.aload_n 0, 1) := by decide +kernel
theorem dP_compare_34 : decode cP_compare 34 = .ok (.getfield 42, 3) := by decide +kernel
theorem dP_compare_37 : decode cP_compare 37 = .ok (.invokestatic 168, 3) := by decide +kernel
theorem dP_compare_40 : decode cP_compare 40 = .ok (.aload_n 0, 1) := by decide +kernel
theorem dP_compare_41 : decode cP_compare 41 = .ok (.getfield 39, 3) := by decide +kernel
theorem dP_compare_44 : decode cP_compare 44 = .ok (.aload_n 0, 1) := by decide +kernel
theorem dP_compare_45 : decode cP_compare 45 = .ok (.getfield 42, 3) := by decide +kernel
theorem dP_compare_48 : decode cP_compare 48 = .ok (.invokevirtual 171, 3) := by decide +kernel
theorem dP_compare_51 : decode cP_compare 51 = .ok (.ireturn, 1) := by decide +kernel
theorem dP_same_0 : decode cP_same 0 = .ok (.iload_n 1, 1) := by decide +kernel
theorem dP_same_1 : decode cP_same 1 = .ok (.invokestatic 165, 3) := by decide +kernel
theorem dP_same_4 : decode cP_same 4 = .ok (.aload_n 0, 1) := by decide +kernel
theorem dP_same_5 : decode cP_same 5 = .ok (.getfield 10, 3) := by decide +kernel
theorem dP_same_8 : decode cP_same 8 = .ok (.aload_n 0, 1) := by decide +kernel
theorem dP_same_9 : decode cP_same 9 = .ok (.getfield 21, 3) := by decide +kernel
theorem dP_same_12 : decode cP_same 12 = .ok (.aload_n 0, 1) := by decide +kernel
theorem dP_same_13 : decode cP_same 13 = .ok (.getfield 31, 3) := by decide +kernel
theorem dP_same_16 : decode cP_same 16 = .ok (.invokestatic 110, 3) := by decide +kernel
theorem dP_same_19 : decode cP_same 19 = .ok (.aload_n 0, 1) := by decide +kernel
theorem dP_same_20 : decode cP_same 20 = .ok (.getfield 10, 3) := by decide +kernel
theorem dP_same_23 : decode cP_same 23 = .ok (.aload_n 0, 1) := by decide +kernel
theorem dP_same_24 : decode cP_same 24 = .ok (.getfield 25, 3) := by decide +kernel
theorem dP_same_27 : decode cP_same 27 = .ok (.iload_n 1, 1) := by decide +kernel
theorem dP_same_28 : decode cP_same 28 = .ok (.aaload, 1) := by decide +kernel
theorem dP_same_29 : decode cP_same 29 = .ok (.aload_n 0, 1) := by decide +kernel
theorem dP_same_30 : decode cP_same 30 = .ok (.getfield 34, 3) := by decide +kernel
theorem dP_same_33 : decode cP_same 33 = .ok (.invokestatic 110, 3) := by decide +kernel
theorem dP_same_36 : decode cP_same 36 = .ok (.aload_n 0, 1) := by decide +kernel
theorem dP_same_37 : decode cP_same 37 = .ok (.getfield 31, 3) := by decide +kernel
theorem dP_same_40 : decode cP_same 40 = .ok (.aload_n 0, 1) := by decide +kernel
theorem dP_same_41 : decode cP_same 41 = .ok (.getfield 34, 3) := by decide +kernel
theorem dP_same_44 : decode cP_same 44 = .ok (.invokevirtual 171, 3) := by decide +kernel
theorem dP_same_47 : decode cP_same 47 = .ok (.ifCond .ne 7, 3) := by decide +kernel
theorem dP_same_50 : decode cP_same 50 = .ok (.iconst 1, 1) := by decide +kernel
theorem dP_same_51 : decode cP_same 51 = .ok (.goto 4, 3) := by decide +kernel
theorem dP_same_54 : decode cP_same 54 = .ok (.iconst 0, 1) := by decide +kernel
theorem dP_same_55 : decode cP_same 55 = .ok (.ireturn, 1) := by decide +kernel
theorem dP_fillOwnKey_0 : decode cP_fillOwnKey 0 = .ok (.aload_n 0, 1) := by decide +kernel
theorem dP_fillOwnKey_1 : decode cP_fillOwnKey 1 = .ok (.getfield 10, 3) := by decide +kernel
theorem dP_fillOwnKey_4 : decode cP_fillOwnKey 4 = .ok (.aload_n 0, 1) := by decide +kernel
theorem dP_fillOwnKey_5 : decode cP_fillOwnKey 5 = .ok (.getfield 21, 3) := by decide +kernel
theorem dP_fillOwnKey_8 : decode cP_fillOwnKey 8 = .ok (.aload_n 0, 1) := by decide +kernel
theorem dP_fillOwnKey_9 : decode cP_fillOwnKey 9 = .ok (.getfield 31, 3) := by decide +kernel
theorem dP_fillOwnKey_12 : decode cP_fillOwnKey 12 = .ok (.invokestatic 110, 3) := by decide +kernel
theorem dP_fillOwnKey_15 : decode cP_fillOwnKey 15 = .ok (.aload_n 0, 1) := by decide +kernel
theorem dP_fillOwnKey_16 : decode cP_fillOwnKey 16 = .ok (.getfield 10, 3) := by decide +kernel
theorem dP_fillOwnKey_19 : decode cP_fillOwnKey 19 = .ok (.aload_n 0, 1) := by decide +kernel
theorem dP_fillOwnKey_20 : decode cP_fillOwnKey 20 = .ok (.getfield 31, 3) := by decide +kernel
theorem dP_fillOwnKey_23 : decode cP_fillOwnKey 23 = .ok (.aload_n 0, 1) := by decide +kernel
theorem dP_fillOwnKey_24 : decode cP_fillOwnKey 24 = .ok (.getfield 39, 3) := by decide +kernel
theorem dP_fillOwnKey_27 : decode cP_fillOwnKey 27 = .ok (.invokestatic 168, 3) := by decide +kernel
theorem dP_fillOwnKey_30 : decode cP_fillOwnKey 30 = .ok (.return_, 1) := by decide +kernel
theorem dP_requireCharacter_0 : decode cP_requireCharacter 0 = .ok (.iload_n 1, 1) := by decide +kernel
theorem dP_requireCharacter_1 : decode cP_requireCharacter 1 = .ok (.ifCond .lt 14, 3) := by decide +kernel
theorem dP_requireCharacter_4 : decode cP_requireCharacter 4 = .ok (.iload_n 1, 1) := by decide +kernel
theorem dP_requireCharacter_5 : decode cP_requireCharacter 5 = .ok (.aload_n 0, 1) := by decide +kernel
theorem dP_requireCharacter_6 : decode cP_requireCharacter 6 = .ok (.getfield 21, 3) := by decide +kernel
theorem dP_requireCharacter_9 : decode cP_requireCharacter 9 = .ok (.invokevirtual 98, 3) := by decide +kernel
theorem dP_requireCharacter_12 : decode cP_requireCharacter 12 = .ok (.if_icmp .lt 13, 3) := by decide +kernel
theorem dP_requireCharacter_15 : decode cP_requireCharacter 15 = .ok (.new 160, 3) := by decide +kernel
theorem dP_requireCharacter_18 : decode cP_requireCharacter 18 = .ok (.dup, 1) := by decide +kernel
theorem dP_requireCharacter_19 : decode cP_requireCharacter 19 = .ok (.ldc 175, 2) := by decide +kernel
theorem dP_requireCharacter_21 : decode cP_requireCharacter 21 = .ok (.invokespecial 164, 3) := by decide +kernel
theorem dP_requireCharacter_24 : decode cP_requireCharacter 24 = .ok (.athrow, 1) := by decide +kernel
theorem dP_requireCharacter_25 : decode cP_requireCharacter 25 = .ok (.return_, 1) := by decide +kernel
theorem dP_requirePlace_0 : decode cP_requirePlace 0 = .ok (.iload_n 1, 1) := by decide +kernel
theorem dP_requirePlace_1 : decode cP_requirePlace 1 = .ok (.ifCond .lt 14, 3) := by decide +kernel
theorem dP_requirePlace_4 : decode cP_requirePlace 4 = .ok (.iload_n 1, 1) := by decide +kernel
theorem dP_requirePlace_5 : decode cP_requirePlace 5 = .ok (.aload_n 0, 1) := by decide +kernel
theorem dP_requirePlace_6 : decode cP_requirePlace 6 = .ok (.getfield 21, 3) := by decide +kernel
theorem dP_requirePlace_9 : decode cP_requirePlace 9 = .ok (.invokevirtual 98, 3) := by decide +kernel
theorem dP_requirePlace_12 : decode cP_requirePlace 12 = .ok (.if_icmp .le 13, 3) := by decide +kernel
theorem dP_requirePlace_15 : decode cP_requirePlace 15 = .ok (.new 160, 3) := by decide +kernel
theorem dP_requirePlace_18 : decode cP_requirePlace 18 = .ok (.dup, 1) := by decide +kernel
theorem dP_requirePlace_19 : decode cP_requirePlace 19 = .ok (.ldc 177, 2) := by decide +kernel
theorem dP_requirePlace_21 : decode cP_requirePlace 21 = .ok (.invokespecial 164, 3) := by decide +kernel
theorem dP_requirePlace_24 : decode cP_requirePlace 24 = .ok (.athrow, 1) := by decide +kernel
theorem dP_requirePlace_25 : decode cP_requirePlace 25 = .ok (.return_, 1) := by decide +kernel
theorem dP_requireSlot_0 : decode cP_requireSlot 0 = .ok (.iload_n 0, 1) := by decide +kernel
theorem dP_requireSlot_1 : decode cP_requireSlot 1 = .ok (.ifCond .lt 8, 3) := by decide +kernel
theorem dP_requireSlot_4 : decode cP_requireSlot 4 = .ok (.iload_n 0, 1) := by decide +kernel
theorem dP_requireSlot_5 : decode cP_requireSlot 5 = .ok (.iconst 4, 1) := by decide +kernel
theorem dP_requireSlot_6 : decode cP_requireSlot 6 = .ok (.if_icmp .lt 13, 3) := by decide +kernel
theorem dP_requireSlot_9 : decode cP_requireSlot 9 = .ok (.new 160, 3) := by decide +kernel
theorem dP_requireSlot_12 : decode cP_requireSlot 12 = .ok (.dup, 1) := by decide +kernel
theorem dP_requireSlot_13 : decode cP_requireSlot 13 = .ok (.ldc 179, 2) := by decide +kernel
theorem dP_requireSlot_15 : decode cP_requireSlot 15 = .ok (.invokespecial 164, 3) := by decide +kernel
theorem dP_requireSlot_18 : decode cP_requireSlot 18 = .ok (.athrow, 1) := by decide +kernel
theorem dP_requireSlot_19 : decode cP_requireSlot 19 = .ok (.return_, 1) := by decide +kernel
end
section
/-- an int by its number -/
def iv (i : Int) : Int32 := Int32.ofInt i
theorem iv_toInt {i : Int} (h : -2147483648 ≤ i ∧ i < 2147483648) : (iv i).toInt = i := Int32.toInt_ofInt_of_le (by omega) (by omega)
theorem iv_of (x : Int32) : iv x.toInt = x := Int32.ofInt_toInt x
theorem iv_rng (x : Int32) : -2147483648 ≤ x.toInt ∧ x.toInt < 2147483648 := ⟨Int32.le_toInt x, Int32.toInt_lt x⟩
theorem iv_lt {a b : Int} (ha : -2147483648 ≤ a ∧ a < 2147483648) (hb : -2147483648 ≤ b ∧ b < 2147483648) : iv a < iv b ↔ a < b := by
  rw [Int32.lt_iff_toInt_lt, iv_toInt ha, iv_toInt hb]
theorem iv_le {a b : Int} (ha : -2147483648 ≤ a ∧ a < 2147483648) (hb : -2147483648 ≤ b ∧ b < 2147483648) : iv a ≤ iv b ↔ a ≤ b := by
  rw [Int32.le_iff_toInt_le, iv_toInt ha, iv_toInt hb]
theorem iv_eq {a b : Int} (ha : -2147483648 ≤ a ∧ a < 2147483648) (hb : -2147483648 ≤ b ∧ b < 2147483648) : iv a = iv b ↔ a = b := by
  rw [← Int32.toInt_inj, iv_toInt ha, iv_toInt hb]
theorem iv_0 : iv 0 = 0 := by decide
theorem iv_1 : iv 1 = 1 := by decide
theorem iv_add (a b : Int) : iv a + iv b = iv (a + b) := (Int32.ofInt_add a b).symm
theorem iv_sub (a b : Int) : iv a - iv b = iv (a - b) := (Int32.ofInt_sub a b).symm
theorem iv_mul (a b : Int) : iv a * iv b = iv (a * b) := (Int32.ofInt_mul a b).symm
theorem iv_cl {i : Int} (h : 0 ≤ i ∧ i < 2147483648) : (iv i).toNatClampNeg = i.toNat := Int32.toNatClampNeg_ofInt_of_le (by omega) (by omega)
theorem iv_nI (n : Nat) : nI n = iv (n : Int) := (Int32.ofInt_eq_ofNat).symm
theorem iv_in {i : Int} {n : Nat} (h : 0 ≤ i ∧ i < (n : Int)) (hn : n < 2147483648) : vp_in (iv i) n := by
  rw [vp_in_iff, iv_toInt (by omega)]; exact h
theorem iv_div {a d : Int} (ha : 0 ≤ a ∧ a < 2147483648) (hd : 0 < d ∧ d < 2147483648) : iv a / iv d = iv (a / d) := by
  obtain ⟨n, rfl⟩ := Int.eq_ofNat_of_zero_le ha.1
  obtain ⟨k, rfl⟩ := Int.eq_ofNat_of_zero_le (Int.le_of_lt hd.1)
  have h1 := pk_div (a := n) (d := k) (by omega) (by omega) (by omega)
  rw [iv_nI, iv_nI, iv_nI] at h1
  rw [h1]; rfl
theorem iv_rem {a d : Int} (ha : 0 ≤ a ∧ a < 2147483648) (hd : 0 < d ∧ d < 2147483648) : iv a - iv a / iv d * iv d = iv (a % d) := by
  rw [iv_div ha hd, iv_mul, iv_sub]
  congr 1
  have := Int.emod_add_mul_ediv a d
  rw [Int.mul_comm] at this
  omega
theorem iv_ne0 {d : Int} (hd : 0 < d ∧ d < 2147483648) : ¬ iv d = 0 := by
  rw [← iv_0, iv_eq (by omega) (by omega)]; omega
/-- an array's contents by its numbers -/
def av (g : Int → Int) : Nat → Int32 := fun n => iv (g (n : Int))
def uI (g : Int → Int) (i v : Int) : Int → Int := fun j => if j = i then v else g j
theorem uI_s {g : Int → Int} {i v : Int} : uI g i v i = v := if_pos rfl
theorem uI_e {g : Int → Int} {i j v : Int} (h : j = i) : uI g i v j = v := if_pos h
theorem uI_n {g : Int → Int} {i j v : Int} (h : j ≠ i) : uI g i v j = g j := if_neg h
theorem av_at {g : Int → Int} {i : Int} (h : 0 ≤ i ∧ i < 2147483648) : av g (iv i).toNatClampNeg = iv (g i) := by
  rw [iv_cl h]
  show iv (g (i.toNat : Int)) = iv (g i)
  rw [Int.toNat_of_nonneg h.1]
theorem av_upd {g : Int → Int} {i v : Int} (h : 0 ≤ i ∧ i < 2147483648) : upd (av g) (iv i).toNatClampNeg (iv v) = av (uI g i v) := by
  rw [iv_cl h]
  funext n
  show (if n = i.toNat then iv v else iv (g (n : Int))) = iv (if (n : Int) = i then v else g (n : Int))
  by_cases hn : n = i.toNat
  · rw [if_pos hn, if_pos (by omega)]
  · rw [if_neg hn, if_neg (by omega)]
theorem av_const (v : Int) : (fun _ => iv v : Nat → Int32) = av (fun _ => v) := rfl
theorem iv_nar {b : Int} (h : b = 0 ∨ b = 1) : vp_nar .boolean (iv b) = iv b := by
  rcases h with rfl | rfl <;> decide
section JV
variable {p : Program} {l : Launch} {e : Env} {R : Room} {s : State} {m : MethodId} {args : Array Value} {below : List Frame} {meth : Method} {c : Code} {H : Heap} {locs : List Loc} {cells slots : Nat} {Q : State → Prop}
variable {cc : ByteArray} {pc : Nat} {ls : Array Slot} {rest : List Value} {D : va_G} {cl : List vw_C} {tys : List (ClassId × FieldType)} {ws : va_W} {A : Nat → Prop} {H0 : Heap} {a : Nat}
theorem jv_iadd (hexec : p.tables.exec = Jvm.exec) (hb : c.code = cc) {x y : Int} (hdg : decode cc pc = .ok (.iadd, 1))
    (k : W p l e R s m args below meth c H locs cells slots Q (F0 m (pc + 1) ls (.int (iv (x + y)) :: rest))) : W p l e R s m args below meth c H locs cells slots Q (F0 m pc ls (.int (iv y) :: .int (iv x) :: rest)) :=
  lv_iadd hexec hb hdg (by rw [iv_add]; exact k)
theorem jv_isub (hexec : p.tables.exec = Jvm.exec) (hb : c.code = cc) {x y : Int} (hdg : decode cc pc = .ok (.isub, 1))
    (k : W p l e R s m args below meth c H locs cells slots Q (F0 m (pc + 1) ls (.int (iv (x - y)) :: rest))) : W p l e R s m args below meth c H locs cells slots Q (F0 m pc ls (.int (iv y) :: .int (iv x) :: rest)) :=
  lv_isub hexec hb hdg (by rw [iv_sub]; exact k)
theorem jv_imul (hexec : p.tables.exec = Jvm.exec) (hb : c.code = cc) {x y : Int} (hdg : decode cc pc = .ok (.imul, 1))
    (k : W p l e R s m args below meth c H locs cells slots Q (F0 m (pc + 1) ls (.int (iv (x * y)) :: rest))) : W p l e R s m args below meth c H locs cells slots Q (F0 m pc ls (.int (iv y) :: .int (iv x) :: rest)) :=
  lv_imul hexec hb hdg (by rw [iv_mul]; exact k)
theorem jv_idiv (hexec : p.tables.exec = Jvm.exec) (hb : c.code = cc) {x y : Int} (hdg : decode cc pc = .ok (.idiv, 1)) (hx : 0 ≤ x ∧ x < 2147483648) (hy : 0 < y ∧ y < 2147483648)
    (k : W p l e R s m args below meth c H locs cells slots Q (F0 m (pc + 1) ls (.int (iv (x / y)) :: rest))) : W p l e R s m args below meth c H locs cells slots Q (F0 m pc ls (.int (iv y) :: .int (iv x) :: rest)) :=
  lv_idiv hexec hb hdg (iv_ne0 hy) (by rw [iv_div hx hy]; exact k)
theorem jv_irem (hexec : p.tables.exec = Jvm.exec) (hb : c.code = cc) {x y : Int} (hdg : decode cc pc = .ok (.irem, 1)) (hx : 0 ≤ x ∧ x < 2147483648) (hy : 0 < y ∧ y < 2147483648)
    (k : W p l e R s m args below meth c H locs cells slots Q (F0 m (pc + 1) ls (.int (iv (x % y)) :: rest))) : W p l e R s m args below meth c H locs cells slots Q (F0 m pc ls (.int (iv y) :: .int (iv x) :: rest)) :=
  lv_irem hexec hb hdg (iv_ne0 hy) (by rw [iv_rem hx hy]; exact k)
theorem jv_icmp_eq (hexec : p.tables.exec = Jvm.exec) (hb : c.code = cc) {x y : Int} {off : Int} {tgt : Nat} (hdg : decode cc pc = .ok (.if_icmp .eq off, 3)) (ht : (pc : Int) + off = (tgt : Int)) (hx : -2147483648 ≤ x ∧ x < 2147483648) (hy : -2147483648 ≤ y ∧ y < 2147483648)
    (kt : x = y → W p l e R s m args below meth c H locs cells slots Q (F0 m tgt ls rest)) (kf : x ≠ y → W p l e R s m args below meth c H locs cells slots Q (F0 m (pc + 3) ls rest)) : W p l e R s m args below meth c H locs cells slots Q (F0 m pc ls (.int (iv y) :: .int (iv x) :: rest)) :=
  lv_icmp_eq hexec hb hdg ht (fun h => kt ((iv_eq hx hy).mp h)) (fun h => kf (fun z => h ((iv_eq hx hy).mpr z)))
theorem jv_if_eq (hexec : p.tables.exec = Jvm.exec) (hb : c.code = cc) {x : Int} {off : Int} {tgt : Nat} (hdg : decode cc pc = .ok (.ifCond .eq off, 3)) (ht : (pc : Int) + off = (tgt : Int)) (hx : -2147483648 ≤ x ∧ x < 2147483648)
    (kt : x = 0 → W p l e R s m args below meth c H locs cells slots Q (F0 m tgt ls rest)) (kf : x ≠ 0 → W p l e R s m args below meth c H locs cells slots Q (F0 m (pc + 3) ls rest)) : W p l e R s m args below meth c H locs cells slots Q (F0 m pc ls (.int (iv x) :: rest)) :=
  lv_if_eq hexec hb hdg ht (fun h => kt ((iv_eq hx (by omega)).mp (by rw [iv_0]; exact h))) (fun h => kf (fun z => h (by rw [← iv_0]; exact (iv_eq hx (by omega)).mpr z)))
theorem jv_icmp_ne (hexec : p.tables.exec = Jvm.exec) (hb : c.code = cc) {x y : Int} {off : Int} {tgt : Nat} (hdg : decode cc pc = .ok (.if_icmp .ne off, 3)) (ht : (pc : Int) + off = (tgt : Int)) (hx : -2147483648 ≤ x ∧ x < 2147483648) (hy : -2147483648 ≤ y ∧ y < 2147483648)
    (kt : x ≠ y → W p l e R s m args below meth c H locs cells slots Q (F0 m tgt ls rest)) (kf : x = y → W p l e R s m args below meth c H locs cells slots Q (F0 m (pc + 3) ls rest)) : W p l e R s m args below meth c H locs cells slots Q (F0 m pc ls (.int (iv y) :: .int (iv x) :: rest)) :=
  lv_icmp_ne hexec hb hdg ht (fun h => kt (fun z => h ((iv_eq hx hy).mpr z))) (fun h => kf ((iv_eq hx hy).mp h))
theorem jv_if_ne (hexec : p.tables.exec = Jvm.exec) (hb : c.code = cc) {x : Int} {off : Int} {tgt : Nat} (hdg : decode cc pc = .ok (.ifCond .ne off, 3)) (ht : (pc : Int) + off = (tgt : Int)) (hx : -2147483648 ≤ x ∧ x < 2147483648)
    (kt : x ≠ 0 → W p l e R s m args below meth c H locs cells slots Q (F0 m tgt ls rest)) (kf : x = 0 → W p l e R s m args below meth c H locs cells slots Q (F0 m (pc + 3) ls rest)) : W p l e R s m args below meth c H locs cells slots Q (F0 m pc ls (.int (iv x) :: rest)) :=
  lv_if_ne hexec hb hdg ht (fun h => kt (fun z => h (by rw [← iv_0]; exact (iv_eq hx (by omega)).mpr z))) (fun h => kf ((iv_eq hx (by omega)).mp (by rw [iv_0]; exact h)))
theorem jv_icmp_lt (hexec : p.tables.exec = Jvm.exec) (hb : c.code = cc) {x y : Int} {off : Int} {tgt : Nat} (hdg : decode cc pc = .ok (.if_icmp .lt off, 3)) (ht : (pc : Int) + off = (tgt : Int)) (hx : -2147483648 ≤ x ∧ x < 2147483648) (hy : -2147483648 ≤ y ∧ y < 2147483648)
    (kt : x < y → W p l e R s m args below meth c H locs cells slots Q (F0 m tgt ls rest)) (kf : y ≤ x → W p l e R s m args below meth c H locs cells slots Q (F0 m (pc + 3) ls rest)) : W p l e R s m args below meth c H locs cells slots Q (F0 m pc ls (.int (iv y) :: .int (iv x) :: rest)) :=
  lv_icmp_lt hexec hb hdg ht (fun h => kt ((iv_lt hx hy).mp h)) (fun h => kf (by have h2 := mt (iv_lt hx hy).mpr h; omega))
theorem jv_if_lt (hexec : p.tables.exec = Jvm.exec) (hb : c.code = cc) {x : Int} {off : Int} {tgt : Nat} (hdg : decode cc pc = .ok (.ifCond .lt off, 3)) (ht : (pc : Int) + off = (tgt : Int)) (hx : -2147483648 ≤ x ∧ x < 2147483648)
    (kt : x < 0 → W p l e R s m args below meth c H locs cells slots Q (F0 m tgt ls rest)) (kf : 0 ≤ x → W p l e R s m args below meth c H locs cells slots Q (F0 m (pc + 3) ls rest)) : W p l e R s m args below meth c H locs cells slots Q (F0 m pc ls (.int (iv x) :: rest)) :=
  lv_if_lt hexec hb hdg ht (fun h => kt ((iv_lt hx (by omega)).mp (by rw [iv_0]; exact h))) (fun h => kf (by rw [← iv_0] at h; have h2 := mt (iv_lt hx (by omega)).mpr h; omega))
theorem jv_icmp_ge (hexec : p.tables.exec = Jvm.exec) (hb : c.code = cc) {x y : Int} {off : Int} {tgt : Nat} (hdg : decode cc pc = .ok (.if_icmp .ge off, 3)) (ht : (pc : Int) + off = (tgt : Int)) (hx : -2147483648 ≤ x ∧ x < 2147483648) (hy : -2147483648 ≤ y ∧ y < 2147483648)
    (kt : y ≤ x → W p l e R s m args below meth c H locs cells slots Q (F0 m tgt ls rest)) (kf : x < y → W p l e R s m args below meth c H locs cells slots Q (F0 m (pc + 3) ls rest)) : W p l e R s m args below meth c H locs cells slots Q (F0 m pc ls (.int (iv y) :: .int (iv x) :: rest)) :=
  lv_icmp_ge hexec hb hdg ht (fun h => kt ((iv_le hy hx).mp h)) (fun h => kf (by have h2 := mt (iv_le hy hx).mpr h; omega))
theorem jv_if_ge (hexec : p.tables.exec = Jvm.exec) (hb : c.code = cc) {x : Int} {off : Int} {tgt : Nat} (hdg : decode cc pc = .ok (.ifCond .ge off, 3)) (ht : (pc : Int) + off = (tgt : Int)) (hx : -2147483648 ≤ x ∧ x < 2147483648)
    (kt : 0 ≤ x → W p l e R s m args below meth c H locs cells slots Q (F0 m tgt ls rest)) (kf : x < 0 → W p l e R s m args below meth c H locs cells slots Q (F0 m (pc + 3) ls rest)) : W p l e R s m args below meth c H locs cells slots Q (F0 m pc ls (.int (iv x) :: rest)) :=
  lv_if_ge hexec hb hdg ht (fun h => kt ((iv_le (by omega) hx).mp (by rw [iv_0]; exact h))) (fun h => kf (by rw [← iv_0] at h; have h2 := mt (iv_le (by omega) hx).mpr h; omega))
theorem jv_icmp_gt (hexec : p.tables.exec = Jvm.exec) (hb : c.code = cc) {x y : Int} {off : Int} {tgt : Nat} (hdg : decode cc pc = .ok (.if_icmp .gt off, 3)) (ht : (pc : Int) + off = (tgt : Int)) (hx : -2147483648 ≤ x ∧ x < 2147483648) (hy : -2147483648 ≤ y ∧ y < 2147483648)
    (kt : y < x → W p l e R s m args below meth c H locs cells slots Q (F0 m tgt ls rest)) (kf : x ≤ y → W p l e R s m args below meth c H locs cells slots Q (F0 m (pc + 3) ls rest)) : W p l e R s m args below meth c H locs cells slots Q (F0 m pc ls (.int (iv y) :: .int (iv x) :: rest)) :=
  lv_icmp_gt hexec hb hdg ht (fun h => kt ((iv_lt hy hx).mp h)) (fun h => kf (by have h2 := mt (iv_lt hy hx).mpr h; omega))
theorem jv_if_gt (hexec : p.tables.exec = Jvm.exec) (hb : c.code = cc) {x : Int} {off : Int} {tgt : Nat} (hdg : decode cc pc = .ok (.ifCond .gt off, 3)) (ht : (pc : Int) + off = (tgt : Int)) (hx : -2147483648 ≤ x ∧ x < 2147483648)
    (kt : 0 < x → W p l e R s m args below meth c H locs cells slots Q (F0 m tgt ls rest)) (kf : x ≤ 0 → W p l e R s m args below meth c H locs cells slots Q (F0 m (pc + 3) ls rest)) : W p l e R s m args below meth c H locs cells slots Q (F0 m pc ls (.int (iv x) :: rest)) :=
  lv_if_gt hexec hb hdg ht (fun h => kt ((iv_lt (by omega) hx).mp (by rw [iv_0]; exact h))) (fun h => kf (by rw [← iv_0] at h; have h2 := mt (iv_lt (by omega) hx).mpr h; omega))
theorem jv_icmp_le (hexec : p.tables.exec = Jvm.exec) (hb : c.code = cc) {x y : Int} {off : Int} {tgt : Nat} (hdg : decode cc pc = .ok (.if_icmp .le off, 3)) (ht : (pc : Int) + off = (tgt : Int)) (hx : -2147483648 ≤ x ∧ x < 2147483648) (hy : -2147483648 ≤ y ∧ y < 2147483648)
    (kt : x ≤ y → W p l e R s m args below meth c H locs cells slots Q (F0 m tgt ls rest)) (kf : y < x → W p l e R s m args below meth c H locs cells slots Q (F0 m (pc + 3) ls rest)) : W p l e R s m args below meth c H locs cells slots Q (F0 m pc ls (.int (iv y) :: .int (iv x) :: rest)) :=
  lv_icmp_le hexec hb hdg ht (fun h => kt ((iv_le hx hy).mp h)) (fun h => kf (by have h2 := mt (iv_le hx hy).mpr h; omega))
theorem jv_if_le (hexec : p.tables.exec = Jvm.exec) (hb : c.code = cc) {x : Int} {off : Int} {tgt : Nat} (hdg : decode cc pc = .ok (.ifCond .le off, 3)) (ht : (pc : Int) + off = (tgt : Int)) (hx : -2147483648 ≤ x ∧ x < 2147483648)
    (kt : x ≤ 0 → W p l e R s m args below meth c H locs cells slots Q (F0 m tgt ls rest)) (kf : 0 < x → W p l e R s m args below meth c H locs cells slots Q (F0 m (pc + 3) ls rest)) : W p l e R s m args below meth c H locs cells slots Q (F0 m pc ls (.int (iv x) :: rest)) :=
  lv_if_le hexec hb hdg ht (fun h => kt ((iv_le hx (by omega)).mp (by rw [iv_0]; exact h))) (fun h => kf (by rw [← iv_0] at h; have h2 := mt (iv_le hx (by omega)).mpr h; omega))
theorem jv_iinc (hexec : p.tables.exec = Jvm.exec) (hb : c.code = cc) {i nL k : Nat} {n x : Int} {lv lv' : List (Nat × Value)} (hdg : decode cc pc = .ok (.iinc i n, 3)) (h : lv_has ls nL lv) (hk : lv[k]? = some (i, .int (iv x))) (hn : i < nL) (hl : (i, Value.int (iv (x + n))) :: lv.filter (fun q => !(q.1 == i) && !(q.1 + 1 == i && q.2.category == 2)) = lv')
    (kk : ∀ ls' : Array Slot, lv_has ls' nL lv' → W p l e R s m args below meth c H locs cells slots Q (F0 m (pc + 3) ls' rest)) : W p l e R s m args below meth c H locs cells slots Q (F0 m pc ls rest) :=
  lv_iinc hexec hb hdg h hk (iv_add x n) hn hl kk
theorem jv_idec (hexec : p.tables.exec = Jvm.exec) (hb : c.code = cc) {i nL k : Nat} {n d x : Int} {lv lv' : List (Nat × Value)} (hdg : decode cc pc = .ok (.iinc i n, 3)) (hd : n = -d) (h : lv_has ls nL lv) (hk : lv[k]? = some (i, .int (iv x))) (hn : i < nL) (hl : (i, Value.int (iv (x - d))) :: lv.filter (fun q => !(q.1 == i) && !(q.1 + 1 == i && q.2.category == 2)) = lv')
    (kk : ∀ ls' : Array Slot, lv_has ls' nL lv' → W p l e R s m args below meth c H locs cells slots Q (F0 m (pc + 3) ls' rest)) : W p l e R s m args below meth c H locs cells slots Q (F0 m pc ls rest) :=
  jv_iinc (x := x) (n := n) hexec hb hdg h hk hn (by rw [hd, ← Int.sub_eq_add_neg]; exact hl) kk
theorem jv_iald (hexec : p.tables.exec = Jvm.exec) (hb : c.code = cc) (hK : va_K D cl tys s) (hP : va_P D cl ws H) (q0 t0 : Nat) {cA : ClassId} {n : Nat} {g : Int → Int} (ha : ws[q0]? = some (a, .inl (cA, n, .inl (av g)))) (ht : tys[t0]? = some (cA, .int)) {i : Int} (hn : n < 2147483648) (hin : 0 ≤ i ∧ i < (n : Int)) (hdg : decode cc pc = .ok (.iaload, 1))
    (kk : W p l e R s m args below meth c H locs cells slots Q (F0 m (pc + 1) ls (.int (iv (g i)) :: rest))) : W p l e R s m args below meth c H locs cells slots Q (F0 m pc ls (.int (iv i) :: .ref a :: rest)) :=
  va_iald hexec hb hK hP q0 t0 ha ht (iv_in hin hn) hdg (by rw [av_at (by omega)]; exact kk)
theorem jv_zald (hexec : p.tables.exec = Jvm.exec) (hb : c.code = cc) (hK : va_K D cl tys s) (hP : va_P D cl ws H) (q0 t0 : Nat) {cA : ClassId} {n : Nat} {g : Int → Int} (ha : ws[q0]? = some (a, .inl (cA, n, .inl (av g)))) (ht : tys[t0]? = some (cA, .boolean)) {i : Int} (hn : n < 2147483648) (hin : 0 ≤ i ∧ i < (n : Int)) (hdg : decode cc pc = .ok (.baload, 1))
    (kk : W p l e R s m args below meth c H locs cells slots Q (F0 m (pc + 1) ls (.int (iv (g i)) :: rest))) : W p l e R s m args below meth c H locs cells slots Q (F0 m pc ls (.int (iv i) :: .ref a :: rest)) :=
  va_zald hexec hb hK hP q0 t0 ha ht (iv_in hin hn) hdg (by rw [av_at (by omega)]; exact kk)
theorem jv_iast (hexec : p.tables.exec = Jvm.exec) (hb : c.code = cc) (hK : va_K D cl tys s) (hP : va_P D cl ws H) (hD : va_D A ws) (hS : va_S A H0 H locs) (q0 t0 : Nat) {cA : ClassId} {n : Nat} {g : Int → Int} (ha : ws[q0]? = some (a, .inl (cA, n, .inl (av g)))) (ht : tys[t0]? = some (cA, .int)) {i x : Int} (hn : n < 2147483648) (hin : 0 ≤ i ∧ i < (n : Int)) (hdg : decode cc pc = .ok (.iastore, 1)) {ws' : va_W} (hw : ws.set q0 (a, .inl (cA, n, .inl (av (uI g i x)))) = ws')
    (kk : ∀ (H1 : Heap) (locs1 : List Loc), va_P D cl ws' H1 → va_D A ws' → va_S A H0 H1 locs1 → W p l e R s m args below meth c H1 locs1 cells slots Q (F0 m (pc + 1) ls rest)) : W p l e R s m args below meth c H locs cells slots Q (F0 m pc ls (.int (iv x) :: .int (iv i) :: .ref a :: rest)) :=
  va_iast hexec hb hK hP hD hS q0 t0 ha ht (iv_in hin hn) hdg (fun H1 locs1 h1 h2 h3 => by
    rw [av_upd (by omega)] at h1 h2
    rw [hw] at h1 h2
    exact kk H1 locs1 h1 h2 h3)
theorem jv_zast (hexec : p.tables.exec = Jvm.exec) (hb : c.code = cc) (hK : va_K D cl tys s) (hP : va_P D cl ws H) (hD : va_D A ws) (hS : va_S A H0 H locs) (q0 t0 : Nat) {cA : ClassId} {n : Nat} {g : Int → Int} (ha : ws[q0]? = some (a, .inl (cA, n, .inl (av g)))) (ht : tys[t0]? = some (cA, .boolean)) {i x : Int} (hn : n < 2147483648) (hin : 0 ≤ i ∧ i < (n : Int)) (hx : x = 0 ∨ x = 1) (hdg : decode cc pc = .ok (.bastore, 1)) {ws' : va_W} (hw : ws.set q0 (a, .inl (cA, n, .inl (av (uI g i x)))) = ws')
    (kk : ∀ (H1 : Heap) (locs1 : List Loc), va_P D cl ws' H1 → va_D A ws' → va_S A H0 H1 locs1 → W p l e R s m args below meth c H1 locs1 cells slots Q (F0 m (pc + 1) ls rest)) : W p l e R s m args below meth c H locs cells slots Q (F0 m pc ls (.int (iv x) :: .int (iv i) :: .ref a :: rest)) :=
  va_zast hexec hb hK hP hD hS q0 t0 ha ht (iv_in hin hn) hdg (fun H1 locs1 h1 h2 h3 => by
    rw [iv_nar hx, av_upd (by omega)] at h1 h2
    rw [hw] at h1 h2
    exact kk H1 locs1 h1 h2 h3)
theorem jv_put (hexec : p.tables.exec = Jvm.exec) (hb : c.code = cc) {own ref C : String} {T : u_T} {N ci index : Nat} {Ts : List Cond} (hts : ∀ w ∈ Ts, w.before args s = true) (hin : ∀ w ∈ u_ws C T N, w ∈ Ts) (ty0 : Nat → FieldType) (hty : ∀ k, k < N → parseFieldDescriptor (T k).2.2.1 = some (ty0 k)) (hnm : ∀ a, a < N → ∀ b, b < N → a ≠ b → (T a).2.1 ≠ (T b).2.1) (hown : s.vm.findClass own = some m.cls) (hK : va_K D cl tys s) (hP : va_P D cl ws H) (hD : va_D A ws) (hS0 : va_S A H0 H locs) (q0 : Nat) {fs : List Value} (he : ws[q0]? = some (a, .inr (ci, fs))) (hc : cl[ci]? = some (C, T, N)) (k : Nat) (hk : k < N) (hlink : (Cond.fieldLink own index ref (T k).2.1 (T k).2.2.1).before args s = true) (hsame : ∀ x, s.fieldFound? (T k).1 (T k).2.1 (T k).2.2.1 = some x → s.fieldFound? ref (T k).2.1 (T k).2.2.1 = some x) (hfin : (T k).2.2.2 = false) {ty : FieldType} {v : Value} (hd : parseFieldDescriptor (T k).2.2.1 = some ty) (hn : narrow ty v = v) (hfit : fits ty v = true) (hl : k < fs.length)
    (hdg : decode cc pc = .ok (.putfield index, 3)) {ws' : va_W} (hw : ws.set q0 (a, .inr (ci, fs.set k v)) = ws') (kk : ∀ (H1 : Heap) (locs1 : List Loc), va_P D cl ws' H1 → va_D A ws' → va_S A H0 H1 locs1 → W p l e R s m args below meth c H1 locs1 cells slots Q (F0 m (pc + 3) ls rest)) : W p l e R s m args below meth c H locs cells slots Q (F0 m pc ls (v :: .ref a :: rest)) :=
  va_put hexec hb hts hin ty0 hty hnm hown hK hP hD hS0 q0 he hc k hk hlink hsame hfin hd hn hfit hl hdg (fun H1 locs1 h1 h2 h3 => by
    rw [hw] at h1 h2
    exact kk H1 locs1 h1 h2 h3)
end JV
/-- a contract's start and end, by pictures -/
abbrev jPre (D : va_G) (tys : List (ClassId × FieldType)) (wc : va_W) (sz : Nat) : State → Prop := fun U => U.heap.size = sz ∧ va_P D vwCl wc U.heap ∧ va_K D vwCl tys U ∧ va_D (fun _ => True) wc
abbrev jEnd (D : va_G) (tys : List (ClassId × FieldType)) (A : Nat → Prop) (w : va_W) : State → Prop := fun t => va_P D vwCl w t.heap ∧ va_K D vwCl tys t ∧ va_D A w
theorem jv_pick {ws wc : va_W} {is : List Nat} (h : is.map (fun i => ws[i]?) = wc.map some) : is.filterMap (fun i => ws[i]?) = wc := by
  have e : is.filterMap (fun i => ws[i]?) = (is.map (fun i => ws[i]?)).filterMap id := by
    rw [List.filterMap_map]; rfl
  rw [e, h, List.filterMap_map]
  exact List.filterMap_some
section JC
variable {p : Program} {l : Launch} {e : Env} {R : Room} {s : State} {m : MethodId} {args : Array Value} {below : List Frame} {meth : Method} {c : Code} {H : Heap} {locs : List Loc} {cells slots : Nat} {Q : State → Prop}
variable {pc : Nat} {ls : Array Slot} {rest st0 As av : List Value} {D : va_G} {tys : List (ClassId × FieldType)} {wb wc wr : va_W} {A : Nat → Prop} {a : Array Value} {b : Nat}
theorem jv_blind {sz : Nat} : FrameBlind (va_Pc av (jPre D tys wc sz)) := fun a U g mk q => by
  obtain ⟨q0, q1, qP, qK, qD⟩ := q
  exact ⟨q0, q1, qP, va_K.moved (u := U) (U := U.calling g mk a) (Vm.Alike.refl U.vm) qK, qD⟩
theorem jv_preS (hK : va_K D vwCl tys s) (hP : va_P D vwCl wb H) (hD : va_D A wb) (isC : List Nat) (hC : isC.map (fun i => wb[i]?) = wc.map some) (hnC : va_nd isC = true) : PreS s H (va_Pc av (jPre D tys wc H.size)) av :=
  ⟨jv_blind, fun U hU hW => ⟨rfl, by rw [hU], by rw [hU]; exact hP.sub isC (jv_pick hC), va_K.moved hW.alike hK, (hD.sub isC hnC hC).weaken (fun _ _ _ _ => trivial)⟩⟩
theorem jv_preV (hK : va_K D vwCl tys s) (hP : va_P D vwCl wb H) (hD : va_D A wb) (isC : List Nat) (hC : isC.map (fun i => wb[i]?) = wc.map some) (hnC : va_nd isC = true) {C : String} {ci q0 : Nat} {T : u_T} {N : Nat} {fs : List Value} (hc : vwCl[ci]? = some (C, T, N)) (he : wb[q0]? = some (b, .inr (ci, fs))) : PreV s H C b (va_Pc (.ref b :: As) (jPre D tys wc H.size)) As :=
  ⟨jv_blind, va_recv hK hP hc he, fun U hU hW => ⟨rfl, by rw [hU], by rw [hU]; exact hP.sub isC (jv_pick hC), va_K.moved hW.alike hK, (hD.sub isC hnC hC).weaken (fun _ _ _ _ => trivial)⟩⟩
theorem jv_ri {S : Type} {post : Int32 → S → Prop} {w1 wn : S → va_W} (hr : va_Run p l e R s m args below meth c H locs cells slots 0 0 (F0 m pc ls st0) rest (va_Qi post (fun u => jEnd D tys (va_A wc H.size) (w1 u)) (va_A wc H.size) a) (va_A wc H.size))
    (hP : va_P D vwCl wb H) (hD : va_D A wb) (hS : va_S A s.heap H locs) (hA : ∀ q, s.heap.size ≤ q → A q)
    (isC isR isN : List Nat) (hC : isC.map (fun i => wb[i]?) = wc.map some) (hR : isR.map (fun i => wb[i]?) = wr.map some) (hn : va_nd isR = true) (hdis : ∀ i ∈ isR, i ∉ isC) (hnN : va_nd isN = true) (hN : ∀ u, isN.map (fun i => (wr ++ w1 u)[i]?) = (wn u).map some)
    (kk : ∀ (r : Int32) (u : S) (H1 : Heap) (locs1 : List Loc), post r u → va_P D vwCl (wn u) H1 → va_D A (wn u) → va_S A s.heap H1 locs1 → W p l e R s m args below meth c H1 locs1 cells slots Q (F0 m (pc + 3) ls (.int r :: rest))) : W p l e R s m args below meth c H locs cells slots Q (F0 m pc ls st0) := by
  have hF := va_free (wc := wc) hD hS hA isC hC
  refine va_calli hr hS (fun q _ h => hF q h) hF (fun r u t H1 locs1 ht hvm hw hB hz hk hS1 => ?_)
  obtain ⟨hP1, hK1, hD1⟩ := hB
  rw [ht] at hP1
  obtain ⟨h1, h2⟩ := va_join (wr := wr) (w1 := w1 u) hP hD isC isR hC hR hn hdis hk hF hP1 hD1
  exact kk r u H1 locs1 hw (h1.sub isN (jv_pick (hN u))) (h2.sub isN hnN (hN u)) hS1
theorem jv_rv {S : Type} {post : S → Prop} {w1 wn : S → va_W} (hr : va_Run p l e R s m args below meth c H locs cells slots 0 0 (F0 m pc ls st0) rest (va_Qv post (fun u => jEnd D tys (va_A wc H.size) (w1 u)) (va_A wc H.size) a) (va_A wc H.size))
    (hP : va_P D vwCl wb H) (hD : va_D A wb) (hS : va_S A s.heap H locs) (hA : ∀ q, s.heap.size ≤ q → A q)
    (isC isR isN : List Nat) (hC : isC.map (fun i => wb[i]?) = wc.map some) (hR : isR.map (fun i => wb[i]?) = wr.map some) (hn : va_nd isR = true) (hdis : ∀ i ∈ isR, i ∉ isC) (hnN : va_nd isN = true) (hN : ∀ u, isN.map (fun i => (wr ++ w1 u)[i]?) = (wn u).map some)
    (kk : ∀ (u : S) (H1 : Heap) (locs1 : List Loc), post u → va_P D vwCl (wn u) H1 → va_D A (wn u) → va_S A s.heap H1 locs1 → W p l e R s m args below meth c H1 locs1 cells slots Q (F0 m (pc + 3) ls rest)) : W p l e R s m args below meth c H locs cells slots Q (F0 m pc ls st0) := by
  have hF := va_free (wc := wc) hD hS hA isC hC
  refine va_callv hr hS (fun q _ h => hF q h) hF (fun u t H1 locs1 ht hvm hw hB hz hk hS1 => ?_)
  obtain ⟨hP1, hK1, hD1⟩ := hB
  rw [ht] at hP1
  obtain ⟨h1, h2⟩ := va_join (wr := wr) (w1 := w1 u) hP hD isC isR hC hR hn hdis hk hF hP1 hD1
  exact kk u H1 locs1 hw (h1.sub isN (jv_pick (hN u))) (h2.sub isN hnN (hN u)) hS1
/-- a contract's end, seen from its frame -/
theorem jv_endi {S : Type} {post : Int32 → S → Prop} {B : S → State → Prop} {H1 : Heap} {av2 : Array Value} {t : State} (r : Int32) (u : S) (hp : post r u) (hB : B u t) (ht : t.heap = H1) (hS : va_S A s.heap H1 locs) : va_Qi post B A av2 s (.returned (some (.int r))) t :=
  ⟨⟨r, u, rfl, hp, hB⟩, hS.F ht⟩
end JC
section JM
variable {l : Launch} {y : MethodName} {ws ws' : List Cond} {rm : Room} {cc : ByteArray} {maxL : Nat} {D : va_G} {tys : List (ClassId × FieldType)} {wc : va_W} {avs : List Value} {sz : Nat}
/-- a contract of an int method, by its walk: the walk's goal and room stay names -/
theorem jv_mi {S : Type} {post : Int32 → S → Prop} {w1 : S → va_W} (hy : plainName y.cls = true) (hw : ws = Cond.code y cc maxL (some .int) :: ws') (hlen : (lg_sl avs).length ≤ maxL)
    (body : ∀ (p : Program) (e : Env) (s : State) (m : MethodId) (args : Array Value) (below : List Frame) (meth : Method) (c : Code) (R : Room) (Q : State → Prop) (A : Nat → Prop) (ls : Array Slot),
      p.tables.exec = Jvm.exec → c.code = cc → (∀ w ∈ ws, w.before args s = true) → s.vm.findClass y.cls = some m.cls → c.maxLocals = maxL → rm.frames ≤ R.frames → rm.locals ≤ R.locals → (∀ q : Nat, s.heap.size ≤ q → A q) → va_K D vwCl tys s →
      (∀ {pc : Nat} {ls : Array Slot} {H : Heap} {locs : List Loc} (v : Int32) (u : S), decode cc pc = .ok (.ireturn, 1) → post v u → va_P D vwCl (w1 u) H → va_D A (w1 u) → va_S A s.heap H locs → W p l e R s m args below meth c H locs 0 0 Q (F0 m pc ls [.int v])) →
      lv_has ls maxL (lv_args 0 avs) → va_P D vwCl wc s.heap → va_D A wc → va_S A s.heap s.heap [] → W p l e R s m args below meth c s.heap [] 0 0 Q (F0 m 0 ls [])) :
    Met l y ws rm (va_Pc avs (jPre D tys wc sz)) (va_Qi post (fun u => jEnd D tys (va_A wc sz) (w1 u)) (va_A wc sz)) 0 0 (va_A wc sz) := by
  refine Met.ofW (cc := cc) (maxL := maxL) (ret := some .int) hy hw ?_
  intro p e s m args below meth c s₁ B hml hv
  obtain ⟨hargs, hsz, hP, hK, hD0⟩ := hv
  subst hsz
  have hE : entryFrame m args maxL = F0 m 0 ((lg_sl avs ++ List.replicate (maxL - (lg_sl avs).length) Slot.unset).toArray) [] := by rw [hargs]; exact lg_entry_eq m avs maxL
  rw [hE]
  have hlocks := B.notSynchronized
  exact body p e s m args below meth c _ _ (va_A wc s.heap.size) _ B.exec B.bytes (atoms_spec (ws := ws) B.pre) (findClass_of_methodNamed B.named) hml (Nat.le_refl _) (Nat.le_refl _) (fun q h => Or.inr h) hK
    (fun v u hdg hp hP hD hS => W.iret B.exec B.bytes B.returns (fun t ht hW => ⟨⟨v, u, rfl, hp, by rw [ht]; exact hP, va_K.moved hW.alike hK, hD⟩, hS.F ht⟩) hS.2.2 hdg)
    (lv_entry avs hlen) hP (hD0.self (sz := s.heap.size)) va_S.rf
theorem jv_mz {S : Type} {post : Int32 → S → Prop} {w1 : S → va_W} (hy : plainName y.cls = true) (hw : ws = Cond.code y cc maxL (some .boolean) :: ws') (hlen : (lg_sl avs).length ≤ maxL)
    (body : ∀ (p : Program) (e : Env) (s : State) (m : MethodId) (args : Array Value) (below : List Frame) (meth : Method) (c : Code) (R : Room) (Q : State → Prop) (A : Nat → Prop) (ls : Array Slot),
      p.tables.exec = Jvm.exec → c.code = cc → (∀ w ∈ ws, w.before args s = true) → s.vm.findClass y.cls = some m.cls → c.maxLocals = maxL → rm.frames ≤ R.frames → rm.locals ≤ R.locals → (∀ q : Nat, s.heap.size ≤ q → A q) → va_K D vwCl tys s →
      (∀ {pc : Nat} {ls : Array Slot} {H : Heap} {locs : List Loc} (v : Int32) (u : S), decode cc pc = .ok (.ireturn, 1) → (v = iv 0 ∨ v = iv 1) → post v u → va_P D vwCl (w1 u) H → va_D A (w1 u) → va_S A s.heap H locs → W p l e R s m args below meth c H locs 0 0 Q (F0 m pc ls [.int v])) →
      lv_has ls maxL (lv_args 0 avs) → va_P D vwCl wc s.heap → va_D A wc → va_S A s.heap s.heap [] → W p l e R s m args below meth c s.heap [] 0 0 Q (F0 m 0 ls [])) :
    Met l y ws rm (va_Pc avs (jPre D tys wc sz)) (va_Qi post (fun u => jEnd D tys (va_A wc sz) (w1 u)) (va_A wc sz)) 0 0 (va_A wc sz) := by
  refine Met.ofW (cc := cc) (maxL := maxL) (ret := some .boolean) hy hw ?_
  intro p e s m args below meth c s₁ B hml hv
  obtain ⟨hargs, hsz, hP, hK, hD0⟩ := hv
  subst hsz
  have hE : entryFrame m args maxL = F0 m 0 ((lg_sl avs ++ List.replicate (maxL - (lg_sl avs).length) Slot.unset).toArray) [] := by rw [hargs]; exact lg_entry_eq m avs maxL
  rw [hE]
  have hlocks := B.notSynchronized
  exact body p e s m args below meth c _ _ (va_A wc s.heap.size) _ B.exec B.bytes (atoms_spec (ws := ws) B.pre) (findClass_of_methodNamed B.named) hml (Nat.le_refl _) (Nat.le_refl _) (fun q h => Or.inr h) hK
    (fun v u hdg hz hp hP hD hS => W.zret B.exec B.bytes B.returns (by rcases hz with rfl | rfl <;> decide) (fun t ht hW => ⟨⟨v, u, rfl, hp, by rw [ht]; exact hP, va_K.moved hW.alike hK, hD⟩, hS.F ht⟩) hS.2.2 hdg)
    (lv_entry avs hlen) hP (hD0.self (sz := s.heap.size)) va_S.rf
theorem jv_mv {S : Type} {post : S → Prop} {w1 : S → va_W} (hy : plainName y.cls = true) (hw : ws = Cond.code y cc maxL none :: ws') (hlen : (lg_sl avs).length ≤ maxL)
    (body : ∀ (p : Program) (e : Env) (s : State) (m : MethodId) (args : Array Value) (below : List Frame) (meth : Method) (c : Code) (R : Room) (Q : State → Prop) (A : Nat → Prop) (ls : Array Slot),
      p.tables.exec = Jvm.exec → c.code = cc → (∀ w ∈ ws, w.before args s = true) → s.vm.findClass y.cls = some m.cls → c.maxLocals = maxL → rm.frames ≤ R.frames → rm.locals ≤ R.locals → (∀ q : Nat, s.heap.size ≤ q → A q) → va_K D vwCl tys s →
      (∀ {pc : Nat} {ls : Array Slot} {H : Heap} {locs : List Loc} (u : S), decode cc pc = .ok (.return_, 1) → post u → va_P D vwCl (w1 u) H → va_D A (w1 u) → va_S A s.heap H locs → W p l e R s m args below meth c H locs 0 0 Q (F0 m pc ls [])) →
      lv_has ls maxL (lv_args 0 avs) → va_P D vwCl wc s.heap → va_D A wc → va_S A s.heap s.heap [] → W p l e R s m args below meth c s.heap [] 0 0 Q (F0 m 0 ls [])) :
    Met l y ws rm (va_Pc avs (jPre D tys wc sz)) (va_Qv post (fun u => jEnd D tys (va_A wc sz) (w1 u)) (va_A wc sz)) 0 0 (va_A wc sz) := by
  refine Met.ofW (cc := cc) (maxL := maxL) (ret := none) hy hw ?_
  intro p e s m args below meth c s₁ B hml hv
  obtain ⟨hargs, hsz, hP, hK, hD0⟩ := hv
  subst hsz
  have hE : entryFrame m args maxL = F0 m 0 ((lg_sl avs ++ List.replicate (maxL - (lg_sl avs).length) Slot.unset).toArray) [] := by rw [hargs]; exact lg_entry_eq m avs maxL
  rw [hE]
  have hlocks := B.notSynchronized
  exact body p e s m args below meth c _ _ (va_A wc s.heap.size) _ B.exec B.bytes (atoms_spec (ws := ws) B.pre) (findClass_of_methodNamed B.named) hml (Nat.le_refl _) (Nat.le_refl _) (fun q h => Or.inr h) hK
    (fun u hdg hp hP hD hS => W.vret B.exec B.bytes B.returns (fun t ht hW => ⟨⟨u, rfl, hp, by rw [ht]; exact hP, va_K.moved hW.alike hK, hD⟩, hS.F ht⟩) hS.2.2 hdg)
    (lv_entry avs hlen) hP (hD0.self (sz := s.heap.size)) va_S.rf
end JM
theorem jgood {c1 c2 : Cond} (h : c2 ∈ WS0) : GoodIn (c1 :: WS0) (c2 :: WS0) := fun w hw => by
  rcases List.mem_cons.mp hw with rfl | hw
  · exact ⟨List.mem_cons_of_mem _ h, good_of_word (ws0_good _ h)⟩
  · exact ⟨List.mem_cons_of_mem _ hw, good_of_word (ws0_good _ hw)⟩
theorem jgood0 {c2 : Cond} (h : c2 ∈ WS0) : GoodIn WS0 (c2 :: WS0) := fun w hw => by
  rcases List.mem_cons.mp hw with rfl | hw
  · exact ⟨h, good_of_word (ws0_good _ h)⟩
  · exact ⟨hw, good_of_word (ws0_good _ hw)⟩
theorem jcV {R : Room} {s : State} {args : Array Value} {own C : String} {idx : Nat} {y : MethodName} {bytes : ByteArray} {maxL n : Nat} {ret : Option FieldType} {rm : Room} (hw0 : ∀ w ∈ WS0, w.before args s = true) (k : jCalV y C bytes maxL ret n) (hl : Cond.methodLink own idx y ∈ WS0) (hrc : rm.cells = 0) (hrs : rm.slots = 0) (hR : rm.frames + 1 ≤ R.frames ∧ 8 + (maxL + 11) + rm.locals ≤ R.locals) :
    CallW R s args own C idx y bytes maxL ret (.code y bytes maxL ret :: WS0) rm 0 0 n := by
  obtain ⟨k1, k2, k3, k4, k5, k6⟩ := k
  exact ⟨callB_of n hw0 (jgood0 k4) rfl hrc hrs (by rw [k5]; exact hw0 _ k3) (hw0 _ hl) k6 hR, hw0 _ k1, hw0 _ k2⟩
theorem jcS {R : Room} {s : State} {args : Array Value} {own : String} {idx : Nat} {y : MethodName} {bytes : ByteArray} {maxL n : Nat} {ret : Option FieldType} {rm : Room} (hw0 : ∀ w ∈ WS0, w.before args s = true) (k : jCalS y bytes maxL ret n) (hl : Cond.methodLink own idx y ∈ WS0) (hrc : rm.cells = 0) (hrs : rm.slots = 0) (hR : rm.frames + 1 ≤ R.frames ∧ 8 + (maxL + 11) + rm.locals ≤ R.locals) :
    CallB R s args own idx y bytes maxL ret (.code y bytes maxL ret :: WS0) rm 0 0 n ∧ (Cond.static y).before args s = true := by
  obtain ⟨k1, k2, k3, k4⟩ := k
  exact ⟨callB_of n hw0 (jgood0 k3) rfl hrc hrs (hw0 _ k2) (hw0 _ hl) k4 hR, hw0 _ k1⟩
end
section
/-! pure rows: forms as lists; the sort by rank -/
/-- the n numbers of g from a on -/
def sg (g : Int → Int) : Int → Nat → List Int
  | _, 0 => []
  | a, n + 1 => g a :: sg g (a + 1) n
theorem sg_len (g : Int → Int) : ∀ (n : Nat) (a : Int), (sg g a n).length = n := by
  intro n
  induction n with
  | zero => intro a; rfl
  | succ n ih => intro a; show (sg g (a + 1) n).length + 1 = n + 1; rw [ih]
theorem sg_congr {g h : Int → Int} : ∀ (n : Nat) (a : Int), (∀ j, a ≤ j → j < a + n → g j = h j) → sg g a n = sg h a n := by
  intro n
  induction n with
  | zero => intro a _; rfl
  | succ n ih =>
    intro a H
    show g a :: sg g (a + 1) n = h a :: sg h (a + 1) n
    rw [H a (by omega) (by omega), ih (a + 1) (fun j h1 h2 => H j (by omega) (by omega))]
theorem sg_snoc (g : Int → Int) : ∀ (n : Nat) (a : Int), sg g a (n + 1) = sg g a n ++ [g (a + n)] := by
  intro n
  induction n with
  | zero => intro a; show [g a] = [g (a + 0)]; rw [Int.add_zero]
  | succ n ih =>
    intro a
    show g a :: sg g (a + 1) (n + 1) = (g a :: sg g (a + 1) n) ++ [g (a + (n + 1 : Nat))]
    rw [ih (a + 1), show a + 1 + (n : Int) = a + ((n + 1 : Nat) : Int) by omega]
    rfl
theorem sg_add (g : Int → Int) : ∀ (n m : Nat) (a : Int), sg g a (n + m) = sg g a n ++ sg g (a + n) m := by
  intro n
  induction n with
  | zero => intro m a; rw [Nat.zero_add]; show sg g a m = sg g (a + 0) m; rw [Int.add_zero]
  | succ n ih =>
    intro m a
    rw [show n + 1 + m = (n + m) + 1 by omega]
    show g a :: sg g (a + 1) (n + m) = g a :: (sg g (a + 1) n ++ sg g (a + (n + 1 : Nat)) m)
    rw [ih m (a + 1), show a + 1 + (n : Int) = a + ((n + 1 : Nat) : Int) by omega]
theorem sg_get {g : Int → Int} : ∀ (n : Nat) (a : Int) (k : Nat), k < n → (sg g a n)[k]? = some (g (a + k)) := by
  intro n
  induction n with
  | zero => intro a k h; omega
  | succ n ih =>
    intro a k h
    cases k with
    | zero => show some (g a) = some (g (a + 0)); rw [Int.add_zero]
    | succ k =>
      show (sg g (a + 1) n)[k]? = _
      rw [ih (a + 1) k (by omega), show a + 1 + (k : Int) = a + ((k + 1 : Nat) : Int) by omega]
theorem sg_mem {g : Int → Int} {x : Int} : ∀ (n : Nat) (a : Int), x ∈ sg g a n → ∃ j, a ≤ j ∧ j < a + n ∧ g j = x := by
  intro n
  induction n with
  | zero => intro a h; cases h
  | succ n ih =>
    intro a h
    rcases List.mem_cons.mp h with h | h
    · exact ⟨a, by omega, by omega, h.symm⟩
    · obtain ⟨j, h1, h2, h3⟩ := ih (a + 1) h
      exact ⟨j, by omega, by omega, h3⟩
/-- two rows of numbers that are one list agree place by place -/
theorem sg_inj {g h : Int → Int} : ∀ (n : Nat) (a : Int), sg g a n = sg h a n → ∀ j, a ≤ j → j < a + n → g j = h j := by
  intro n
  induction n with
  | zero => intro a _ j h1 h2; omega
  | succ n ih =>
    intro a H j h1 h2
    have H' : g a :: sg g (a + 1) n = h a :: sg h (a + 1) n := H
    rw [List.cons.injEq] at H'
    by_cases hj : j = a
    · rw [hj]; exact H'.1
    · exact ih (a + 1) H'.2 j (by omega) (by omega)
/-- a character goes into a reversed form: behind those of a greater rank -/
def insR (rk : Int → Int) (c : Int) : List Int → List Int
  | [] => [c]
  | x :: t => if 0 < rk c ∧ rk c < rk x then x :: insR rk c t else c :: x :: t
def srt (rk : Int → Int) (L l : List Int) : List Int := l.foldl (fun L c => insR rk c L) L
theorem insR_comm {rk : Int → Int} {x y : Int} (h1 : rk y < rk x) (h0 : 0 < rk y) : ∀ L : List Int, insR rk y (insR rk x L) = insR rk x (insR rk y L) := by
  intro L
  induction L with
  | nil =>
    show (if 0 < rk y ∧ rk y < rk x then x :: insR rk y [] else y :: [x]) = (if 0 < rk x ∧ rk x < rk y then y :: insR rk x [] else x :: [y])
    rw [if_pos ⟨h0, h1⟩, if_neg (by omega)]
    rfl
  | cons z t ih =>
    by_cases hx : rk x < rk z
    · have e1 : insR rk x (z :: t) = z :: insR rk x t := if_pos ⟨by omega, hx⟩
      have e2 : insR rk y (z :: t) = z :: insR rk y t := if_pos ⟨h0, by omega⟩
      have e3 : insR rk y (z :: insR rk x t) = z :: insR rk y (insR rk x t) := if_pos ⟨h0, by omega⟩
      have e4 : insR rk x (z :: insR rk y t) = z :: insR rk x (insR rk y t) := if_pos ⟨by omega, hx⟩
      rw [e1, e2, e3, e4, ih]
    · have e1 : insR rk x (z :: t) = x :: z :: t := if_neg (by omega)
      have e3 : insR rk y (x :: z :: t) = x :: insR rk y (z :: t) := if_pos ⟨h0, h1⟩
      rw [e1, e3]
      by_cases hy : rk y < rk z
      · have e2 : insR rk y (z :: t) = z :: insR rk y t := if_pos ⟨h0, hy⟩
        have e4 : insR rk x (z :: insR rk y t) = x :: z :: insR rk y t := if_neg (by omega)
        rw [e2, e4]
      · have e2 : insR rk y (z :: t) = y :: z :: t := if_neg (by omega)
        have e4 : insR rk x (y :: z :: t) = x :: y :: z :: t := if_neg (by omega)
        rw [e2, e4]
/-- one round of the neighbours' changing places, with the one that is carried -/
def pas (rk : Int → Int) : Int → List Int → List Int
  | c, [] => [c]
  | c, y :: t => if rk y < rk c ∧ 0 < rk y then y :: pas rk c t else c :: pas rk y t
def pass (rk : Int → Int) : List Int → List Int
  | [] => []
  | x :: t => pas rk x t
def rnds (rk : Int → Int) : Nat → List Int → List Int
  | 0, l => l
  | n + 1, l => rnds rk n (pass rk l)
theorem pas_len (rk : Int → Int) : ∀ (t : List Int) (c : Int), (pas rk c t).length = t.length + 1 := by
  intro t
  induction t with
  | nil => intro c; rfl
  | cons y t ih =>
    intro c
    show (if rk y < rk c ∧ 0 < rk y then y :: pas rk c t else c :: pas rk y t).length = _
    split
    · rw [List.length_cons, ih, List.length_cons]
    · rw [List.length_cons, ih, List.length_cons]
theorem pass_len (rk : Int → Int) (l : List Int) : (pass rk l).length = l.length := by
  cases l with
  | nil => rfl
  | cons x t => exact pas_len rk t x
theorem srt_pas (rk : Int → Int) : ∀ (t : List Int) (c : Int) (L : List Int), srt rk L (pas rk c t) = srt rk L (c :: t) := by
  intro t
  induction t with
  | nil => intro c L; rfl
  | cons y t ih =>
    intro c L
    show srt rk L (if rk y < rk c ∧ 0 < rk y then y :: pas rk c t else c :: pas rk y t) = _
    by_cases h : rk y < rk c ∧ 0 < rk y
    · rw [if_pos h]
      show srt rk (insR rk y L) (pas rk c t) = srt rk (insR rk y (insR rk c L)) t
      rw [ih, insR_comm h.1 h.2]
      rfl
    · rw [if_neg h]
      show srt rk (insR rk c L) (pas rk y t) = _
      rw [ih]
      rfl
theorem srt_rnds (rk : Int → Int) : ∀ (n : Nat) (L l : List Int), srt rk L (rnds rk n l) = srt rk L l := by
  intro n
  induction n with
  | zero => intro L l; rfl
  | succ n ih =>
    intro L l
    show srt rk L (rnds rk n (pass rk l)) = _
    rw [ih]
    cases l with
    | nil => rfl
    | cons x t => exact srt_pas rk t x L
/-- how many of the block stand in y's way -/
def cg (rk : Int → Int) (blk : List Int) (y : Int) : Nat := if 0 < rk y then (blk.filter (fun x => decide (rk y < rk x))).length else 0
def nx (rk : Int → Int) (c : Int) (blk : List Int) : List Int := if 0 < rk c then c :: blk else []
def dm (rk : Int → Int) : List Int → List Int → Nat
  | _, [] => 0
  | blk, y :: t => max (cg rk blk y) (dm rk (nx rk y blk) t)
theorem dm_perm (rk : Int → Int) : ∀ (t b1 b2 : List Int), b1.Perm b2 → dm rk b1 t = dm rk b2 t := by
  intro t
  induction t with
  | nil => intro b1 b2 _; rfl
  | cons y t ih =>
    intro b1 b2 h
    show max (cg rk b1 y) (dm rk (nx rk y b1) t) = max (cg rk b2 y) (dm rk (nx rk y b2) t)
    have e1 : cg rk b1 y = cg rk b2 y := by
      unfold cg
      rw [(h.filter _).length_eq]
    have e2 : (nx rk y b1).Perm (nx rk y b2) := by
      unfold nx
      split
      · exact h.cons y
      · exact List.Perm.refl _
    rw [e1, ih _ _ e2]
theorem cg_max {rk : Int → Int} {blk : List Int} {c : Int} (h : 0 < rk c → ∀ x ∈ blk, rk x ≤ rk c) : cg rk blk c = 0 := by
  unfold cg
  split
  · rename_i h0
    rw [List.length_eq_zero_iff, List.filter_eq_nil_iff]
    intro x hx
    have := h h0 x hx
    simp only [decide_eq_true_eq]
    omega
  · rfl
theorem dm_pas (rk : Int → Int) : ∀ (t : List Int) (c : Int) (blk : List Int), (0 < rk c → ∀ x ∈ blk, rk x ≤ rk c) → dm rk blk (pas rk c t) ≤ dm rk (nx rk c blk) t - 1 := by
  intro t
  induction t with
  | nil =>
    intro c blk h
    show max (cg rk blk c) 0 ≤ _
    rw [cg_max h]
    exact Nat.zero_le _
  | cons y t ih =>
    intro c blk h
    by_cases hs : rk y < rk c ∧ 0 < rk y
    · have e0 : pas rk c (y :: t) = y :: pas rk c t := if_pos hs
      have hc : 0 < rk c := by omega
      have e1 : nx rk c blk = c :: blk := if_pos hc
      have e2 : nx rk y blk = y :: blk := if_pos hs.2
      have e3 : nx rk y (c :: blk) = y :: c :: blk := if_pos hs.2
      have i1 := ih c (y :: blk) (fun _ x hx => by
        rcases List.mem_cons.mp hx with h1 | h1
        · rw [h1]; omega
        · exact h hc x h1)
      have e4 : nx rk c (y :: blk) = c :: y :: blk := if_pos hc
      rw [e4, dm_perm rk t _ _ (List.Perm.swap y c blk)] at i1
      have e5 : cg rk (c :: blk) y = cg rk blk y + 1 := by
        unfold cg
        rw [if_pos hs.2, if_pos hs.2, List.filter_cons, if_pos (by simp only [decide_eq_true_eq]; omega), List.length_cons]
      rw [e0, e1]
      show max (cg rk blk y) (dm rk (nx rk y blk) (pas rk c t)) ≤ max (cg rk (c :: blk) y) (dm rk (nx rk y (c :: blk)) t) - 1
      rw [e2, e3, e5]
      omega
    · have e0 : pas rk c (y :: t) = c :: pas rk y t := if_neg hs
      have i1 := ih y (nx rk c blk) (fun hy x hx => by
        unfold nx at hx
        split at hx
        · rename_i hc
          have hle : rk c ≤ rk y := by omega
          rcases List.mem_cons.mp hx with h1 | h1
          · rw [h1]; exact hle
          · have := h hc x h1
            omega
        · cases hx)
      rw [e0]
      show max (cg rk blk c) (dm rk (nx rk c blk) (pas rk y t)) ≤ max (cg rk (nx rk c blk) y) (dm rk (nx rk y (nx rk c blk)) t) - 1
      rw [cg_max h]
      omega
theorem dm_pass (rk : Int → Int) (l : List Int) : dm rk [] (pass rk l) ≤ dm rk [] l - 1 := by
  cases l with
  | nil => exact Nat.zero_le _
  | cons x t =>
    have h := dm_pas rk t x [] (fun _ z hz => by cases hz)
    have e : dm rk [] (x :: t) = dm rk (nx rk x []) t := by
      show max (cg rk [] x) (dm rk (nx rk x []) t) = _
      have : cg rk [] x = 0 := cg_max (fun _ z hz => by cases hz)
      rw [this]
      omega
    rw [e]
    exact h
theorem dm_rnds (rk : Int → Int) : ∀ (n : Nat) (l : List Int), dm rk [] (rnds rk n l) ≤ dm rk [] l - n := by
  intro n
  induction n with
  | zero => intro l; exact Nat.le_refl _
  | succ n ih =>
    intro l
    have h1 := ih (pass rk l)
    have h2 := dm_pass rk l
    show dm rk [] (rnds rk n (pass rk l)) ≤ _
    omega
theorem dm_le (rk : Int → Int) : ∀ (t blk : List Int), dm rk blk t ≤ blk.length + t.length := by
  intro t
  induction t with
  | nil => intro blk; exact Nat.zero_le _
  | cons y t ih =>
    intro blk
    have h1 : cg rk blk y ≤ blk.length := by
      unfold cg
      split
      · exact List.length_filter_le _ _
      · exact Nat.zero_le _
    have h2 := ih (nx rk y blk)
    have h3 : (nx rk y blk).length ≤ blk.length + 1 := by
      unfold nx
      split
      · exact Nat.le_refl _
      · exact Nat.zero_le _
    show max (cg rk blk y) (dm rk (nx rk y blk) t) ≤ blk.length + (t.length + 1)
    omega
theorem srt_dm0 (rk : Int → Int) : ∀ (t blk L : List Int), dm rk blk t = 0 → (∀ x s, L = x :: s → x ∈ blk ∨ rk x ≤ 0) → srt rk L t = t.reverse ++ L := by
  intro t
  induction t with
  | nil => intro blk L _ _; rfl
  | cons y t ih =>
    intro blk L h hL
    have h' : max (cg rk blk y) (dm rk (nx rk y blk) t) = 0 := h
    have h1 : cg rk blk y = 0 := by omega
    have h2 : dm rk (nx rk y blk) t = 0 := by omega
    have e : insR rk y L = y :: L := by
      cases L with
      | nil => rfl
      | cons x s =>
        refine if_neg (fun hc => ?_)
        rcases hL x s rfl with h3 | h3
        · unfold cg at h1
          rw [if_pos hc.1, List.length_eq_zero_iff, List.filter_eq_nil_iff] at h1
          exact h1 x h3 (by simp only [decide_eq_true_eq]; exact hc.2)
        · omega
    show srt rk (insR rk y L) t = _
    rw [e, ih (nx rk y blk) (y :: L) h2 (fun x s hx => ?_)]
    · simp
    · rw [List.cons.injEq] at hx
      rw [← hx.1]
      by_cases hy : 0 < rk y
      · left
        unfold nx
        rw [if_pos hy]
        exact List.mem_cons_self
      · right
        omega
/-- as many rounds as there are characters give the form that insertions give -/
theorem rnds_srt (rk : Int → Int) (l : List Int) : rnds rk l.length l = (srt rk [] l).reverse := by
  have h1 := dm_rnds rk l.length l
  have h2 := dm_le rk l []
  have h3 : dm rk [] (rnds rk l.length l) = 0 := by
    have : ([] : List Int).length = 0 := rfl
    omega
  have h4 := srt_dm0 rk (rnds rk l.length l) [] [] h3 (fun x s hx => by cases hx)
  rw [srt_rnds] at h4
  rw [h4]
  simp
end
section
/-! pure rows: what a character is parted into -/
/-- a syllable's parts -/
def syl (c : Int) : List Int := [40 + (c - 48) / 9, 43 + (c - 48) / 3 % 3] ++ (if c % 3 = 0 then [] else [45 + c % 3])
def ptf (fi se : Int → Int) : Nat → Int → List Int
  | 0, c => [c]
  | n + 1, c => if 47 < c then syl c else if c < 40 ∧ 0 ≤ fi c then ptf fi se n (fi c) ++ (if 0 ≤ se c then ptf fi se n (se c) else []) else [c]
/-- the nodes of a character's parting -/
def ndf (fi se : Int → Int) : Nat → Int → Nat
  | 0, _ => 1
  | n + 1, c => if 47 < c then 1 else if c < 40 ∧ 0 ≤ fi c then 1 + ndf fi se n (fi c) + (if 0 ≤ se c then ndf fi se n (se c) else 0) else 1
/-- how many parts, five standing for more than four -/
def kcf (fi se : Int → Int) : Nat → Int → Int
  | 0, _ => 1
  | n + 1, c => if 0 ≤ fi c then min 5 (kcf fi se n (fi c) + (if 0 ≤ se c then kcf fi se n (se c) else 0)) else 1
abbrev PT (fi se : Int → Int) (c : Int) : List Int := ptf fi se 75 c
abbrev ND (fi se : Int → Int) (c : Int) : Nat := ndf fi se 75 c
abbrev KC (fi se : Int → Int) (c : Int) : Int := kcf fi se 40 c
/-- the partings that part allows -/
def vpt (fi se : Int → Int) : Prop := ∀ c, 0 ≤ c → c < 40 → -1 ≤ fi c ∧ fi c < c ∧ -1 ≤ se c ∧ se c < c ∧ (fi c < 0 → se c < 0)
theorem ptf_stab {fi se : Int → Int} (h : vpt fi se) : ∀ (n m : Nat) (c : Int), 0 ≤ c → c < n → c < m → ptf fi se n c = ptf fi se m c := by
  intro n
  induction n with
  | zero => intro m c h0 h1; omega
  | succ n ih =>
    intro m c h0 h1 h2
    cases m with
    | zero => omega
    | succ m =>
      show (if 47 < c then syl c else if c < 40 ∧ 0 ≤ fi c then ptf fi se n (fi c) ++ (if 0 ≤ se c then ptf fi se n (se c) else []) else [c]) = (if 47 < c then syl c else if c < 40 ∧ 0 ≤ fi c then ptf fi se m (fi c) ++ (if 0 ≤ se c then ptf fi se m (se c) else []) else [c])
      by_cases hc : 47 < c
      · rw [if_pos hc, if_pos hc]
      · rw [if_neg hc, if_neg hc]
        by_cases hf : c < 40 ∧ 0 ≤ fi c
        · rw [if_pos hf, if_pos hf]
          have hv := h c h0 hf.1
          rw [ih m (fi c) hf.2 (by omega) (by omega)]
          by_cases hs : 0 ≤ se c
          · rw [if_pos hs, if_pos hs, ih m (se c) hs (by omega) (by omega)]
          · rw [if_neg hs, if_neg hs]
        · rw [if_neg hf, if_neg hf]
theorem ndf_stab {fi se : Int → Int} (h : vpt fi se) : ∀ (n m : Nat) (c : Int), 0 ≤ c → c < n → c < m → ndf fi se n c = ndf fi se m c := by
  intro n
  induction n with
  | zero => intro m c h0 h1; omega
  | succ n ih =>
    intro m c h0 h1 h2
    cases m with
    | zero => omega
    | succ m =>
      show (if 47 < c then 1 else if c < 40 ∧ 0 ≤ fi c then 1 + ndf fi se n (fi c) + (if 0 ≤ se c then ndf fi se n (se c) else 0) else 1) = (if 47 < c then 1 else if c < 40 ∧ 0 ≤ fi c then 1 + ndf fi se m (fi c) + (if 0 ≤ se c then ndf fi se m (se c) else 0) else 1)
      by_cases hc : 47 < c
      · rw [if_pos hc, if_pos hc]
      · rw [if_neg hc, if_neg hc]
        by_cases hf : c < 40 ∧ 0 ≤ fi c
        · rw [if_pos hf, if_pos hf]
          have hv := h c h0 hf.1
          rw [ih m (fi c) hf.2 (by omega) (by omega)]
          by_cases hs : 0 ≤ se c
          · rw [if_pos hs, if_pos hs, ih m (se c) hs (by omega) (by omega)]
          · rw [if_neg hs, if_neg hs]
        · rw [if_neg hf, if_neg hf]
theorem kcf_stab {fi se : Int → Int} (h : vpt fi se) : ∀ (n m : Nat) (c : Int), 0 ≤ c → c < 40 → c < n → c < m → kcf fi se n c = kcf fi se m c := by
  intro n
  induction n with
  | zero => intro m c h0 h9 h1; omega
  | succ n ih =>
    intro m c h0 h9 h1 h2
    cases m with
    | zero => omega
    | succ m =>
      show (if 0 ≤ fi c then min 5 (kcf fi se n (fi c) + (if 0 ≤ se c then kcf fi se n (se c) else 0)) else 1) = (if 0 ≤ fi c then min 5 (kcf fi se m (fi c) + (if 0 ≤ se c then kcf fi se m (se c) else 0)) else 1)
      have hv := h c h0 h9
      by_cases hf : 0 ≤ fi c
      · rw [if_pos hf, if_pos hf, ih m (fi c) hf (by omega) (by omega) (by omega)]
        by_cases hs : 0 ≤ se c
        · rw [if_pos hs, if_pos hs, ih m (se c) hs (by omega) (by omega) (by omega)]
        · rw [if_neg hs, if_neg hs]
      · rw [if_neg hf, if_neg hf]
theorem PT_syl {fi se : Int → Int} {c : Int} (h : 47 < c) : PT fi se c = syl c := if_pos h
theorem PT_own {fi se : Int → Int} {c : Int} (h : c ≤ 47) (h2 : 40 ≤ c ∨ fi c < 0) : PT fi se c = [c] := by
  show (if 47 < c then syl c else if c < 40 ∧ 0 ≤ fi c then _ else [c]) = _
  rw [if_neg (by omega), if_neg (by omega)]
theorem PT_parts {fi se : Int → Int} (h : vpt fi se) {c : Int} (h0 : 0 ≤ c) (h1 : c < 40) (hf : 0 ≤ fi c) : PT fi se c = PT fi se (fi c) ++ (if 0 ≤ se c then PT fi se (se c) else []) := by
  have hv := h c h0 h1
  show (if 47 < c then syl c else if c < 40 ∧ 0 ≤ fi c then ptf fi se 74 (fi c) ++ (if 0 ≤ se c then ptf fi se 74 (se c) else []) else [c]) = _
  rw [if_neg (by omega), if_pos ⟨h1, hf⟩, ptf_stab h 74 75 (fi c) hf (by omega) (by omega)]
  by_cases hs : 0 ≤ se c
  · rw [if_pos hs, if_pos hs, ptf_stab h 74 75 (se c) hs (by omega) (by omega)]
  · rw [if_neg hs, if_neg hs]
theorem ND_parts {fi se : Int → Int} (h : vpt fi se) {c : Int} (h0 : 0 ≤ c) (h1 : c < 40) (hf : 0 ≤ fi c) : ND fi se c = 1 + ND fi se (fi c) + (if 0 ≤ se c then ND fi se (se c) else 0) := by
  have hv := h c h0 h1
  show (if 47 < c then 1 else if c < 40 ∧ 0 ≤ fi c then 1 + ndf fi se 74 (fi c) + (if 0 ≤ se c then ndf fi se 74 (se c) else 0) else 1) = _
  rw [if_neg (by omega), if_pos ⟨h1, hf⟩, ndf_stab h 74 75 (fi c) hf (by omega) (by omega)]
  by_cases hs : 0 ≤ se c
  · rw [if_pos hs, if_pos hs, ndf_stab h 74 75 (se c) hs (by omega) (by omega)]
  · rw [if_neg hs, if_neg hs]
theorem ND_pos (fi se : Int → Int) (c : Int) : 1 ≤ ND fi se c := by
  show 1 ≤ (if 47 < c then 1 else if c < 40 ∧ 0 ≤ fi c then 1 + ndf fi se 74 (fi c) + (if 0 ≤ se c then ndf fi se 74 (se c) else 0) else 1)
  split
  · omega
  · split
    · omega
    · omega
theorem KC_none {fi se : Int → Int} {c : Int} (hf : fi c < 0) : KC fi se c = 1 := if_neg (by omega)
theorem KC_parts {fi se : Int → Int} (h : vpt fi se) {c : Int} (h0 : 0 ≤ c) (h1 : c < 40) (hf : 0 ≤ fi c) : KC fi se c = min 5 (KC fi se (fi c) + (if 0 ≤ se c then KC fi se (se c) else 0)) := by
  have hv := h c h0 h1
  show (if 0 ≤ fi c then min 5 (kcf fi se 39 (fi c) + (if 0 ≤ se c then kcf fi se 39 (se c) else 0)) else 1) = _
  rw [if_pos hf, kcf_stab h 39 40 (fi c) hf (by omega) (by omega) (by omega)]
  by_cases hs : 0 ≤ se c
  · rw [if_pos hs, if_pos hs, kcf_stab h 39 40 (se c) hs (by omega) (by omega) (by omega)]
  · rw [if_neg hs, if_neg hs]
theorem PT_ne {fi se : Int → Int} : ∀ (n : Nat) (c : Int), ptf fi se n c ≠ [] := by
  intro n
  induction n with
  | zero => intro c h; cases h
  | succ n ih =>
    intro c
    show (if 47 < c then syl c else if c < 40 ∧ 0 ≤ fi c then ptf fi se n (fi c) ++ (if 0 ≤ se c then ptf fi se n (se c) else []) else [c]) ≠ []
    split
    · intro h; cases h
    · split
      · intro h
        exact ih (fi c) (List.append_eq_nil_iff.mp h).1
      · intro h; cases h
/-- where no character has more than four parts -/
theorem PT_len {fi se : Int → Int} (h : vpt fi se) (hk : ∀ c, 0 ≤ c → c < 40 → KC fi se c ≤ 4) : ∀ (n : Nat) (c : Int), 0 ≤ c → c < n → c < 40 → ((PT fi se c).length : Int) = KC fi se c := by
  intro n
  induction n with
  | zero => intro c h0 h1; omega
  | succ n ih =>
    intro c h0 h1 h2
    have hv := h c h0 h2
    by_cases hf : 0 ≤ fi c
    · have hc := hk c h0 h2
      have i1 := ih (fi c) hf (by omega) (by omega)
      rw [KC_parts h h0 h2 hf] at hc ⊢
      rw [PT_parts h h0 h2 hf, List.length_append]
      by_cases hs : 0 ≤ se c
      · have i2 := ih (se c) hs (by omega) (by omega)
        rw [if_pos hs] at hc ⊢
        rw [if_pos hs]
        omega
      · rw [if_neg hs] at hc ⊢
        rw [if_neg hs]
        have : ([] : List Int).length = 0 := rfl
        omega
    · rw [KC_none (by omega), PT_own (by omega) (Or.inr (by omega))]
      rfl
theorem PT_le4 {fi se : Int → Int} (h : vpt fi se) (hk : ∀ c, 0 ≤ c → c < 40 → KC fi se c ≤ 4) {c : Int} (h0 : 0 ≤ c) (h1 : c < 75) : (PT fi se c).length ≤ 4 := by
  by_cases h4 : c < 40
  · have := PT_len h hk 75 c h0 (by omega) h4
    have := hk c h0 h4
    omega
  · by_cases h7 : 47 < c
    · rw [PT_syl h7]
      unfold syl
      split <;> simp
    · rw [PT_own (by omega) (Or.inl (by omega))]
      simp
theorem PT_rng {fi se : Int → Int} (h : vpt fi se) : ∀ (n : Nat) (c : Int), 0 ≤ c → c < n → c < 75 → ∀ x ∈ PT fi se c, 0 ≤ x ∧ x < 48 := by
  intro n
  induction n with
  | zero => intro c h0 h1; omega
  | succ n ih =>
    intro c h0 h1 h2 x hx
    by_cases h7 : 47 < c
    · rw [PT_syl h7] at hx
      unfold syl at hx
      split at hx
      · simp at hx; omega
      · simp at hx; omega
    · by_cases hf : c < 40 ∧ 0 ≤ fi c
      · have hv := h c h0 hf.1
        rw [PT_parts h h0 hf.1 hf.2] at hx
        rcases List.mem_append.mp hx with h3 | h3
        · exact ih (fi c) hf.2 (by omega) (by omega) x h3
        · split at h3
          · rename_i hs
            exact ih (se c) hs (by omega) (by omega) x h3
          · cases h3
      · rw [PT_own (by omega) (by omega)] at hx
        simp at hx
        omega
end
section
/-! pure rows: rows of numbers read from their ends; joins; keys -/
/-- the first n numbers of g, the last one first -/
def rsg (g : Int → Int) : Nat → List Int
  | 0 => []
  | n + 1 => g (n : Int) :: rsg g n
theorem rsg_sg (g : Int → Int) : ∀ n : Nat, rsg g n = (sg g 0 n).reverse := by
  intro n
  induction n with
  | zero => rfl
  | succ n ih =>
    rw [sg_snoc, List.reverse_append, ← ih, Int.zero_add]
    rfl
theorem sg_rsg (g : Int → Int) (n : Nat) : sg g 0 n = (rsg g n).reverse := by
  rw [rsg_sg, List.reverse_reverse]
theorem rsg_len (g : Int → Int) (n : Nat) : (rsg g n).length = n := by
  rw [rsg_sg, List.length_reverse, sg_len]
theorem rsg_congr {g h : Int → Int} : ∀ n : Nat, (∀ j : Int, 0 ≤ j → j < n → g j = h j) → rsg g n = rsg h n := by
  intro n H
  rw [rsg_sg, rsg_sg, sg_congr n 0 (fun j h1 h2 => H j h1 (by omega))]
theorem rsg_inj {g h : Int → Int} (n : Nat) (e : rsg g n = rsg h n) : ∀ j : Int, 0 ≤ j → j < n → g j = h j := by
  intro j h1 h2
  rw [rsg_sg, rsg_sg] at e
  have e2 := congrArg List.reverse e
  rw [List.reverse_reverse, List.reverse_reverse] at e2
  exact sg_inj n 0 e2 j h1 (by omega)
theorem rsg_mem {g : Int → Int} {x : Int} {n : Nat} (h : x ∈ rsg g n) : ∃ j : Int, 0 ≤ j ∧ j < n ∧ g j = x := by
  rw [rsg_sg, List.mem_reverse] at h
  obtain ⟨j, h1, h2, h3⟩ := sg_mem n 0 h
  exact ⟨j, h1, by omega, h3⟩
theorem rsg_in {g : Int → Int} : ∀ {n : Nat} {j : Int}, 0 ≤ j → j < n → g j ∈ rsg g n := by
  intro n
  induction n with
  | zero => intro j h1 h2; omega
  | succ n ih =>
    intro j h1 h2
    by_cases hj : j = n
    · rw [hj]; exact List.mem_cons_self
    · exact List.mem_cons_of_mem _ (ih h1 (by omega))
/-- c is put behind the n first -/
theorem rsg_push {g : Int → Int} {n : Nat} {c : Int} : rsg (uI g n c) (n + 1) = c :: rsg g n := by
  show uI g n c n :: rsg (uI g n c) n = _
  rw [uI_s, rsg_congr n (fun j h1 h2 => uI_n (by omega))]
/-- the joined form, reversed: c comes behind L -/
def jgo (rk : Int → Int) (jn : Int → Int → Int) (c : Int) : List Int → Option (List Int)
  | [] => none
  | x :: t => if rk x = 0 then (if 0 ≤ jn x c then some (jn x c :: t) else none) else if rk c ≤ rk x then none else (jgo rk jn c t).map (fun z => x :: z)
def jst (rk : Int → Int) (jn : Int → Int → Int) (L : List Int) (c : Int) : List Int := (jgo rk jn c L).getD (c :: L)
def jnL (rk : Int → Int) (jn : Int → Int → Int) (L l : List Int) : List Int := l.foldl (jst rk jn) L
theorem jgo_len {rk : Int → Int} {jn : Int → Int → Int} {c : Int} : ∀ {L L' : List Int}, jgo rk jn c L = some L' → L'.length = L.length := by
  intro L
  induction L with
  | nil => intro L' h; cases h
  | cons x t ih =>
    intro L' h
    have h' : (if rk x = 0 then (if 0 ≤ jn x c then some (jn x c :: t) else none) else if rk c ≤ rk x then none else (jgo rk jn c t).map (fun z => x :: z)) = some L' := h
    split at h'
    · split at h'
      · cases h'; rfl
      · cases h'
    · split at h'
      · cases h'
      · cases hg : jgo rk jn c t with
        | none => rw [hg] at h'; cases h'
        | some z =>
          rw [hg] at h'
          cases h'
          show z.length + 1 = t.length + 1
          rw [ih hg]
/-- the numbers of the key of a form l for the weight w -/
def kw (w : Int → Int) (l : List Int) : List Int := (l.map w).filter (fun x => decide (x ≠ 0))
def keyL (w0 w1 w2 : Int → Int) (l : List Int) : List Int := kw w0 l ++ 0 :: kw w1 l ++ 0 :: kw w2 l
/-- the order of two keys -/
def cmpL : List Int → List Int → Int
  | [], [] => 0
  | [], _ :: _ => -1
  | _ :: _, [] => 1
  | x :: s, y :: t => if x = y then cmpL s t else if x < y then -1 else 1
theorem cmpL_0 : ∀ (s t : List Int), cmpL s t = 0 ↔ s = t := by
  intro s
  induction s with
  | nil => intro t; cases t with
    | nil => exact ⟨fun _ => rfl, fun _ => rfl⟩
    | cons y t => exact ⟨fun h => (by cases h), fun h => (by cases h)⟩
  | cons x s ih =>
    intro t
    cases t with
    | nil => exact ⟨fun h => (by cases h), fun h => (by cases h)⟩
    | cons y t =>
      show (if x = y then cmpL s t else if x < y then -1 else 1) = 0 ↔ _
      by_cases h : x = y
      · rw [if_pos h, ih t, h]
        exact ⟨fun e => by rw [e], fun e => (List.cons.inj e).2⟩
      · rw [if_neg h]
        refine ⟨fun e => ?_, fun e => absurd (List.cons.inj e).1 h⟩
        split at e <;> cases e
end
section
def pM (cI : ClassId) (cZ : ClassId) (cG : ClassId) (cR : ClassId) (ad : Nat → Nat) (th : Int) (tb : Int → Int) (fi : Int → Int) (se : Int → Int) (lf : Int → Int) (ct : Int → Int) (ln : Int) (tx : Int → Int) (kl : Int → Int) (kp : Int → Int) (fl : Int) (fo : Int → Int) (ol : Int) (ot : Int → Int) (pl : Int → Int) (ky : Int) (nu : Int → Int) (yk : Int) (yn : Int → Int) (lc : Int → Int) (fw : Int → Int) (sd : Int → Int) (lw : Int → Int) (od : Int → Int) : va_W := [(ad 0, .inr (5, [.int (iv th), .ref (ad 1), .ref (ad 2), .ref (ad 3), .ref (ad 4), .ref (ad 5), .int (iv ln), .ref (ad 7), .ref (ad 8), .ref (ad 9), .int (iv fl), .ref (ad 11), .int (iv ol), .ref (ad 13), .ref (ad 14), .int (iv ky), .ref (ad 16), .int (iv yk), .ref (ad 18), .ref (ad 19), .ref (ad 20), .ref (ad 21), .ref (ad 22), .ref (ad 23)])), (ad 1, .inl (cI, 280, .inl (av tb))), (ad 2, .inl (cI, 40, .inl (av fi))), (ad 3, .inl (cI, 40, .inl (av se))), (ad 4, .inl (cZ, 40, .inl (av lf))), (ad 5, .inl (cI, 40, .inl (av ct))), (ad 7, .inl (cI, 40, .inl (av tx))), (ad 8, .inl (cI, 4, .inl (av kl))), (ad 9, .inl (cI, 160, .inl (av kp))), (ad 11, .inl (cI, 170, .inl (av fo))), (ad 13, .inl (cI, 170, .inl (av ot))), (ad 14, .inl (cI, 12, .inl (av pl))), (ad 16, .inl (cI, 520, .inl (av nu))), (ad 18, .inl (cI, 520, .inl (av yn))), (ad 19, .inl (cI, 40, .inl (av lc))), (ad 20, .inl (cZ, 40, .inl (av fw))), (ad 21, .inl (cI, 42, .inl (av sd))), (ad 22, .inl (cI, 40, .inl (av lw))), (ad 23, .inl (cI, 40, .inl (av od)))]
def TBK (tb : Int → Int) : Prop := ∀ c, 0 ≤ c → c < 40 → (0 ≤ tb c ∧ tb c ≤ 254) ∧ (0 ≤ tb (40 + c) ∧ tb (40 + c) ≤ 9) ∧ (0 ≤ tb (80 + c) ∧ tb (80 + c) ≤ 12) ∧ (0 ≤ tb (120 + c) ∧ tb (120 + c) ≤ 11) ∧ (0 ≤ tb (160 + c) ∧ tb (160 + c) ≤ 999) ∧ (0 ≤ tb (200 + c) ∧ tb (200 + c) ≤ 999) ∧ (0 ≤ tb (240 + c) ∧ tb (240 + c) ≤ 999)
def rkM (tb : Int → Int) (c : Int) : Int := if c < 40 then tb c else 0
def czM (tb : Int → Int) (c : Int) : Int := if c < 40 then tb (40 + c) else 0
def lzM (tb : Int → Int) (c : Int) : Int := if c < 40 then tb (80 + c) else 10
def szM (tb : Int → Int) (c : Int) : Int := if c < 40 then tb (120 + c) else 0
def wtM (tb : Int → Int) (k c : Int) : Int := if c < 40 then tb (160 + 40 * k + c) else if k = 0 then 1000 + c else 1
theorem rkM_rng {tb : Int → Int} (h : TBK tb) {c : Int} (h0 : 0 ≤ c) : 0 ≤ rkM tb c ∧ rkM tb c ≤ 254 := by
  unfold rkM
  split
  · exact (h c h0 (by omega)).1
  · omega
theorem czM_rng {tb : Int → Int} (h : TBK tb) {c : Int} (h0 : 0 ≤ c) : 0 ≤ czM tb c ∧ czM tb c ≤ 9 := by
  unfold czM
  split
  · exact (h c h0 (by omega)).2.1
  · omega
theorem lzM_rng {tb : Int → Int} (h : TBK tb) {c : Int} (h0 : 0 ≤ c) : 0 ≤ lzM tb c ∧ lzM tb c ≤ 12 := by
  unfold lzM
  split
  · exact (h c h0 (by omega)).2.2.1
  · omega
theorem szM_rng {tb : Int → Int} (h : TBK tb) {c : Int} (h0 : 0 ≤ c) : 0 ≤ szM tb c ∧ szM tb c ≤ 11 := by
  unfold szM
  split
  · exact (h c h0 (by omega)).2.2.2.1
  · omega
theorem wtM_rng {tb : Int → Int} (h : TBK tb) {k c : Int} (h0 : 0 ≤ c) (h9 : c < 75) (hk : 0 ≤ k ∧ k < 3) : 0 ≤ wtM tb k c ∧ wtM tb k c ≤ 1074 := by
  unfold wtM
  split
  · have := h c h0 (by omega)
    rcases (show k = 0 ∨ k = 1 ∨ k = 2 by omega) with rfl | rfl | rfl
    · have e : (160 + 40 * 0 + c : Int) = 160 + c := by omega
      rw [e]; omega
    · have e : (160 + 40 * 1 + c : Int) = 200 + c := by omega
      rw [e]; omega
    · have e : (160 + 40 * 2 + c : Int) = 240 + c := by omega
      rw [e]; omega
  · split <;> omega
def setOK (c w v : Int) : Prop := 0 ≤ c ∧ c ≤ 39 ∧ 0 ≤ w ∧ w ≤ 6 ∧ 0 ≤ v ∧ ((w = 0 ∧ v ≤ 254) ∨ (w = 1 ∧ v ≤ 9) ∨ (w = 2 ∧ v ≤ 12) ∨ (w = 3 ∧ v ≤ 11) ∨ (4 ≤ w ∧ v ≤ 999))
def partOK (c a b : Int) : Prop := 0 ≤ c ∧ c ≤ 39 ∧ -1 ≤ a ∧ a < c ∧ -1 ≤ b ∧ b < c ∧ (a < 0 → b < 0)
theorem all_succ {P : Int → Prop} {c : Int} (h : ∀ j, 0 ≤ j → j < c → P j) (h1 : P c) : ∀ j, 0 ≤ j → j < c + 1 → P j := fun j a b => by
  by_cases e : j = c
  · rw [e]; exact h1
  · exact h j a (by omega)
theorem KC_step {fi se : Int → Int} (h : vpt fi se) {c x y : Int} (h0 : 0 ≤ c) (h1 : c < 40) (hx : (fi c < 0 ∧ x = 1) ∨ (0 ≤ fi c ∧ se c < 0 ∧ x = KC fi se (fi c)) ∨ (0 ≤ fi c ∧ 0 ≤ se c ∧ x = KC fi se (fi c) + KC fi se (se c))) (hy : (x ≤ 5 ∧ y = x) ∨ (5 < x ∧ y = 5)) : y = KC fi se c := by
  rcases hx with ⟨a, b⟩ | ⟨a, b, d⟩ | ⟨a, b, d⟩
  · rw [KC_none a]; omega
  · rw [KC_parts h h0 h1 a, if_neg (by omega)]; omega
  · rw [KC_parts h h0 h1 a, if_pos b]; omega
theorem KC_rng {fi se : Int → Int} (h : vpt fi se) : ∀ (n : Nat) (c : Int), 0 ≤ c → c < n → c < 40 → 1 ≤ KC fi se c ∧ KC fi se c ≤ 5 := by
  intro n
  induction n with
  | zero => intro c h0 h1; omega
  | succ n ih =>
    intro c h0 h1 h2
    have hv := h c h0 h2
    by_cases hf : 0 ≤ fi c
    · rw [KC_parts h h0 h2 hf]
      have i1 := ih (fi c) hf (by omega) (by omega)
      split
      · rename_i hs
        have i2 := ih (se c) hs (by omega) (by omega)
        omega
      · omega
    · rw [KC_none (by omega)]; omega
set_option maxRecDepth 100000 in
set_option maxHeartbeats 4000000 in
theorem c_M_thrown (l : Launch) (dC : Nat → ClassId) (dI : Nat → Nat → Nat) (cI : ClassId) (cZ : ClassId) (cG : ClassId) (cR : ClassId) (ad : Nat → Nat) (th : Int) (tb : Int → Int) (fi : Int → Int) (se : Int → Int) (lf : Int → Int) (ct : Int → Int) (ln : Int) (tx : Int → Int) (kl : Int → Int) (kp : Int → Int) (fl : Int) (fo : Int → Int) (ol : Int) (ot : Int → Int) (pl : Int → Int) (ky : Int) (nu : Int → Int) (yk : Int) (yn : Int → Int) (lc : Int → Int) (fw : Int → Int) (sd : Int → Int) (lw : Int → Int) (od : Int → Int) (sz : Nat) : Met l yM_thrown wsM_thrown ({ frames := 0, cells := 0, slots := 0, locals := 0 }) (va_Pc [.ref (ad 0)] (jPre (dC, dI) (jT cI cZ cG cR) (pM cI cZ cG cR ad th tb fi se lf ct ln tx kl kp fl fo ol ot pl ky nu yk yn lc fw sd lw od) sz)) (va_Qi (fun (r0 : Int32) (u : Int) => r0 = iv u ∧ (u = th)) (fun u => jEnd (dC, dI) (jT cI cZ cG cR) (va_A (pM cI cZ cG cR ad th tb fi se lf ct ln tx kl kp fl fo ol ot pl ky nu yk yn lc fw sd lw od) sz) (pM cI cZ cG cR ad th tb fi se lf ct ln tx kl kp fl fo ol ot pl ky nu yk yn lc fw sd lw od)) (va_A (pM cI cZ cG cR ad th tb fi se lf ct ln tx kl kp fl fo ol ot pl ky nu yk yn lc fw sd lw od) sz)) 0 0 (va_A (pM cI cZ cG cR ad th tb fi se lf ct ln tx kl kp fl fo ol ot pl ky nu yk yn lc fw sd lw od) sz) := by
  refine jv_mi (cc := cM_thrown) (maxL := 1) (by decide) rfl (Nat.le_of_ble_eq_true rfl) ?_
  intro p0 e0 s0 m0 a0 b0 t0 c0 R0 Q0 A0 ls hx hb hts hown hml hRf hRl hA hK hret hl hP hD hS
  have hown : s0.vm.findClass "TextPipelineModel" = some m0.cls := hown
  have hw0 : ∀ w ∈ WS0, w.before a0 s0 = true := fun w h => hts w (List.mem_cons_of_mem _ h)
  have hl : lv_has ls 1 [(0, .ref (ad 0))] := hl
  have hRf : 0 ≤ R0.frames := hRf
  have hRl : 0 ≤ R0.locals := hRl
  refine lv_aload_n (pc := 0) hx hb dM_thrown_0 rfl (lv_at hl 0 rfl) ?_
  refine va_get (pc := 1) (D := (dC, dI)) (ci := 5) (v := .int (iv th)) (C := RM) (T := TM) (N := 24) hx hb hw0 inM hown hK hP 0 rfl rfl 0 (by decide) (hw0 _ q651) (fun _ h9 => h9) rfl dM_thrown_1 ?_
  exact hret _ (th) dM_thrown_4 ⟨rfl, by omega⟩ hP hD hS
set_option maxRecDepth 100000 in
set_option maxHeartbeats 4000000 in
theorem c_M_property (l : Launch) (dC : Nat → ClassId) (dI : Nat → Nat → Nat) (cI : ClassId) (cZ : ClassId) (cG : ClassId) (cR : ClassId) (ad : Nat → Nat) (th : Int) (tb : Int → Int) (fi : Int → Int) (se : Int → Int) (lf : Int → Int) (ct : Int → Int) (ln : Int) (tx : Int → Int) (kl : Int → Int) (kp : Int → Int) (fl : Int) (fo : Int → Int) (ol : Int) (ot : Int → Int) (pl : Int → Int) (ky : Int) (nu : Int → Int) (yk : Int) (yn : Int → Int) (lc : Int → Int) (fw : Int → Int) (sd : Int → Int) (lw : Int → Int) (od : Int → Int) (sz : Nat) (c : Int) (w : Int) (hp : 0 ≤ c ∧ c < 40 ∧ 0 ≤ w ∧ w < 7) : Met l yM_property wsM_property ({ frames := 0, cells := 0, slots := 0, locals := 0 }) (va_Pc [.ref (ad 0), .int (iv c), .int (iv w)] (jPre (dC, dI) (jT cI cZ cG cR) (pM cI cZ cG cR ad th tb fi se lf ct ln tx kl kp fl fo ol ot pl ky nu yk yn lc fw sd lw od) sz)) (va_Qi (fun (r0 : Int32) (u : Int) => r0 = iv u ∧ (u = tb (40 * w + c))) (fun u => jEnd (dC, dI) (jT cI cZ cG cR) (va_A (pM cI cZ cG cR ad th tb fi se lf ct ln tx kl kp fl fo ol ot pl ky nu yk yn lc fw sd lw od) sz) (pM cI cZ cG cR ad th tb fi se lf ct ln tx kl kp fl fo ol ot pl ky nu yk yn lc fw sd lw od)) (va_A (pM cI cZ cG cR ad th tb fi se lf ct ln tx kl kp fl fo ol ot pl ky nu yk yn lc fw sd lw od) sz)) 0 0 (va_A (pM cI cZ cG cR ad th tb fi se lf ct ln tx kl kp fl fo ol ot pl ky nu yk yn lc fw sd lw od) sz) := by
  refine jv_mi (cc := cM_property) (maxL := 3) (by decide) rfl (Nat.le_of_ble_eq_true rfl) ?_
  intro p0 e0 s0 m0 a0 b0 t0 c0 R0 Q0 A0 ls hx hb hts hown hml hRf hRl hA hK hret hl hP hD hS
  have hown : s0.vm.findClass "TextPipelineModel" = some m0.cls := hown
  have hw0 : ∀ w ∈ WS0, w.before a0 s0 = true := fun w h => hts w (List.mem_cons_of_mem _ h)
  have hl : lv_has ls 3 [(0, .ref (ad 0)), (1, .int (iv c)), (2, .int (iv w))] := hl
  have hRf : 0 ≤ R0.frames := hRf
  have hRl : 0 ≤ R0.locals := hRl
  refine lv_aload_n (pc := 0) hx hb dM_property_0 rfl (lv_at hl 0 rfl) ?_
  refine va_get (pc := 1) (D := (dC, dI)) (ci := 5) (v := .ref (ad 1)) (C := RM) (T := TM) (N := 24) hx hb hw0 inM hown hK hP 0 rfl rfl 1 (by decide) (hw0 _ q652) (fun _ h9 => h9) rfl dM_property_1 ?_
  refine lv_bipush (pc := 4) (v := iv 40) hx hb dM_property_4 (by decide) ?_
  refine lv_iload_n (pc := 6) hx hb dM_property_6 rfl (lv_at hl 2 rfl) ?_
  refine jv_imul (pc := 7) (x := 40) (y := w) hx hb dM_property_7 ?_
  refine lv_iload_n (pc := 8) hx hb dM_property_8 rfl (lv_at hl 1 rfl) ?_
  refine jv_iadd (pc := 9) (x := 40 * w) (y := c) hx hb dM_property_9 ?_
  refine jv_iald (pc := 10) hx hb hK hP 1 0 rfl rfl (by decide) (by omega) dM_property_10 ?_
  exact hret _ (tb ((40 * w) + c)) dM_property_11 ⟨rfl, by rfl⟩ hP hD hS
set_option maxRecDepth 100000 in
set_option maxHeartbeats 4000000 in
theorem c_M_rank (l : Launch) (dC : Nat → ClassId) (dI : Nat → Nat → Nat) (cI : ClassId) (cZ : ClassId) (cG : ClassId) (cR : ClassId) (ad : Nat → Nat) (th : Int) (tb : Int → Int) (fi : Int → Int) (se : Int → Int) (lf : Int → Int) (ct : Int → Int) (ln : Int) (tx : Int → Int) (kl : Int → Int) (kp : Int → Int) (fl : Int) (fo : Int → Int) (ol : Int) (ot : Int → Int) (pl : Int → Int) (ky : Int) (nu : Int → Int) (yk : Int) (yn : Int → Int) (lc : Int → Int) (fw : Int → Int) (sd : Int → Int) (lw : Int → Int) (od : Int → Int) (sz : Nat) (c : Int) (hp : 0 ≤ c ∧ c < 75) (hT : TBK tb) : Met l yM_rank wsM_rank ({ frames := 1, cells := 0, slots := 0, locals := 22 }) (va_Pc [.ref (ad 0), .int (iv c)] (jPre (dC, dI) (jT cI cZ cG cR) (pM cI cZ cG cR ad th tb fi se lf ct ln tx kl kp fl fo ol ot pl ky nu yk yn lc fw sd lw od) sz)) (va_Qi (fun (r0 : Int32) (u : Int) => r0 = iv u ∧ (u = rkM tb c ∧ 0 ≤ u ∧ u ≤ 254)) (fun u => jEnd (dC, dI) (jT cI cZ cG cR) (va_A (pM cI cZ cG cR ad th tb fi se lf ct ln tx kl kp fl fo ol ot pl ky nu yk yn lc fw sd lw od) sz) (pM cI cZ cG cR ad th tb fi se lf ct ln tx kl kp fl fo ol ot pl ky nu yk yn lc fw sd lw od)) (va_A (pM cI cZ cG cR ad th tb fi se lf ct ln tx kl kp fl fo ol ot pl ky nu yk yn lc fw sd lw od) sz)) 0 0 (va_A (pM cI cZ cG cR ad th tb fi se lf ct ln tx kl kp fl fo ol ot pl ky nu yk yn lc fw sd lw od) sz) := by
  refine jv_mi (cc := cM_rank) (maxL := 2) (by decide) rfl (Nat.le_of_ble_eq_true rfl) ?_
  intro p0 e0 s0 m0 a0 b0 t0 c0 R0 Q0 A0 ls hx hb hts hown hml hRf hRl hA hK hret hl hP hD hS
  have hown : s0.vm.findClass "TextPipelineModel" = some m0.cls := hown
  have hw0 : ∀ w ∈ WS0, w.before a0 s0 = true := fun w h => hts w (List.mem_cons_of_mem _ h)
  have hl : lv_has ls 2 [(0, .ref (ad 0)), (1, .int (iv c))] := hl
  have hRf : 1 ≤ R0.frames := hRf
  have hRl : 22 ≤ R0.locals := hRl
  refine lv_iload_n (pc := 0) hx hb dM_rank_0 rfl (lv_at hl 1 rfl) ?_
  refine lv_bipush (pc := 1) (v := iv 40) hx hb dM_rank_1 (by decide) ?_
  refine jv_icmp_ge (pc := 3) (tgt := 15) hx hb dM_rank_3 (by decide) (by omega) (by decide) (fun h1 => ?_) (fun h1 => ?_)
  · skip
    refine lv_iconst (pc := 15) (v := iv 0) hx hb dM_rank_15 rfl ?_
    exact hret _ (0) dM_rank_16 ⟨rfl, by have h9 := rkM_rng hT (c := c) (by omega); first | (have hq : r_9 = rkM tb c := (by unfold rkM; rw [if_pos (by omega), hw9]; congr 1; try omega); exact ⟨hq, by omega⟩) | (have hq : (0 : Int) = rkM tb c := (by unfold rkM; rw [if_neg (by omega)]); exact ⟨hq, by omega⟩)⟩ hP hD hS
  refine lv_aload_n (pc := 6) hx hb dM_rank_6 rfl (lv_at hl 0 rfl) ?_
  refine lv_iload_n (pc := 7) hx hb dM_rank_7 rfl (lv_at hl 1 rfl) ?_
  refine lv_iconst (pc := 8) (v := iv 0) hx hb dM_rank_8 rfl ?_
  refine jv_ri (pc := 9) (wr := []) (wn := fun u : Int => (pM cI cZ cG cR ad th tb fi se lf ct ln tx kl kp fl fo ol ot pl ky nu yk yn lc fw sd lw od)) (va_runV (rest := []) ⟨hx, hb, hml, hown, hw0⟩ (c_M_property l dC dI cI cZ cG cR ad th tb fi se lf ct ln tx kl kp fl fo ol ot pl ky nu yk yn lc fw sd lw od _ c 0 (by omega)) (jcV hw0 kM_property q780 rfl rfl ⟨Nat.le_trans (Nat.le_of_ble_eq_true rfl) hRf, Nat.le_trans (Nat.le_of_ble_eq_true rfl) hRl⟩) (jv_preV (ci := 5) (q0 := 0) hK hP hD [0, 1, 2, 3, 4, 5, 6, 7, 8, 9, 10, 11, 12, 13, 14, 15, 16, 17, 18] rfl (by decide) rfl rfl) rfl rfl hl.1 rfl (lv_room (Nat.le_of_ble_eq_true rfl)) dM_rank_9 ⟨Nat.zero_le _, Nat.zero_le _⟩) hP hD hS hA [0, 1, 2, 3, 4, 5, 6, 7, 8, 9, 10, 11, 12, 13, 14, 15, 16, 17, 18] [] [0, 1, 2, 3, 4, 5, 6, 7, 8, 9, 10, 11, 12, 13, 14, 15, 16, 17, 18] rfl rfl (by decide) (by decide) (by decide) (fun _ => rfl) (fun r0 u H locs hw9 hP hD hS => ?_)
  obtain ⟨r_9, hu⟩ : ∃ z, z = u := ⟨_, rfl⟩; subst hu
  obtain ⟨rfl, hw9⟩ := hw9
  refine lv_goto (pc := 12) (tgt := 16) hx hb dM_rank_12 (by decide) ?_
  exact hret _ (r_9) dM_rank_16 ⟨rfl, by have h9 := rkM_rng hT (c := c) (by omega); first | (have hq : r_9 = rkM tb c := (by unfold rkM; rw [if_pos (by omega), hw9]; congr 1; try omega); exact ⟨hq, by omega⟩) | (have hq : (0 : Int) = rkM tb c := (by unfold rkM; rw [if_neg (by omega)]); exact ⟨hq, by omega⟩)⟩ hP hD hS
set_option maxRecDepth 100000 in
set_option maxHeartbeats 4000000 in
theorem c_M_clusterOf (l : Launch) (dC : Nat → ClassId) (dI : Nat → Nat → Nat) (cI : ClassId) (cZ : ClassId) (cG : ClassId) (cR : ClassId) (ad : Nat → Nat) (th : Int) (tb : Int → Int) (fi : Int → Int) (se : Int → Int) (lf : Int → Int) (ct : Int → Int) (ln : Int) (tx : Int → Int) (kl : Int → Int) (kp : Int → Int) (fl : Int) (fo : Int → Int) (ol : Int) (ot : Int → Int) (pl : Int → Int) (ky : Int) (nu : Int → Int) (yk : Int) (yn : Int → Int) (lc : Int → Int) (fw : Int → Int) (sd : Int → Int) (lw : Int → Int) (od : Int → Int) (sz : Nat) (c : Int) (hp : 0 ≤ c ∧ c < 75) (hT : TBK tb) : Met l yM_clusterOf wsM_clusterOf ({ frames := 1, cells := 0, slots := 0, locals := 22 }) (va_Pc [.ref (ad 0), .int (iv c)] (jPre (dC, dI) (jT cI cZ cG cR) (pM cI cZ cG cR ad th tb fi se lf ct ln tx kl kp fl fo ol ot pl ky nu yk yn lc fw sd lw od) sz)) (va_Qi (fun (r0 : Int32) (u : Int) => r0 = iv u ∧ (u = czM tb c ∧ 0 ≤ u ∧ u ≤ 9)) (fun u => jEnd (dC, dI) (jT cI cZ cG cR) (va_A (pM cI cZ cG cR ad th tb fi se lf ct ln tx kl kp fl fo ol ot pl ky nu yk yn lc fw sd lw od) sz) (pM cI cZ cG cR ad th tb fi se lf ct ln tx kl kp fl fo ol ot pl ky nu yk yn lc fw sd lw od)) (va_A (pM cI cZ cG cR ad th tb fi se lf ct ln tx kl kp fl fo ol ot pl ky nu yk yn lc fw sd lw od) sz)) 0 0 (va_A (pM cI cZ cG cR ad th tb fi se lf ct ln tx kl kp fl fo ol ot pl ky nu yk yn lc fw sd lw od) sz) := by
  refine jv_mi (cc := cM_clusterOf) (maxL := 2) (by decide) rfl (Nat.le_of_ble_eq_true rfl) ?_
  intro p0 e0 s0 m0 a0 b0 t0 c0 R0 Q0 A0 ls hx hb hts hown hml hRf hRl hA hK hret hl hP hD hS
  have hown : s0.vm.findClass "TextPipelineModel" = some m0.cls := hown
  have hw0 : ∀ w ∈ WS0, w.before a0 s0 = true := fun w h => hts w (List.mem_cons_of_mem _ h)
  have hl : lv_has ls 2 [(0, .ref (ad 0)), (1, .int (iv c))] := hl
  have hRf : 1 ≤ R0.frames := hRf
  have hRl : 22 ≤ R0.locals := hRl
  refine lv_iload_n (pc := 0) hx hb dM_clusterOf_0 rfl (lv_at hl 1 rfl) ?_
  refine lv_bipush (pc := 1) (v := iv 40) hx hb dM_clusterOf_1 (by decide) ?_
  refine jv_icmp_ge (pc := 3) (tgt := 15) hx hb dM_clusterOf_3 (by decide) (by omega) (by decide) (fun h1 => ?_) (fun h1 => ?_)
  · skip
    refine lv_iconst (pc := 15) (v := iv 0) hx hb dM_clusterOf_15 rfl ?_
    exact hret _ (0) dM_clusterOf_16 ⟨rfl, by have h9 := czM_rng hT (c := c) (by omega); first | (have hq : r_9 = czM tb c := (by unfold czM; rw [if_pos (by omega), hw9]; congr 1; try omega); exact ⟨hq, by omega⟩) | (have hq : (0 : Int) = czM tb c := (by unfold czM; rw [if_neg (by omega)]); exact ⟨hq, by omega⟩)⟩ hP hD hS
  refine lv_aload_n (pc := 6) hx hb dM_clusterOf_6 rfl (lv_at hl 0 rfl) ?_
  refine lv_iload_n (pc := 7) hx hb dM_clusterOf_7 rfl (lv_at hl 1 rfl) ?_
  refine lv_iconst (pc := 8) (v := iv 1) hx hb dM_clusterOf_8 rfl ?_
  refine jv_ri (pc := 9) (wr := []) (wn := fun u : Int => (pM cI cZ cG cR ad th tb fi se lf ct ln tx kl kp fl fo ol ot pl ky nu yk yn lc fw sd lw od)) (va_runV (rest := []) ⟨hx, hb, hml, hown, hw0⟩ (c_M_property l dC dI cI cZ cG cR ad th tb fi se lf ct ln tx kl kp fl fo ol ot pl ky nu yk yn lc fw sd lw od _ c 1 (by omega)) (jcV hw0 kM_property q780 rfl rfl ⟨Nat.le_trans (Nat.le_of_ble_eq_true rfl) hRf, Nat.le_trans (Nat.le_of_ble_eq_true rfl) hRl⟩) (jv_preV (ci := 5) (q0 := 0) hK hP hD [0, 1, 2, 3, 4, 5, 6, 7, 8, 9, 10, 11, 12, 13, 14, 15, 16, 17, 18] rfl (by decide) rfl rfl) rfl rfl hl.1 rfl (lv_room (Nat.le_of_ble_eq_true rfl)) dM_clusterOf_9 ⟨Nat.zero_le _, Nat.zero_le _⟩) hP hD hS hA [0, 1, 2, 3, 4, 5, 6, 7, 8, 9, 10, 11, 12, 13, 14, 15, 16, 17, 18] [] [0, 1, 2, 3, 4, 5, 6, 7, 8, 9, 10, 11, 12, 13, 14, 15, 16, 17, 18] rfl rfl (by decide) (by decide) (by decide) (fun _ => rfl) (fun r0 u H locs hw9 hP hD hS => ?_)
  obtain ⟨r_9, hu⟩ : ∃ z, z = u := ⟨_, rfl⟩; subst hu
  obtain ⟨rfl, hw9⟩ := hw9
  refine lv_goto (pc := 12) (tgt := 16) hx hb dM_clusterOf_12 (by decide) ?_
  exact hret _ (r_9) dM_clusterOf_16 ⟨rfl, by have h9 := czM_rng hT (c := c) (by omega); first | (have hq : r_9 = czM tb c := (by unfold czM; rw [if_pos (by omega), hw9]; congr 1; try omega); exact ⟨hq, by omega⟩) | (have hq : (0 : Int) = czM tb c := (by unfold czM; rw [if_neg (by omega)]); exact ⟨hq, by omega⟩)⟩ hP hD hS
set_option maxRecDepth 100000 in
set_option maxHeartbeats 4000000 in
theorem c_M_sideOf (l : Launch) (dC : Nat → ClassId) (dI : Nat → Nat → Nat) (cI : ClassId) (cZ : ClassId) (cG : ClassId) (cR : ClassId) (ad : Nat → Nat) (th : Int) (tb : Int → Int) (fi : Int → Int) (se : Int → Int) (lf : Int → Int) (ct : Int → Int) (ln : Int) (tx : Int → Int) (kl : Int → Int) (kp : Int → Int) (fl : Int) (fo : Int → Int) (ol : Int) (ot : Int → Int) (pl : Int → Int) (ky : Int) (nu : Int → Int) (yk : Int) (yn : Int → Int) (lc : Int → Int) (fw : Int → Int) (sd : Int → Int) (lw : Int → Int) (od : Int → Int) (sz : Nat) (c : Int) (hp : 0 ≤ c ∧ c < 75) (hT : TBK tb) : Met l yM_sideOf wsM_sideOf ({ frames := 1, cells := 0, slots := 0, locals := 22 }) (va_Pc [.ref (ad 0), .int (iv c)] (jPre (dC, dI) (jT cI cZ cG cR) (pM cI cZ cG cR ad th tb fi se lf ct ln tx kl kp fl fo ol ot pl ky nu yk yn lc fw sd lw od) sz)) (va_Qi (fun (r0 : Int32) (u : Int) => r0 = iv u ∧ (u = szM tb c ∧ 0 ≤ u ∧ u ≤ 11)) (fun u => jEnd (dC, dI) (jT cI cZ cG cR) (va_A (pM cI cZ cG cR ad th tb fi se lf ct ln tx kl kp fl fo ol ot pl ky nu yk yn lc fw sd lw od) sz) (pM cI cZ cG cR ad th tb fi se lf ct ln tx kl kp fl fo ol ot pl ky nu yk yn lc fw sd lw od)) (va_A (pM cI cZ cG cR ad th tb fi se lf ct ln tx kl kp fl fo ol ot pl ky nu yk yn lc fw sd lw od) sz)) 0 0 (va_A (pM cI cZ cG cR ad th tb fi se lf ct ln tx kl kp fl fo ol ot pl ky nu yk yn lc fw sd lw od) sz) := by
  refine jv_mi (cc := cM_sideOf) (maxL := 2) (by decide) rfl (Nat.le_of_ble_eq_true rfl) ?_
  intro p0 e0 s0 m0 a0 b0 t0 c0 R0 Q0 A0 ls hx hb hts hown hml hRf hRl hA hK hret hl hP hD hS
  have hown : s0.vm.findClass "TextPipelineModel" = some m0.cls := hown
  have hw0 : ∀ w ∈ WS0, w.before a0 s0 = true := fun w h => hts w (List.mem_cons_of_mem _ h)
  have hl : lv_has ls 2 [(0, .ref (ad 0)), (1, .int (iv c))] := hl
  have hRf : 1 ≤ R0.frames := hRf
  have hRl : 22 ≤ R0.locals := hRl
  refine lv_iload_n (pc := 0) hx hb dM_sideOf_0 rfl (lv_at hl 1 rfl) ?_
  refine lv_bipush (pc := 1) (v := iv 40) hx hb dM_sideOf_1 (by decide) ?_
  refine jv_icmp_ge (pc := 3) (tgt := 15) hx hb dM_sideOf_3 (by decide) (by omega) (by decide) (fun h1 => ?_) (fun h1 => ?_)
  · skip
    refine lv_iconst (pc := 15) (v := iv 0) hx hb dM_sideOf_15 rfl ?_
    exact hret _ (0) dM_sideOf_16 ⟨rfl, by have h9 := szM_rng hT (c := c) (by omega); first | (have hq : r_9 = szM tb c := (by unfold szM; rw [if_pos (by omega), hw9]; congr 1; try omega); exact ⟨hq, by omega⟩) | (have hq : (0 : Int) = szM tb c := (by unfold szM; rw [if_neg (by omega)]); exact ⟨hq, by omega⟩)⟩ hP hD hS
  refine lv_aload_n (pc := 6) hx hb dM_sideOf_6 rfl (lv_at hl 0 rfl) ?_
  refine lv_iload_n (pc := 7) hx hb dM_sideOf_7 rfl (lv_at hl 1 rfl) ?_
  refine lv_iconst (pc := 8) (v := iv 3) hx hb dM_sideOf_8 rfl ?_
  refine jv_ri (pc := 9) (wr := []) (wn := fun u : Int => (pM cI cZ cG cR ad th tb fi se lf ct ln tx kl kp fl fo ol ot pl ky nu yk yn lc fw sd lw od)) (va_runV (rest := []) ⟨hx, hb, hml, hown, hw0⟩ (c_M_property l dC dI cI cZ cG cR ad th tb fi se lf ct ln tx kl kp fl fo ol ot pl ky nu yk yn lc fw sd lw od _ c 3 (by omega)) (jcV hw0 kM_property q780 rfl rfl ⟨Nat.le_trans (Nat.le_of_ble_eq_true rfl) hRf, Nat.le_trans (Nat.le_of_ble_eq_true rfl) hRl⟩) (jv_preV (ci := 5) (q0 := 0) hK hP hD [0, 1, 2, 3, 4, 5, 6, 7, 8, 9, 10, 11, 12, 13, 14, 15, 16, 17, 18] rfl (by decide) rfl rfl) rfl rfl hl.1 rfl (lv_room (Nat.le_of_ble_eq_true rfl)) dM_sideOf_9 ⟨Nat.zero_le _, Nat.zero_le _⟩) hP hD hS hA [0, 1, 2, 3, 4, 5, 6, 7, 8, 9, 10, 11, 12, 13, 14, 15, 16, 17, 18] [] [0, 1, 2, 3, 4, 5, 6, 7, 8, 9, 10, 11, 12, 13, 14, 15, 16, 17, 18] rfl rfl (by decide) (by decide) (by decide) (fun _ => rfl) (fun r0 u H locs hw9 hP hD hS => ?_)
  obtain ⟨r_9, hu⟩ : ∃ z, z = u := ⟨_, rfl⟩; subst hu
  obtain ⟨rfl, hw9⟩ := hw9
  refine lv_goto (pc := 12) (tgt := 16) hx hb dM_sideOf_12 (by decide) ?_
  exact hret _ (r_9) dM_sideOf_16 ⟨rfl, by have h9 := szM_rng hT (c := c) (by omega); first | (have hq : r_9 = szM tb c := (by unfold szM; rw [if_pos (by omega), hw9]; congr 1; try omega); exact ⟨hq, by omega⟩) | (have hq : (0 : Int) = szM tb c := (by unfold szM; rw [if_neg (by omega)]); exact ⟨hq, by omega⟩)⟩ hP hD hS
set_option maxRecDepth 100000 in
set_option maxHeartbeats 4000000 in
theorem c_M_weight (l : Launch) (dC : Nat → ClassId) (dI : Nat → Nat → Nat) (cI : ClassId) (cZ : ClassId) (cG : ClassId) (cR : ClassId) (ad : Nat → Nat) (th : Int) (tb : Int → Int) (fi : Int → Int) (se : Int → Int) (lf : Int → Int) (ct : Int → Int) (ln : Int) (tx : Int → Int) (kl : Int → Int) (kp : Int → Int) (fl : Int) (fo : Int → Int) (ol : Int) (ot : Int → Int) (pl : Int → Int) (ky : Int) (nu : Int → Int) (yk : Int) (yn : Int → Int) (lc : Int → Int) (fw : Int → Int) (sd : Int → Int) (lw : Int → Int) (od : Int → Int) (sz : Nat) (c : Int) (k : Int) (hp : 0 ≤ c ∧ c < 75) (hk : 0 ≤ k ∧ k < 3) (hT : TBK tb) : Met l yM_weight wsM_weight ({ frames := 1, cells := 0, slots := 0, locals := 22 }) (va_Pc [.ref (ad 0), .int (iv c), .int (iv k)] (jPre (dC, dI) (jT cI cZ cG cR) (pM cI cZ cG cR ad th tb fi se lf ct ln tx kl kp fl fo ol ot pl ky nu yk yn lc fw sd lw od) sz)) (va_Qi (fun (r0 : Int32) (u : Int) => r0 = iv u ∧ (u = wtM tb k c ∧ 0 ≤ u ∧ u ≤ 1074)) (fun u => jEnd (dC, dI) (jT cI cZ cG cR) (va_A (pM cI cZ cG cR ad th tb fi se lf ct ln tx kl kp fl fo ol ot pl ky nu yk yn lc fw sd lw od) sz) (pM cI cZ cG cR ad th tb fi se lf ct ln tx kl kp fl fo ol ot pl ky nu yk yn lc fw sd lw od)) (va_A (pM cI cZ cG cR ad th tb fi se lf ct ln tx kl kp fl fo ol ot pl ky nu yk yn lc fw sd lw od) sz)) 0 0 (va_A (pM cI cZ cG cR ad th tb fi se lf ct ln tx kl kp fl fo ol ot pl ky nu yk yn lc fw sd lw od) sz) := by
  refine jv_mi (cc := cM_weight) (maxL := 3) (by decide) rfl (Nat.le_of_ble_eq_true rfl) ?_
  intro p0 e0 s0 m0 a0 b0 t0 c0 R0 Q0 A0 ls hx hb hts hown hml hRf hRl hA hK hret hl hP hD hS
  have hown : s0.vm.findClass "TextPipelineModel" = some m0.cls := hown
  have hw0 : ∀ w ∈ WS0, w.before a0 s0 = true := fun w h => hts w (List.mem_cons_of_mem _ h)
  have hl : lv_has ls 3 [(0, .ref (ad 0)), (1, .int (iv c)), (2, .int (iv k))] := hl
  have hRf : 1 ≤ R0.frames := hRf
  have hRl : 22 ≤ R0.locals := hRl
  have hr9 := wtM_rng hT (c := c) (k := k) (by omega) (by omega) hk
  refine lv_iload_n (pc := 0) hx hb dM_weight_0 rfl (lv_at hl 1 rfl) ?_
  refine lv_bipush (pc := 1) (v := iv 40) hx hb dM_weight_1 (by decide) ?_
  refine jv_icmp_ge (pc := 3) (tgt := 17) hx hb dM_weight_3 (by decide) (by omega) (by decide) (fun h1 => ?_) (fun h1 => ?_)
  · skip
    refine lv_iload_n (pc := 17) hx hb dM_weight_17 rfl (lv_at hl 2 rfl) ?_
    refine jv_if_ne (pc := 18) (tgt := 29) hx hb dM_weight_18 (by decide) (by omega) (fun h2 => ?_) (fun h2 => ?_)
    · skip
      refine lv_iconst (pc := 29) (v := iv 1) hx hb dM_weight_29 rfl ?_
      exact hret _ (1) dM_weight_30 ⟨rfl, by first | (have e : r_11 = wtM tb k c := (by unfold wtM; rw [if_pos (by omega), hw11]; congr 1; omega); exact ⟨e, by omega⟩) | (have e : (1000 + c : Int) = wtM tb k c := (by unfold wtM; rw [if_neg (by omega), if_pos (by omega)]); exact ⟨e, by omega⟩) | (have e : (1 : Int) = wtM tb k c := (by unfold wtM; rw [if_neg (by omega), if_neg (by omega)]); exact ⟨e, by omega⟩)⟩ hP hD hS
    refine lv_sipush (pc := 21) (v := iv 1000) hx hb dM_weight_21 (by decide) ?_
    refine lv_iload_n (pc := 24) hx hb dM_weight_24 rfl (lv_at hl 1 rfl) ?_
    refine jv_iadd (pc := 25) (x := 1000) (y := c) hx hb dM_weight_25 ?_
    refine lv_goto (pc := 26) (tgt := 30) hx hb dM_weight_26 (by decide) ?_
    exact hret _ (1000 + c) dM_weight_30 ⟨rfl, by first | (have e : r_11 = wtM tb k c := (by unfold wtM; rw [if_pos (by omega), hw11]; congr 1; omega); exact ⟨e, by omega⟩) | (have e : (1000 + c : Int) = wtM tb k c := (by unfold wtM; rw [if_neg (by omega), if_pos (by omega)]); exact ⟨e, by omega⟩) | (have e : (1 : Int) = wtM tb k c := (by unfold wtM; rw [if_neg (by omega), if_neg (by omega)]); exact ⟨e, by omega⟩)⟩ hP hD hS
  refine lv_aload_n (pc := 6) hx hb dM_weight_6 rfl (lv_at hl 0 rfl) ?_
  refine lv_iload_n (pc := 7) hx hb dM_weight_7 rfl (lv_at hl 1 rfl) ?_
  refine lv_iconst (pc := 8) (v := iv 4) hx hb dM_weight_8 rfl ?_
  refine lv_iload_n (pc := 9) hx hb dM_weight_9 rfl (lv_at hl 2 rfl) ?_
  refine jv_iadd (pc := 10) (x := 4) (y := k) hx hb dM_weight_10 ?_
  refine jv_ri (pc := 11) (wr := []) (wn := fun u : Int => (pM cI cZ cG cR ad th tb fi se lf ct ln tx kl kp fl fo ol ot pl ky nu yk yn lc fw sd lw od)) (va_runV (rest := []) ⟨hx, hb, hml, hown, hw0⟩ (c_M_property l dC dI cI cZ cG cR ad th tb fi se lf ct ln tx kl kp fl fo ol ot pl ky nu yk yn lc fw sd lw od _ c (4 + k) (by omega)) (jcV hw0 kM_property q780 rfl rfl ⟨Nat.le_trans (Nat.le_of_ble_eq_true rfl) hRf, Nat.le_trans (Nat.le_of_ble_eq_true rfl) hRl⟩) (jv_preV (ci := 5) (q0 := 0) hK hP hD [0, 1, 2, 3, 4, 5, 6, 7, 8, 9, 10, 11, 12, 13, 14, 15, 16, 17, 18] rfl (by decide) rfl rfl) rfl rfl hl.1 rfl (lv_room (Nat.le_of_ble_eq_true rfl)) dM_weight_11 ⟨Nat.zero_le _, Nat.zero_le _⟩) hP hD hS hA [0, 1, 2, 3, 4, 5, 6, 7, 8, 9, 10, 11, 12, 13, 14, 15, 16, 17, 18] [] [0, 1, 2, 3, 4, 5, 6, 7, 8, 9, 10, 11, 12, 13, 14, 15, 16, 17, 18] rfl rfl (by decide) (by decide) (by decide) (fun _ => rfl) (fun r0 u H locs hw11 hP hD hS => ?_)
  obtain ⟨r_11, hu⟩ : ∃ z, z = u := ⟨_, rfl⟩; subst hu
  obtain ⟨rfl, hw11⟩ := hw11
  refine lv_goto (pc := 14) (tgt := 30) hx hb dM_weight_14 (by decide) ?_
  exact hret _ (r_11) dM_weight_30 ⟨rfl, by first | (have e : r_11 = wtM tb k c := (by unfold wtM; rw [if_pos (by omega), hw11]; congr 1; omega); exact ⟨e, by omega⟩) | (have e : (1000 + c : Int) = wtM tb k c := (by unfold wtM; rw [if_neg (by omega), if_pos (by omega)]); exact ⟨e, by omega⟩) | (have e : (1 : Int) = wtM tb k c := (by unfold wtM; rw [if_neg (by omega), if_neg (by omega)]); exact ⟨e, by omega⟩)⟩ hP hD hS
set_option maxRecDepth 100000 in
set_option maxHeartbeats 4000000 in
theorem c_M_isLead (l : Launch) (dC : Nat → ClassId) (dI : Nat → Nat → Nat) (cI : ClassId) (cZ : ClassId) (cG : ClassId) (cR : ClassId) (ad : Nat → Nat) (th : Int) (tb : Int → Int) (fi : Int → Int) (se : Int → Int) (lf : Int → Int) (ct : Int → Int) (ln : Int) (tx : Int → Int) (kl : Int → Int) (kp : Int → Int) (fl : Int) (fo : Int → Int) (ol : Int) (ot : Int → Int) (pl : Int → Int) (ky : Int) (nu : Int → Int) (yk : Int) (yn : Int → Int) (lc : Int → Int) (fw : Int → Int) (sd : Int → Int) (lw : Int → Int) (od : Int → Int) (sz : Nat) (c : Int) (hp : 0 ≤ c ∧ c < 75) : Met l yM_isLead wsM_isLead ({ frames := 0, cells := 0, slots := 0, locals := 0 }) (va_Pc [.ref (ad 0), .int (iv c)] (jPre (dC, dI) (jT cI cZ cG cR) (pM cI cZ cG cR ad th tb fi se lf ct ln tx kl kp fl fo ol ot pl ky nu yk yn lc fw sd lw od) sz)) (va_Qi (fun (r0 : Int32) (u : Int) => r0 = iv u ∧ ((u = 0 ∨ u = 1) ∧ (u = 1 ↔ (40 ≤ c ∧ c < 43)))) (fun u => jEnd (dC, dI) (jT cI cZ cG cR) (va_A (pM cI cZ cG cR ad th tb fi se lf ct ln tx kl kp fl fo ol ot pl ky nu yk yn lc fw sd lw od) sz) (pM cI cZ cG cR ad th tb fi se lf ct ln tx kl kp fl fo ol ot pl ky nu yk yn lc fw sd lw od)) (va_A (pM cI cZ cG cR ad th tb fi se lf ct ln tx kl kp fl fo ol ot pl ky nu yk yn lc fw sd lw od) sz)) 0 0 (va_A (pM cI cZ cG cR ad th tb fi se lf ct ln tx kl kp fl fo ol ot pl ky nu yk yn lc fw sd lw od) sz) := by
  refine jv_mz (cc := cM_isLead) (maxL := 2) (by decide) rfl (Nat.le_of_ble_eq_true rfl) ?_
  intro p0 e0 s0 m0 a0 b0 t0 c0 R0 Q0 A0 ls hx hb hts hown hml hRf hRl hA hK hret hl hP hD hS
  have hown : s0.vm.findClass "TextPipelineModel" = some m0.cls := hown
  have hw0 : ∀ w ∈ WS0, w.before a0 s0 = true := fun w h => hts w (List.mem_cons_of_mem _ h)
  have hl : lv_has ls 2 [(0, .ref (ad 0)), (1, .int (iv c))] := hl
  have hRf : 0 ≤ R0.frames := hRf
  have hRl : 0 ≤ R0.locals := hRl
  refine lv_iload_n (pc := 0) hx hb dM_isLead_0 rfl (lv_at hl 1 rfl) ?_
  refine lv_bipush (pc := 1) (v := iv 40) hx hb dM_isLead_1 (by decide) ?_
  refine jv_icmp_lt (pc := 3) (tgt := 16) hx hb dM_isLead_3 (by decide) (by omega) (by decide) (fun h1 => ?_) (fun h1 => ?_)
  · skip
    refine lv_iconst (pc := 16) (v := iv 0) hx hb dM_isLead_16 rfl ?_
    exact hret _ (0) dM_isLead_17 (Or.inl rfl) ⟨rfl, by omega⟩ hP hD hS
  refine lv_iload_n (pc := 6) hx hb dM_isLead_6 rfl (lv_at hl 1 rfl) ?_
  refine lv_bipush (pc := 7) (v := iv 43) hx hb dM_isLead_7 (by decide) ?_
  refine jv_icmp_ge (pc := 9) (tgt := 16) hx hb dM_isLead_9 (by decide) (by omega) (by decide) (fun h2 => ?_) (fun h2 => ?_)
  · skip
    refine lv_iconst (pc := 16) (v := iv 0) hx hb dM_isLead_16 rfl ?_
    exact hret _ (0) dM_isLead_17 (Or.inl rfl) ⟨rfl, by omega⟩ hP hD hS
  refine lv_iconst (pc := 12) (v := iv 1) hx hb dM_isLead_12 rfl ?_
  refine lv_goto (pc := 13) (tgt := 17) hx hb dM_isLead_13 (by decide) ?_
  exact hret _ (1) dM_isLead_17 (Or.inr rfl) ⟨rfl, by omega⟩ hP hD hS
set_option maxRecDepth 100000 in
set_option maxHeartbeats 4000000 in
theorem c_M_isVowel (l : Launch) (dC : Nat → ClassId) (dI : Nat → Nat → Nat) (cI : ClassId) (cZ : ClassId) (cG : ClassId) (cR : ClassId) (ad : Nat → Nat) (th : Int) (tb : Int → Int) (fi : Int → Int) (se : Int → Int) (lf : Int → Int) (ct : Int → Int) (ln : Int) (tx : Int → Int) (kl : Int → Int) (kp : Int → Int) (fl : Int) (fo : Int → Int) (ol : Int) (ot : Int → Int) (pl : Int → Int) (ky : Int) (nu : Int → Int) (yk : Int) (yn : Int → Int) (lc : Int → Int) (fw : Int → Int) (sd : Int → Int) (lw : Int → Int) (od : Int → Int) (sz : Nat) (c : Int) (hp : 0 ≤ c ∧ c < 75) : Met l yM_isVowel wsM_isVowel ({ frames := 0, cells := 0, slots := 0, locals := 0 }) (va_Pc [.ref (ad 0), .int (iv c)] (jPre (dC, dI) (jT cI cZ cG cR) (pM cI cZ cG cR ad th tb fi se lf ct ln tx kl kp fl fo ol ot pl ky nu yk yn lc fw sd lw od) sz)) (va_Qi (fun (r0 : Int32) (u : Int) => r0 = iv u ∧ ((u = 0 ∨ u = 1) ∧ (u = 1 ↔ (43 ≤ c ∧ c < 46)))) (fun u => jEnd (dC, dI) (jT cI cZ cG cR) (va_A (pM cI cZ cG cR ad th tb fi se lf ct ln tx kl kp fl fo ol ot pl ky nu yk yn lc fw sd lw od) sz) (pM cI cZ cG cR ad th tb fi se lf ct ln tx kl kp fl fo ol ot pl ky nu yk yn lc fw sd lw od)) (va_A (pM cI cZ cG cR ad th tb fi se lf ct ln tx kl kp fl fo ol ot pl ky nu yk yn lc fw sd lw od) sz)) 0 0 (va_A (pM cI cZ cG cR ad th tb fi se lf ct ln tx kl kp fl fo ol ot pl ky nu yk yn lc fw sd lw od) sz) := by
  refine jv_mz (cc := cM_isVowel) (maxL := 2) (by decide) rfl (Nat.le_of_ble_eq_true rfl) ?_
  intro p0 e0 s0 m0 a0 b0 t0 c0 R0 Q0 A0 ls hx hb hts hown hml hRf hRl hA hK hret hl hP hD hS
  have hown : s0.vm.findClass "TextPipelineModel" = some m0.cls := hown
  have hw0 : ∀ w ∈ WS0, w.before a0 s0 = true := fun w h => hts w (List.mem_cons_of_mem _ h)
  have hl : lv_has ls 2 [(0, .ref (ad 0)), (1, .int (iv c))] := hl
  have hRf : 0 ≤ R0.frames := hRf
  have hRl : 0 ≤ R0.locals := hRl
  refine lv_iload_n (pc := 0) hx hb dM_isVowel_0 rfl (lv_at hl 1 rfl) ?_
  refine lv_bipush (pc := 1) (v := iv 43) hx hb dM_isVowel_1 (by decide) ?_
  refine jv_icmp_lt (pc := 3) (tgt := 16) hx hb dM_isVowel_3 (by decide) (by omega) (by decide) (fun h1 => ?_) (fun h1 => ?_)
  · skip
    refine lv_iconst (pc := 16) (v := iv 0) hx hb dM_isVowel_16 rfl ?_
    exact hret _ (0) dM_isVowel_17 (Or.inl rfl) ⟨rfl, by omega⟩ hP hD hS
  refine lv_iload_n (pc := 6) hx hb dM_isVowel_6 rfl (lv_at hl 1 rfl) ?_
  refine lv_bipush (pc := 7) (v := iv 46) hx hb dM_isVowel_7 (by decide) ?_
  refine jv_icmp_ge (pc := 9) (tgt := 16) hx hb dM_isVowel_9 (by decide) (by omega) (by decide) (fun h2 => ?_) (fun h2 => ?_)
  · skip
    refine lv_iconst (pc := 16) (v := iv 0) hx hb dM_isVowel_16 rfl ?_
    exact hret _ (0) dM_isVowel_17 (Or.inl rfl) ⟨rfl, by omega⟩ hP hD hS
  refine lv_iconst (pc := 12) (v := iv 1) hx hb dM_isVowel_12 rfl ?_
  refine lv_goto (pc := 13) (tgt := 17) hx hb dM_isVowel_13 (by decide) ?_
  exact hret _ (1) dM_isVowel_17 (Or.inr rfl) ⟨rfl, by omega⟩ hP hD hS
set_option maxRecDepth 100000 in
set_option maxHeartbeats 4000000 in
theorem c_M_isTail (l : Launch) (dC : Nat → ClassId) (dI : Nat → Nat → Nat) (cI : ClassId) (cZ : ClassId) (cG : ClassId) (cR : ClassId) (ad : Nat → Nat) (th : Int) (tb : Int → Int) (fi : Int → Int) (se : Int → Int) (lf : Int → Int) (ct : Int → Int) (ln : Int) (tx : Int → Int) (kl : Int → Int) (kp : Int → Int) (fl : Int) (fo : Int → Int) (ol : Int) (ot : Int → Int) (pl : Int → Int) (ky : Int) (nu : Int → Int) (yk : Int) (yn : Int → Int) (lc : Int → Int) (fw : Int → Int) (sd : Int → Int) (lw : Int → Int) (od : Int → Int) (sz : Nat) (c : Int) (hp : 0 ≤ c ∧ c < 75) : Met l yM_isTail wsM_isTail ({ frames := 0, cells := 0, slots := 0, locals := 0 }) (va_Pc [.ref (ad 0), .int (iv c)] (jPre (dC, dI) (jT cI cZ cG cR) (pM cI cZ cG cR ad th tb fi se lf ct ln tx kl kp fl fo ol ot pl ky nu yk yn lc fw sd lw od) sz)) (va_Qi (fun (r0 : Int32) (u : Int) => r0 = iv u ∧ ((u = 0 ∨ u = 1) ∧ (u = 1 ↔ (46 ≤ c ∧ c < 48)))) (fun u => jEnd (dC, dI) (jT cI cZ cG cR) (va_A (pM cI cZ cG cR ad th tb fi se lf ct ln tx kl kp fl fo ol ot pl ky nu yk yn lc fw sd lw od) sz) (pM cI cZ cG cR ad th tb fi se lf ct ln tx kl kp fl fo ol ot pl ky nu yk yn lc fw sd lw od)) (va_A (pM cI cZ cG cR ad th tb fi se lf ct ln tx kl kp fl fo ol ot pl ky nu yk yn lc fw sd lw od) sz)) 0 0 (va_A (pM cI cZ cG cR ad th tb fi se lf ct ln tx kl kp fl fo ol ot pl ky nu yk yn lc fw sd lw od) sz) := by
  refine jv_mz (cc := cM_isTail) (maxL := 2) (by decide) rfl (Nat.le_of_ble_eq_true rfl) ?_
  intro p0 e0 s0 m0 a0 b0 t0 c0 R0 Q0 A0 ls hx hb hts hown hml hRf hRl hA hK hret hl hP hD hS
  have hown : s0.vm.findClass "TextPipelineModel" = some m0.cls := hown
  have hw0 : ∀ w ∈ WS0, w.before a0 s0 = true := fun w h => hts w (List.mem_cons_of_mem _ h)
  have hl : lv_has ls 2 [(0, .ref (ad 0)), (1, .int (iv c))] := hl
  have hRf : 0 ≤ R0.frames := hRf
  have hRl : 0 ≤ R0.locals := hRl
  refine lv_iload_n (pc := 0) hx hb dM_isTail_0 rfl (lv_at hl 1 rfl) ?_
  refine lv_bipush (pc := 1) (v := iv 46) hx hb dM_isTail_1 (by decide) ?_
  refine jv_icmp_eq (pc := 3) (tgt := 12) hx hb dM_isTail_3 (by decide) (by omega) (by decide) (fun h1 => ?_) (fun h1 => ?_)
  · skip
    refine lv_iconst (pc := 12) (v := iv 1) hx hb dM_isTail_12 rfl ?_
    refine lv_goto (pc := 13) (tgt := 17) hx hb dM_isTail_13 (by decide) ?_
    exact hret _ (1) dM_isTail_17 (Or.inr rfl) ⟨rfl, by omega⟩ hP hD hS
  refine lv_iload_n (pc := 6) hx hb dM_isTail_6 rfl (lv_at hl 1 rfl) ?_
  refine lv_bipush (pc := 7) (v := iv 47) hx hb dM_isTail_7 (by decide) ?_
  refine jv_icmp_ne (pc := 9) (tgt := 16) hx hb dM_isTail_9 (by decide) (by omega) (by decide) (fun h2 => ?_) (fun h2 => ?_)
  · skip
    refine lv_iconst (pc := 16) (v := iv 0) hx hb dM_isTail_16 rfl ?_
    exact hret _ (0) dM_isTail_17 (Or.inl rfl) ⟨rfl, by omega⟩ hP hD hS
  refine lv_iconst (pc := 12) (v := iv 1) hx hb dM_isTail_12 rfl ?_
  refine lv_goto (pc := 13) (tgt := 17) hx hb dM_isTail_13 (by decide) ?_
  exact hret _ (1) dM_isTail_17 (Or.inr rfl) ⟨rfl, by omega⟩ hP hD hS
set_option maxRecDepth 100000 in
set_option maxHeartbeats 4000000 in
theorem c_M_isOpen (l : Launch) (dC : Nat → ClassId) (dI : Nat → Nat → Nat) (cI : ClassId) (cZ : ClassId) (cG : ClassId) (cR : ClassId) (ad : Nat → Nat) (th : Int) (tb : Int → Int) (fi : Int → Int) (se : Int → Int) (lf : Int → Int) (ct : Int → Int) (ln : Int) (tx : Int → Int) (kl : Int → Int) (kp : Int → Int) (fl : Int) (fo : Int → Int) (ol : Int) (ot : Int → Int) (pl : Int → Int) (ky : Int) (nu : Int → Int) (yk : Int) (yn : Int → Int) (lc : Int → Int) (fw : Int → Int) (sd : Int → Int) (lw : Int → Int) (od : Int → Int) (sz : Nat) (c : Int) (hp : 0 ≤ c ∧ c < 75) : Met l yM_isOpen wsM_isOpen ({ frames := 0, cells := 0, slots := 0, locals := 0 }) (va_Pc [.ref (ad 0), .int (iv c)] (jPre (dC, dI) (jT cI cZ cG cR) (pM cI cZ cG cR ad th tb fi se lf ct ln tx kl kp fl fo ol ot pl ky nu yk yn lc fw sd lw od) sz)) (va_Qi (fun (r0 : Int32) (u : Int) => r0 = iv u ∧ ((u = 0 ∨ u = 1) ∧ (u = 1 ↔ (47 < c ∧ c % 3 = 0)))) (fun u => jEnd (dC, dI) (jT cI cZ cG cR) (va_A (pM cI cZ cG cR ad th tb fi se lf ct ln tx kl kp fl fo ol ot pl ky nu yk yn lc fw sd lw od) sz) (pM cI cZ cG cR ad th tb fi se lf ct ln tx kl kp fl fo ol ot pl ky nu yk yn lc fw sd lw od)) (va_A (pM cI cZ cG cR ad th tb fi se lf ct ln tx kl kp fl fo ol ot pl ky nu yk yn lc fw sd lw od) sz)) 0 0 (va_A (pM cI cZ cG cR ad th tb fi se lf ct ln tx kl kp fl fo ol ot pl ky nu yk yn lc fw sd lw od) sz) := by
  refine jv_mz (cc := cM_isOpen) (maxL := 2) (by decide) rfl (Nat.le_of_ble_eq_true rfl) ?_
  intro p0 e0 s0 m0 a0 b0 t0 c0 R0 Q0 A0 ls hx hb hts hown hml hRf hRl hA hK hret hl hP hD hS
  have hown : s0.vm.findClass "TextPipelineModel" = some m0.cls := hown
  have hw0 : ∀ w ∈ WS0, w.before a0 s0 = true := fun w h => hts w (List.mem_cons_of_mem _ h)
  have hl : lv_has ls 2 [(0, .ref (ad 0)), (1, .int (iv c))] := hl
  have hRf : 0 ≤ R0.frames := hRf
  have hRl : 0 ≤ R0.locals := hRl
  refine lv_iload_n (pc := 0) hx hb dM_isOpen_0 rfl (lv_at hl 1 rfl) ?_
  refine lv_bipush (pc := 1) (v := iv 47) hx hb dM_isOpen_1 (by decide) ?_
  refine jv_icmp_le (pc := 3) (tgt := 16) hx hb dM_isOpen_3 (by decide) (by omega) (by decide) (fun h1 => ?_) (fun h1 => ?_)
  · skip
    refine lv_iconst (pc := 16) (v := iv 0) hx hb dM_isOpen_16 rfl ?_
    exact hret _ (0) dM_isOpen_17 (Or.inl rfl) ⟨rfl, by omega⟩ hP hD hS
  refine lv_iload_n (pc := 6) hx hb dM_isOpen_6 rfl (lv_at hl 1 rfl) ?_
  refine lv_iconst (pc := 7) (v := iv 3) hx hb dM_isOpen_7 rfl ?_
  refine jv_irem (pc := 8) (x := c) (y := 3) hx hb dM_isOpen_8 (by omega) (by omega) ?_
  refine jv_if_ne (pc := 9) (tgt := 16) hx hb dM_isOpen_9 (by decide) (by omega) (fun h2 => ?_) (fun h2 => ?_)
  · skip
    refine lv_iconst (pc := 16) (v := iv 0) hx hb dM_isOpen_16 rfl ?_
    exact hret _ (0) dM_isOpen_17 (Or.inl rfl) ⟨rfl, by omega⟩ hP hD hS
  refine lv_iconst (pc := 12) (v := iv 1) hx hb dM_isOpen_12 rfl ?_
  refine lv_goto (pc := 13) (tgt := 17) hx hb dM_isOpen_13 (by decide) ?_
  exact hret _ (1) dM_isOpen_17 (Or.inr rfl) ⟨rfl, by omega⟩ hP hD hS
set_option maxRecDepth 100000 in
set_option maxHeartbeats 4000000 in
theorem c_M_isClosed (l : Launch) (dC : Nat → ClassId) (dI : Nat → Nat → Nat) (cI : ClassId) (cZ : ClassId) (cG : ClassId) (cR : ClassId) (ad : Nat → Nat) (th : Int) (tb : Int → Int) (fi : Int → Int) (se : Int → Int) (lf : Int → Int) (ct : Int → Int) (ln : Int) (tx : Int → Int) (kl : Int → Int) (kp : Int → Int) (fl : Int) (fo : Int → Int) (ol : Int) (ot : Int → Int) (pl : Int → Int) (ky : Int) (nu : Int → Int) (yk : Int) (yn : Int → Int) (lc : Int → Int) (fw : Int → Int) (sd : Int → Int) (lw : Int → Int) (od : Int → Int) (sz : Nat) (c : Int) (hp : 0 ≤ c ∧ c < 75) : Met l yM_isClosed wsM_isClosed ({ frames := 0, cells := 0, slots := 0, locals := 0 }) (va_Pc [.ref (ad 0), .int (iv c)] (jPre (dC, dI) (jT cI cZ cG cR) (pM cI cZ cG cR ad th tb fi se lf ct ln tx kl kp fl fo ol ot pl ky nu yk yn lc fw sd lw od) sz)) (va_Qi (fun (r0 : Int32) (u : Int) => r0 = iv u ∧ ((u = 0 ∨ u = 1) ∧ (u = 1 ↔ (47 < c ∧ c % 3 ≠ 0)))) (fun u => jEnd (dC, dI) (jT cI cZ cG cR) (va_A (pM cI cZ cG cR ad th tb fi se lf ct ln tx kl kp fl fo ol ot pl ky nu yk yn lc fw sd lw od) sz) (pM cI cZ cG cR ad th tb fi se lf ct ln tx kl kp fl fo ol ot pl ky nu yk yn lc fw sd lw od)) (va_A (pM cI cZ cG cR ad th tb fi se lf ct ln tx kl kp fl fo ol ot pl ky nu yk yn lc fw sd lw od) sz)) 0 0 (va_A (pM cI cZ cG cR ad th tb fi se lf ct ln tx kl kp fl fo ol ot pl ky nu yk yn lc fw sd lw od) sz) := by
  refine jv_mz (cc := cM_isClosed) (maxL := 2) (by decide) rfl (Nat.le_of_ble_eq_true rfl) ?_
  intro p0 e0 s0 m0 a0 b0 t0 c0 R0 Q0 A0 ls hx hb hts hown hml hRf hRl hA hK hret hl hP hD hS
  have hown : s0.vm.findClass "TextPipelineModel" = some m0.cls := hown
  have hw0 : ∀ w ∈ WS0, w.before a0 s0 = true := fun w h => hts w (List.mem_cons_of_mem _ h)
  have hl : lv_has ls 2 [(0, .ref (ad 0)), (1, .int (iv c))] := hl
  have hRf : 0 ≤ R0.frames := hRf
  have hRl : 0 ≤ R0.locals := hRl
  refine lv_iload_n (pc := 0) hx hb dM_isClosed_0 rfl (lv_at hl 1 rfl) ?_
  refine lv_bipush (pc := 1) (v := iv 47) hx hb dM_isClosed_1 (by decide) ?_
  refine jv_icmp_le (pc := 3) (tgt := 16) hx hb dM_isClosed_3 (by decide) (by omega) (by decide) (fun h1 => ?_) (fun h1 => ?_)
  · skip
    refine lv_iconst (pc := 16) (v := iv 0) hx hb dM_isClosed_16 rfl ?_
    exact hret _ (0) dM_isClosed_17 (Or.inl rfl) ⟨rfl, by omega⟩ hP hD hS
  refine lv_iload_n (pc := 6) hx hb dM_isClosed_6 rfl (lv_at hl 1 rfl) ?_
  refine lv_iconst (pc := 7) (v := iv 3) hx hb dM_isClosed_7 rfl ?_
  refine jv_irem (pc := 8) (x := c) (y := 3) hx hb dM_isClosed_8 (by omega) (by omega) ?_
  refine jv_if_eq (pc := 9) (tgt := 16) hx hb dM_isClosed_9 (by decide) (by omega) (fun h2 => ?_) (fun h2 => ?_)
  · skip
    refine lv_iconst (pc := 16) (v := iv 0) hx hb dM_isClosed_16 rfl ?_
    exact hret _ (0) dM_isClosed_17 (Or.inl rfl) ⟨rfl, by omega⟩ hP hD hS
  refine lv_iconst (pc := 12) (v := iv 1) hx hb dM_isClosed_12 rfl ?_
  refine lv_goto (pc := 13) (tgt := 17) hx hb dM_isClosed_13 (by decide) ?_
  exact hret _ (1) dM_isClosed_17 (Or.inr rfl) ⟨rfl, by omega⟩ hP hD hS
set_option maxRecDepth 100000 in
set_option maxHeartbeats 4000000 in
theorem c_M_neutral (l : Launch) (dC : Nat → ClassId) (dI : Nat → Nat → Nat) (cI : ClassId) (cZ : ClassId) (cG : ClassId) (cR : ClassId) (ad : Nat → Nat) (th : Int) (tb : Int → Int) (fi : Int → Int) (se : Int → Int) (lf : Int → Int) (ct : Int → Int) (ln : Int) (tx : Int → Int) (kl : Int → Int) (kp : Int → Int) (fl : Int) (fo : Int → Int) (ol : Int) (ot : Int → Int) (pl : Int → Int) (ky : Int) (nu : Int → Int) (yk : Int) (yn : Int → Int) (lc : Int → Int) (fw : Int → Int) (sd : Int → Int) (lw : Int → Int) (od : Int → Int) (sz : Nat) (c : Int) (hp : 0 ≤ c ∧ c < 75) : Met l yM_neutral wsM_neutral ({ frames := 0, cells := 0, slots := 0, locals := 0 }) (va_Pc [.ref (ad 0), .int (iv c)] (jPre (dC, dI) (jT cI cZ cG cR) (pM cI cZ cG cR ad th tb fi se lf ct ln tx kl kp fl fo ol ot pl ky nu yk yn lc fw sd lw od) sz)) (va_Qi (fun (r0 : Int32) (u : Int) => r0 = iv u ∧ ((u = 0 ∨ u = 1) ∧ (u = 1 ↔ (8 < c)))) (fun u => jEnd (dC, dI) (jT cI cZ cG cR) (va_A (pM cI cZ cG cR ad th tb fi se lf ct ln tx kl kp fl fo ol ot pl ky nu yk yn lc fw sd lw od) sz) (pM cI cZ cG cR ad th tb fi se lf ct ln tx kl kp fl fo ol ot pl ky nu yk yn lc fw sd lw od)) (va_A (pM cI cZ cG cR ad th tb fi se lf ct ln tx kl kp fl fo ol ot pl ky nu yk yn lc fw sd lw od) sz)) 0 0 (va_A (pM cI cZ cG cR ad th tb fi se lf ct ln tx kl kp fl fo ol ot pl ky nu yk yn lc fw sd lw od) sz) := by
  refine jv_mz (cc := cM_neutral) (maxL := 2) (by decide) rfl (Nat.le_of_ble_eq_true rfl) ?_
  intro p0 e0 s0 m0 a0 b0 t0 c0 R0 Q0 A0 ls hx hb hts hown hml hRf hRl hA hK hret hl hP hD hS
  have hown : s0.vm.findClass "TextPipelineModel" = some m0.cls := hown
  have hw0 : ∀ w ∈ WS0, w.before a0 s0 = true := fun w h => hts w (List.mem_cons_of_mem _ h)
  have hl : lv_has ls 2 [(0, .ref (ad 0)), (1, .int (iv c))] := hl
  have hRf : 0 ≤ R0.frames := hRf
  have hRl : 0 ≤ R0.locals := hRl
  refine lv_iload_n (pc := 0) hx hb dM_neutral_0 rfl (lv_at hl 1 rfl) ?_
  refine lv_bipush (pc := 1) (v := iv 8) hx hb dM_neutral_1 (by decide) ?_
  refine jv_icmp_le (pc := 3) (tgt := 10) hx hb dM_neutral_3 (by decide) (by omega) (by decide) (fun h1 => ?_) (fun h1 => ?_)
  · skip
    refine lv_iconst (pc := 10) (v := iv 0) hx hb dM_neutral_10 rfl ?_
    exact hret _ (0) dM_neutral_11 (Or.inl rfl) ⟨rfl, by omega⟩ hP hD hS
  refine lv_iconst (pc := 6) (v := iv 1) hx hb dM_neutral_6 rfl ?_
  refine lv_goto (pc := 7) (tgt := 11) hx hb dM_neutral_7 (by decide) ?_
  exact hret _ (1) dM_neutral_11 (Or.inr rfl) ⟨rfl, by omega⟩ hP hD hS
set_option maxRecDepth 100000 in
set_option maxHeartbeats 4000000 in
theorem c_M_noPlace (l : Launch) (dC : Nat → ClassId) (dI : Nat → Nat → Nat) (cI : ClassId) (cZ : ClassId) (cG : ClassId) (cR : ClassId) (ad : Nat → Nat) (th : Int) (tb : Int → Int) (fi : Int → Int) (se : Int → Int) (lf : Int → Int) (ct : Int → Int) (ln : Int) (tx : Int → Int) (kl : Int → Int) (kp : Int → Int) (fl : Int) (fo : Int → Int) (ol : Int) (ot : Int → Int) (pl : Int → Int) (ky : Int) (nu : Int → Int) (yk : Int) (yn : Int → Int) (lc : Int → Int) (fw : Int → Int) (sd : Int → Int) (lw : Int → Int) (od : Int → Int) (sz : Nat) (i : Int) (n : Int) (hp : -2147483648 ≤ i ∧ i < 2147483648) (hn : 0 ≤ n ∧ n < 1000) : Met l yM_noPlace wsM_noPlace ({ frames := 0, cells := 0, slots := 0, locals := 0 }) (va_Pc [.ref (ad 0), .int (iv i), .int (iv n)] (jPre (dC, dI) (jT cI cZ cG cR) (pM cI cZ cG cR ad th tb fi se lf ct ln tx kl kp fl fo ol ot pl ky nu yk yn lc fw sd lw od) sz)) (va_Qi (fun (r0 : Int32) (u : Int) => r0 = iv u ∧ ((u = 0 ∨ u = 1) ∧ (u = 1 ↔ (i < 0 ∨ n ≤ i)))) (fun u => jEnd (dC, dI) (jT cI cZ cG cR) (va_A (pM cI cZ cG cR ad th tb fi se lf ct ln tx kl kp fl fo ol ot pl ky nu yk yn lc fw sd lw od) sz) (pM cI cZ cG cR ad th tb fi se lf ct ln tx kl kp fl fo ol ot pl ky nu yk yn lc fw sd lw od)) (va_A (pM cI cZ cG cR ad th tb fi se lf ct ln tx kl kp fl fo ol ot pl ky nu yk yn lc fw sd lw od) sz)) 0 0 (va_A (pM cI cZ cG cR ad th tb fi se lf ct ln tx kl kp fl fo ol ot pl ky nu yk yn lc fw sd lw od) sz) := by
  refine jv_mz (cc := cM_noPlace) (maxL := 3) (by decide) rfl (Nat.le_of_ble_eq_true rfl) ?_
  intro p0 e0 s0 m0 a0 b0 t0 c0 R0 Q0 A0 ls hx hb hts hown hml hRf hRl hA hK hret hl hP hD hS
  have hown : s0.vm.findClass "TextPipelineModel" = some m0.cls := hown
  have hw0 : ∀ w ∈ WS0, w.before a0 s0 = true := fun w h => hts w (List.mem_cons_of_mem _ h)
  have hl : lv_has ls 3 [(0, .ref (ad 0)), (1, .int (iv i)), (2, .int (iv n))] := hl
  have hRf : 0 ≤ R0.frames := hRf
  have hRl : 0 ≤ R0.locals := hRl
  refine lv_iload_n (pc := 0) hx hb dM_noPlace_0 rfl (lv_at hl 1 rfl) ?_
  refine jv_if_lt (pc := 1) (tgt := 9) hx hb dM_noPlace_1 (by decide) (by omega) (fun h1 => ?_) (fun h1 => ?_)
  · skip
    refine lv_iconst (pc := 9) (v := iv 1) hx hb dM_noPlace_9 rfl ?_
    refine lv_goto (pc := 10) (tgt := 14) hx hb dM_noPlace_10 (by decide) ?_
    exact hret _ (1) dM_noPlace_14 (Or.inr rfl) ⟨rfl, by omega⟩ hP hD hS
  refine lv_iload_n (pc := 4) hx hb dM_noPlace_4 rfl (lv_at hl 1 rfl) ?_
  refine lv_iload_n (pc := 5) hx hb dM_noPlace_5 rfl (lv_at hl 2 rfl) ?_
  refine jv_icmp_lt (pc := 6) (tgt := 13) hx hb dM_noPlace_6 (by decide) (by omega) (by omega) (fun h2 => ?_) (fun h2 => ?_)
  · skip
    refine lv_iconst (pc := 13) (v := iv 0) hx hb dM_noPlace_13 rfl ?_
    exact hret _ (0) dM_noPlace_14 (Or.inl rfl) ⟨rfl, by omega⟩ hP hD hS
  refine lv_iconst (pc := 9) (v := iv 1) hx hb dM_noPlace_9 rfl ?_
  refine lv_goto (pc := 10) (tgt := 14) hx hb dM_noPlace_10 (by decide) ?_
  exact hret _ (1) dM_noPlace_14 (Or.inr rfl) ⟨rfl, by omega⟩ hP hD hS
set_option maxRecDepth 100000 in
set_option maxHeartbeats 4000000 in
theorem c_M_noSlot (l : Launch) (dC : Nat → ClassId) (dI : Nat → Nat → Nat) (cI : ClassId) (cZ : ClassId) (cG : ClassId) (cR : ClassId) (ad : Nat → Nat) (th : Int) (tb : Int → Int) (fi : Int → Int) (se : Int → Int) (lf : Int → Int) (ct : Int → Int) (ln : Int) (tx : Int → Int) (kl : Int → Int) (kp : Int → Int) (fl : Int) (fo : Int → Int) (ol : Int) (ot : Int → Int) (pl : Int → Int) (ky : Int) (nu : Int → Int) (yk : Int) (yn : Int → Int) (lc : Int → Int) (fw : Int → Int) (sd : Int → Int) (lw : Int → Int) (od : Int → Int) (sz : Nat) (k : Int) (hp : -2147483648 ≤ k ∧ k < 2147483648) : Met l yM_noSlot wsM_noSlot ({ frames := 0, cells := 0, slots := 0, locals := 0 }) (va_Pc [.ref (ad 0), .int (iv k)] (jPre (dC, dI) (jT cI cZ cG cR) (pM cI cZ cG cR ad th tb fi se lf ct ln tx kl kp fl fo ol ot pl ky nu yk yn lc fw sd lw od) sz)) (va_Qi (fun (r0 : Int32) (u : Int) => r0 = iv u ∧ ((u = 0 ∨ u = 1) ∧ (u = 1 ↔ (k < 0 ∨ 3 < k)))) (fun u => jEnd (dC, dI) (jT cI cZ cG cR) (va_A (pM cI cZ cG cR ad th tb fi se lf ct ln tx kl kp fl fo ol ot pl ky nu yk yn lc fw sd lw od) sz) (pM cI cZ cG cR ad th tb fi se lf ct ln tx kl kp fl fo ol ot pl ky nu yk yn lc fw sd lw od)) (va_A (pM cI cZ cG cR ad th tb fi se lf ct ln tx kl kp fl fo ol ot pl ky nu yk yn lc fw sd lw od) sz)) 0 0 (va_A (pM cI cZ cG cR ad th tb fi se lf ct ln tx kl kp fl fo ol ot pl ky nu yk yn lc fw sd lw od) sz) := by
  refine jv_mz (cc := cM_noSlot) (maxL := 2) (by decide) rfl (Nat.le_of_ble_eq_true rfl) ?_
  intro p0 e0 s0 m0 a0 b0 t0 c0 R0 Q0 A0 ls hx hb hts hown hml hRf hRl hA hK hret hl hP hD hS
  have hown : s0.vm.findClass "TextPipelineModel" = some m0.cls := hown
  have hw0 : ∀ w ∈ WS0, w.before a0 s0 = true := fun w h => hts w (List.mem_cons_of_mem _ h)
  have hl : lv_has ls 2 [(0, .ref (ad 0)), (1, .int (iv k))] := hl
  have hRf : 0 ≤ R0.frames := hRf
  have hRl : 0 ≤ R0.locals := hRl
  refine lv_iload_n (pc := 0) hx hb dM_noSlot_0 rfl (lv_at hl 1 rfl) ?_
  refine jv_if_lt (pc := 1) (tgt := 9) hx hb dM_noSlot_1 (by decide) (by omega) (fun h1 => ?_) (fun h1 => ?_)
  · skip
    refine lv_iconst (pc := 9) (v := iv 1) hx hb dM_noSlot_9 rfl ?_
    refine lv_goto (pc := 10) (tgt := 14) hx hb dM_noSlot_10 (by decide) ?_
    exact hret _ (1) dM_noSlot_14 (Or.inr rfl) ⟨rfl, by omega⟩ hP hD hS
  refine lv_iload_n (pc := 4) hx hb dM_noSlot_4 rfl (lv_at hl 1 rfl) ?_
  refine lv_iconst (pc := 5) (v := iv 3) hx hb dM_noSlot_5 rfl ?_
  refine jv_icmp_le (pc := 6) (tgt := 13) hx hb dM_noSlot_6 (by decide) (by omega) (by decide) (fun h2 => ?_) (fun h2 => ?_)
  · skip
    refine lv_iconst (pc := 13) (v := iv 0) hx hb dM_noSlot_13 rfl ?_
    exact hret _ (0) dM_noSlot_14 (Or.inl rfl) ⟨rfl, by omega⟩ hP hD hS
  refine lv_iconst (pc := 9) (v := iv 1) hx hb dM_noSlot_9 rfl ?_
  refine lv_goto (pc := 10) (tgt := 14) hx hb dM_noSlot_10 (by decide) ?_
  exact hret _ (1) dM_noSlot_14 (Or.inr rfl) ⟨rfl, by omega⟩ hP hD hS
set_option maxRecDepth 100000 in
set_option maxHeartbeats 4000000 in
theorem c_M_set (l : Launch) (dC : Nat → ClassId) (dI : Nat → Nat → Nat) (cI : ClassId) (cZ : ClassId) (cG : ClassId) (cR : ClassId) (ad : Nat → Nat) (th : Int) (tb : Int → Int) (fi : Int → Int) (se : Int → Int) (lf : Int → Int) (ct : Int → Int) (ln : Int) (tx : Int → Int) (kl : Int → Int) (kp : Int → Int) (fl : Int) (fo : Int → Int) (ol : Int) (ot : Int → Int) (pl : Int → Int) (ky : Int) (nu : Int → Int) (yk : Int) (yn : Int → Int) (lc : Int → Int) (fw : Int → Int) (sd : Int → Int) (lw : Int → Int) (od : Int → Int) (sz : Nat) (c : Int) (w : Int) (v : Int) (hc : -2147483648 ≤ c ∧ c < 2147483648) (hw : -2147483648 ≤ w ∧ w < 2147483648) (hv : -2147483648 ≤ v ∧ v < 2147483648) : Met l yM_set wsM_set ({ frames := 0, cells := 0, slots := 0, locals := 0 }) (va_Pc [.ref (ad 0), .int (iv c), .int (iv w), .int (iv v)] (jPre (dC, dI) (jT cI cZ cG cR) (pM cI cZ cG cR ad th tb fi se lf ct ln tx kl kp fl fo ol ot pl ky nu yk yn lc fw sd lw od) sz)) (va_Qv (fun u : Int × (Int → Int) => (u.1 = 0 ∧ setOK c w v ∧ u.2 = uI tb (40 * w + c) v) ∨ (u.1 = 1 ∧ ¬ setOK c w v ∧ u.2 = tb)) (fun u => jEnd (dC, dI) (jT cI cZ cG cR) (va_A (pM cI cZ cG cR ad th tb fi se lf ct ln tx kl kp fl fo ol ot pl ky nu yk yn lc fw sd lw od) sz) (pM cI cZ cG cR ad u.1 u.2 fi se lf ct ln tx kl kp fl fo ol ot pl ky nu yk yn lc fw sd lw od)) (va_A (pM cI cZ cG cR ad th tb fi se lf ct ln tx kl kp fl fo ol ot pl ky nu yk yn lc fw sd lw od) sz)) 0 0 (va_A (pM cI cZ cG cR ad th tb fi se lf ct ln tx kl kp fl fo ol ot pl ky nu yk yn lc fw sd lw od) sz) := by
  refine jv_mv (cc := cM_set) (maxL := 5) (by decide) rfl (Nat.le_of_ble_eq_true rfl) ?_
  intro p0 e0 s0 m0 a0 b0 t0 c0 R0 Q0 A0 ls hx hb hts hown hml hRf hRl hA hK hret hl hP hD hS
  have hown : s0.vm.findClass "TextPipelineModel" = some m0.cls := hown
  have hw0 : ∀ w ∈ WS0, w.before a0 s0 = true := fun w h => hts w (List.mem_cons_of_mem _ h)
  have hl : lv_has ls 5 [(0, .ref (ad 0)), (1, .int (iv c)), (2, .int (iv w)), (3, .int (iv v))] := hl
  have hRf : 0 ≤ R0.frames := hRf
  have hRl : 0 ≤ R0.locals := hRl
  have cut43 : ∀ (most : Int) (ls : Array Slot) (H : Heap) (locs : List Loc), ((w = 0 ∧ most = 254) ∨ (w = 1 ∧ most = 9) ∨ (w = 2 ∧ most = 12) ∨ (w = 3 ∧ most = 11) ∨ ((w < 0 ∨ 3 < w) ∧ most = 999)) → lv_has ls 5 [(0, .ref (ad 0)), (1, .int (iv c)), (2, .int (iv w)), (3, .int (iv v))] → va_P (dC, dI) vwCl (pM cI cZ cG cR ad th tb fi se lf ct ln tx kl kp fl fo ol ot pl ky nu yk yn lc fw sd lw od) H → va_D A0 (pM cI cZ cG cR ad th tb fi se lf ct ln tx kl kp fl fo ol ot pl ky nu yk yn lc fw sd lw od) → va_S A0 s0.heap H locs → W p0 l e0 R0 s0 m0 a0 b0 t0 c0 H locs 0 0 Q0 (F0 m0 43 ls [.int (iv most)]) := by
    intro most ls H locs hm hl hP hD hS
    refine lv_istore (pc := 43) (lv' := [(4, .int (iv most)), (0, .ref (ad 0)), (1, .int (iv c)), (2, .int (iv w)), (3, .int (iv v))]) hx hb dM_set_43 hl (by decide) rfl (fun ls hl => ?_)
    refine lv_aload_n (pc := 45) hx hb dM_set_45 rfl (lv_at hl 1 rfl) ?_
    have cut81 : ∀ (tv : Int) (ls : Array Slot) (H : Heap) (locs : List Loc), ((tv = 0 ∧ setOK c w v) ∨ (tv = 1 ∧ ¬ setOK c w v)) → lv_has ls 5 [(0, .ref (ad 0)), (1, .int (iv c)), (2, .int (iv w)), (3, .int (iv v))] → va_P (dC, dI) vwCl (pM cI cZ cG cR ad th tb fi se lf ct ln tx kl kp fl fo ol ot pl ky nu yk yn lc fw sd lw od) H → va_D A0 (pM cI cZ cG cR ad th tb fi se lf ct ln tx kl kp fl fo ol ot pl ky nu yk yn lc fw sd lw od) → va_S A0 s0.heap H locs → W p0 l e0 R0 s0 m0 a0 b0 t0 c0 H locs 0 0 Q0 (F0 m0 81 ls [.int (iv tv), .ref (ad 0)]) := by
      intro tv ls H locs ht hl hP hD hS
      refine jv_put (pc := 81) (D := (dC, dI)) (ci := 5) (v := .int (iv tv)) (ty := .int) (C := RM) (T := TM) (N := 24) (ws' := (pM cI cZ cG cR ad tv tb fi se lf ct ln tx kl kp fl fo ol ot pl ky nu yk yn lc fw sd lw od)) hx hb hw0 inM tyM tyM_ok nmM hown hK hP hD hS 0 rfl rfl 0 (by decide) (hw0 _ q651) (fun _ h9 => h9) rfl (by decide +kernel) rfl rfl (Nat.le_of_ble_eq_true rfl) dM_set_81 rfl (fun H locs hP hD hS => ?_)
      refine lv_aload_n (pc := 84) hx hb dM_set_84 rfl (lv_at hl 0 rfl) ?_
      refine va_get (pc := 85) (D := (dC, dI)) (ci := 5) (v := .int (iv tv)) (C := RM) (T := TM) (N := 24) hx hb hw0 inM hown hK hP 0 rfl rfl 0 (by decide) (hw0 _ q651) (fun _ h9 => h9) rfl dM_set_85 ?_
      refine jv_if_ne (pc := 88) (tgt := 103) hx hb dM_set_88 (by decide) (by omega) (fun h1 => ?_) (fun h1 => ?_)
      · skip
        exact hret (tv, tb) dM_set_103 (by first | exact Or.inl ⟨by omega, by rcases ht with h | h; exact h.2; omega, rfl⟩ | exact Or.inr ⟨by omega, by rcases ht with h | h; omega; exact h.2, rfl⟩) hP hD hS
      refine lv_aload_n (pc := 91) hx hb dM_set_91 rfl (lv_at hl 0 rfl) ?_
      refine va_get (pc := 92) (D := (dC, dI)) (ci := 5) (v := .ref (ad 1)) (C := RM) (T := TM) (N := 24) hx hb hw0 inM hown hK hP 0 rfl rfl 1 (by decide) (hw0 _ q652) (fun _ h9 => h9) rfl dM_set_92 ?_
      refine lv_bipush (pc := 95) (v := iv 40) hx hb dM_set_95 (by decide) ?_
      refine lv_iload_n (pc := 97) hx hb dM_set_97 rfl (lv_at hl 2 rfl) ?_
      refine jv_imul (pc := 98) (x := 40) (y := w) hx hb dM_set_98 ?_
      refine lv_iload_n (pc := 99) hx hb dM_set_99 rfl (lv_at hl 1 rfl) ?_
      refine jv_iadd (pc := 100) (x := 40 * w) (y := c) hx hb dM_set_100 ?_
      refine lv_iload_n (pc := 101) hx hb dM_set_101 rfl (lv_at hl 3 rfl) ?_
      refine jv_iast (pc := 102) (ws' := (pM cI cZ cG cR ad tv (uI tb ((40 * w) + c) v) fi se lf ct ln tx kl kp fl fo ol ot pl ky nu yk yn lc fw sd lw od)) hx hb hK hP hD hS 1 0 rfl rfl (by decide) (by unfold setOK at ht; omega) dM_set_102 rfl (fun H locs hP hD hS => ?_)
      exact hret (tv, (uI tb ((40 * w) + c) v)) dM_set_103 (by first | exact Or.inl ⟨by omega, by rcases ht with h | h; exact h.2; omega, rfl⟩ | exact Or.inr ⟨by omega, by rcases ht with h | h; omega; exact h.2, rfl⟩) hP hD hS
    refine lv_iload_n (pc := 46) hx hb dM_set_46 rfl (lv_at hl 2 rfl) ?_
    refine jv_if_lt (pc := 47) (tgt := 76) hx hb dM_set_47 (by decide) (by omega) (fun h2 => ?_) (fun h2 => ?_)
    · skip
      refine lv_iconst (pc := 76) (v := iv 1) hx hb dM_set_76 rfl ?_
      refine lv_goto (pc := 77) (tgt := 81) hx hb dM_set_77 (by decide) ?_
      exact cut81 1 _ _ _ (by unfold setOK; omega) (lv_sub hl [1, 2, 3, 4] rfl) hP hD hS
    refine lv_iload_n (pc := 50) hx hb dM_set_50 rfl (lv_at hl 2 rfl) ?_
    refine lv_bipush (pc := 51) (v := iv 39) hx hb dM_set_51 (by decide) ?_
    refine jv_icmp_gt (pc := 53) (tgt := 76) hx hb dM_set_53 (by decide) (by omega) (by decide) (fun h3 => ?_) (fun h3 => ?_)
    · skip
      refine lv_iconst (pc := 76) (v := iv 1) hx hb dM_set_76 rfl ?_
      refine lv_goto (pc := 77) (tgt := 81) hx hb dM_set_77 (by decide) ?_
      exact cut81 1 _ _ _ (by unfold setOK; omega) (lv_sub hl [1, 2, 3, 4] rfl) hP hD hS
    refine lv_iload_n (pc := 56) hx hb dM_set_56 rfl (lv_at hl 3 rfl) ?_
    refine jv_if_lt (pc := 57) (tgt := 76) hx hb dM_set_57 (by decide) (by omega) (fun h4 => ?_) (fun h4 => ?_)
    · skip
      refine lv_iconst (pc := 76) (v := iv 1) hx hb dM_set_76 rfl ?_
      refine lv_goto (pc := 77) (tgt := 81) hx hb dM_set_77 (by decide) ?_
      exact cut81 1 _ _ _ (by unfold setOK; omega) (lv_sub hl [1, 2, 3, 4] rfl) hP hD hS
    refine lv_iload_n (pc := 60) hx hb dM_set_60 rfl (lv_at hl 3 rfl) ?_
    refine lv_bipush (pc := 61) (v := iv 6) hx hb dM_set_61 (by decide) ?_
    refine jv_icmp_gt (pc := 63) (tgt := 76) hx hb dM_set_63 (by decide) (by omega) (by decide) (fun h5 => ?_) (fun h5 => ?_)
    · skip
      refine lv_iconst (pc := 76) (v := iv 1) hx hb dM_set_76 rfl ?_
      refine lv_goto (pc := 77) (tgt := 81) hx hb dM_set_77 (by decide) ?_
      exact cut81 1 _ _ _ (by unfold setOK; omega) (lv_sub hl [1, 2, 3, 4] rfl) hP hD hS
    refine lv_iload_n (pc := 66) hx hb dM_set_66 rfl (lv_at hl 4 rfl) ?_
    refine jv_if_lt (pc := 67) (tgt := 76) hx hb dM_set_67 (by decide) (by omega) (fun h6 => ?_) (fun h6 => ?_)
    · skip
      refine lv_iconst (pc := 76) (v := iv 1) hx hb dM_set_76 rfl ?_
      refine lv_goto (pc := 77) (tgt := 81) hx hb dM_set_77 (by decide) ?_
      exact cut81 1 _ _ _ (by unfold setOK; omega) (lv_sub hl [1, 2, 3, 4] rfl) hP hD hS
    refine lv_iload_n (pc := 70) hx hb dM_set_70 rfl (lv_at hl 4 rfl) ?_
    refine lv_iload (pc := 71) hx hb dM_set_71 (lv_at hl 0 rfl) ?_
    refine jv_icmp_le (pc := 73) (tgt := 80) hx hb dM_set_73 (by decide) (by omega) (by omega) (fun h7 => ?_) (fun h7 => ?_)
    · skip
      refine lv_iconst (pc := 80) (v := iv 0) hx hb dM_set_80 rfl ?_
      exact cut81 0 _ _ _ (by unfold setOK; omega) (lv_sub hl [1, 2, 3, 4] rfl) hP hD hS
    refine lv_iconst (pc := 76) (v := iv 1) hx hb dM_set_76 rfl ?_
    refine lv_goto (pc := 77) (tgt := 81) hx hb dM_set_77 (by decide) ?_
    exact cut81 1 _ _ _ (by unfold setOK; omega) (lv_sub hl [1, 2, 3, 4] rfl) hP hD hS
  refine lv_iload_n (pc := 0) hx hb dM_set_0 rfl (lv_at hl 2 rfl) ?_
  refine jv_if_ne (pc := 1) (tgt := 10) hx hb dM_set_1 (by decide) (by omega) (fun h8 => ?_) (fun h8 => ?_)
  · skip
    refine lv_iload_n (pc := 10) hx hb dM_set_10 rfl (lv_at hl 2 rfl) ?_
    refine lv_iconst (pc := 11) (v := iv 1) hx hb dM_set_11 rfl ?_
    refine jv_icmp_ne (pc := 12) (tgt := 20) hx hb dM_set_12 (by decide) (by omega) (by decide) (fun h9 => ?_) (fun h9 => ?_)
    · skip
      refine lv_iload_n (pc := 20) hx hb dM_set_20 rfl (lv_at hl 2 rfl) ?_
      refine lv_iconst (pc := 21) (v := iv 2) hx hb dM_set_21 rfl ?_
      refine jv_icmp_ne (pc := 22) (tgt := 30) hx hb dM_set_22 (by decide) (by omega) (by decide) (fun h10 => ?_) (fun h10 => ?_)
      · skip
        refine lv_iload_n (pc := 30) hx hb dM_set_30 rfl (lv_at hl 2 rfl) ?_
        refine lv_iconst (pc := 31) (v := iv 3) hx hb dM_set_31 rfl ?_
        refine jv_icmp_ne (pc := 32) (tgt := 40) hx hb dM_set_32 (by decide) (by omega) (by decide) (fun h11 => ?_) (fun h11 => ?_)
        · skip
          refine lv_sipush (pc := 40) (v := iv 999) hx hb dM_set_40 (by decide) ?_
          exact cut43 999 _ _ _ (by omega) hl hP hD hS
        refine lv_bipush (pc := 35) (v := iv 11) hx hb dM_set_35 (by decide) ?_
        refine lv_goto (pc := 37) (tgt := 43) hx hb dM_set_37 (by decide) ?_
        exact cut43 11 _ _ _ (by omega) hl hP hD hS
      refine lv_bipush (pc := 25) (v := iv 12) hx hb dM_set_25 (by decide) ?_
      refine lv_goto (pc := 27) (tgt := 43) hx hb dM_set_27 (by decide) ?_
      exact cut43 12 _ _ _ (by omega) hl hP hD hS
    refine lv_bipush (pc := 15) (v := iv 9) hx hb dM_set_15 (by decide) ?_
    refine lv_goto (pc := 17) (tgt := 43) hx hb dM_set_17 (by decide) ?_
    exact cut43 9 _ _ _ (by omega) hl hP hD hS
  refine lv_sipush (pc := 4) (v := iv 254) hx hb dM_set_4 (by decide) ?_
  refine lv_goto (pc := 7) (tgt := 43) hx hb dM_set_7 (by decide) ?_
  exact cut43 254 _ _ _ (by omega) hl hP hD hS
set_option maxRecDepth 100000 in
set_option maxHeartbeats 4000000 in
theorem c_M_isShort (l : Launch) (dC : Nat → ClassId) (dI : Nat → Nat → Nat) (cI : ClassId) (cZ : ClassId) (cG : ClassId) (cR : ClassId) (ad : Nat → Nat) (th : Int) (tb : Int → Int) (fi : Int → Int) (se : Int → Int) (lf : Int → Int) (ct : Int → Int) (ln : Int) (tx : Int → Int) (kl : Int → Int) (kp : Int → Int) (fl : Int) (fo : Int → Int) (ol : Int) (ot : Int → Int) (pl : Int → Int) (ky : Int) (nu : Int → Int) (yk : Int) (yn : Int → Int) (lc : Int → Int) (fw : Int → Int) (sd : Int → Int) (lw : Int → Int) (od : Int → Int) (sz : Nat) (hv : vpt fi se) : Met l yM_isShort wsM_isShort ({ frames := 0, cells := 0, slots := 0, locals := 0 }) (va_Pc [.ref (ad 0)] (jPre (dC, dI) (jT cI cZ cG cR) (pM cI cZ cG cR ad th tb fi se lf ct ln tx kl kp fl fo ol ot pl ky nu yk yn lc fw sd lw od) sz)) (va_Qi (fun (r0 : Int32) (u : Int × (Int → Int)) => r0 = iv u.1 ∧ ((u.1 = 0 ∨ u.1 = 1) ∧ (u.1 = 1 ↔ (∀ j, 0 ≤ j → j < 40 → KC fi se j ≤ 4)))) (fun u => jEnd (dC, dI) (jT cI cZ cG cR) (va_A (pM cI cZ cG cR ad th tb fi se lf ct ln tx kl kp fl fo ol ot pl ky nu yk yn lc fw sd lw od) sz) (pM cI cZ cG cR ad th tb fi se lf u.2 ln tx kl kp fl fo ol ot pl ky nu yk yn lc fw sd lw od)) (va_A (pM cI cZ cG cR ad th tb fi se lf ct ln tx kl kp fl fo ol ot pl ky nu yk yn lc fw sd lw od) sz)) 0 0 (va_A (pM cI cZ cG cR ad th tb fi se lf ct ln tx kl kp fl fo ol ot pl ky nu yk yn lc fw sd lw od) sz) := by
  refine jv_mz (cc := cM_isShort) (maxL := 3) (by decide) rfl (Nat.le_of_ble_eq_true rfl) ?_
  intro p0 e0 s0 m0 a0 b0 t0 c0 R0 Q0 A0 ls hx hb hts hown hml hRf hRl hA hK hret hl hP hD hS
  have hown : s0.vm.findClass "TextPipelineModel" = some m0.cls := hown
  have hw0 : ∀ w ∈ WS0, w.before a0 s0 = true := fun w h => hts w (List.mem_cons_of_mem _ h)
  have hl : lv_has ls 3 [(0, .ref (ad 0))] := hl
  have hRf : 0 ≤ R0.frames := hRf
  have hRl : 0 ≤ R0.locals := hRl
  refine lv_iconst (pc := 0) (v := iv 1) hx hb dM_isShort_0 rfl ?_
  refine lv_istore_n (pc := 1) (lv' := [(1, .int (iv 1)), (0, .ref (ad 0))]) hx hb dM_isShort_1 rfl hl (by decide) rfl (fun ls hl => ?_)
  refine lv_iconst (pc := 2) (v := iv 0) hx hb dM_isShort_2 rfl ?_
  refine lv_istore_n (pc := 3) (lv' := [(2, .int (iv 0)), (1, .int (iv 1)), (0, .ref (ad 0))]) hx hb dM_isShort_3 rfl hl (by decide) rfl (fun ls hl => ?_)
  have cut4 : ∀ (n0 : Nat) (al : Int) (c : Int) (ct1 : Int → Int) (ls : Array Slot) (H : Heap) (locs : List Loc), (0 ≤ c ∧ c ≤ 40) → (al = 0 ∨ al = 1) → (∀ j, 0 ≤ j → j < c → ct1 j = KC fi se j) → (al = 1 ↔ ∀ j, 0 ≤ j → j < c → KC fi se j ≤ 4) → ((40 - c : Int).toNat < n0) → lv_has ls 3 [(0, .ref (ad 0)), (1, .int (iv al)), (2, .int (iv c))] → va_P (dC, dI) vwCl (pM cI cZ cG cR ad th tb fi se lf ct1 ln tx kl kp fl fo ol ot pl ky nu yk yn lc fw sd lw od) H → va_D A0 (pM cI cZ cG cR ad th tb fi se lf ct1 ln tx kl kp fl fo ol ot pl ky nu yk yn lc fw sd lw od) → va_S A0 s0.heap H locs → W p0 l e0 R0 s0 m0 a0 b0 t0 c0 H locs 0 0 Q0 (F0 m0 4 ls []) := by
    intro n0
    induction n0 with
    | zero => intro al c ct1 ls H locs hc ha hq hal hm hl hP hD hS; exact absurd hm (Nat.not_lt_zero _)
    | succ n0 ih4 =>
      intro al c ct1 ls H locs hc ha hq hal hm4 hl hP hD hS
      refine lv_iload_n (pc := 4) hx hb dM_isShort_4 rfl (lv_at hl 2 rfl) ?_
      refine lv_bipush (pc := 5) (v := iv 40) hx hb dM_isShort_5 (by decide) ?_
      refine jv_icmp_ge (pc := 7) (tgt := 117) hx hb dM_isShort_7 (by decide) (by omega) (by decide) (fun h1 => ?_) (fun h1 => ?_)
      · skip
        refine lv_iload_n (pc := 117) hx hb dM_isShort_117 rfl (lv_at hl 1 rfl) ?_
        exact hret _ (al, ct1) dM_isShort_118 (by rcases ha with rfl | rfl; exact Or.inl rfl; exact Or.inr rfl) ⟨rfl, by refine ⟨ha, ?_⟩; rw [hal, show c = 40 by omega]⟩ hP hD hS
      have hvc := hv c (by omega) (by omega)
      have hkc := KC_rng hv 40 c (by omega) (by omega) (by omega)
      refine lv_aload_n (pc := 10) hx hb dM_isShort_10 rfl (lv_at hl 0 rfl) ?_
      refine va_get (pc := 11) (D := (dC, dI)) (ci := 5) (v := .ref (ad 5)) (C := RM) (T := TM) (N := 24) hx hb hw0 inM hown hK hP 0 rfl rfl 5 (by decide) (hw0 _ q656) (fun _ h9 => h9) rfl dM_isShort_11 ?_
      refine lv_iload_n (pc := 14) hx hb dM_isShort_14 rfl (lv_at hl 2 rfl) ?_
      have cut64 : ∀ (x : Int) (ls : Array Slot) (H : Heap) (locs : List Loc), ((fi c < 0 ∧ x = 1) ∨ (0 ≤ fi c ∧ se c < 0 ∧ x = KC fi se (fi c)) ∨ (0 ≤ fi c ∧ 0 ≤ se c ∧ x = KC fi se (fi c) + KC fi se (se c))) → lv_has ls 3 [(0, .ref (ad 0)), (1, .int (iv al)), (2, .int (iv c))] → va_P (dC, dI) vwCl (pM cI cZ cG cR ad th tb fi se lf ct1 ln tx kl kp fl fo ol ot pl ky nu yk yn lc fw sd lw od) H → va_D A0 (pM cI cZ cG cR ad th tb fi se lf ct1 ln tx kl kp fl fo ol ot pl ky nu yk yn lc fw sd lw od) → va_S A0 s0.heap H locs → W p0 l e0 R0 s0 m0 a0 b0 t0 c0 H locs 0 0 Q0 (F0 m0 64 ls [.int (iv x), .int (iv c), .ref (ad 5)]) := by
        intro x ls H locs hxx hl hP hD hS
        refine jv_iast (pc := 64) (ws' := (pM cI cZ cG cR ad th tb fi se lf (uI ct1 c x) ln tx kl kp fl fo ol ot pl ky nu yk yn lc fw sd lw od)) hx hb hK hP hD hS 5 0 rfl rfl (by decide) (by omega) dM_isShort_64 rfl (fun H locs hP hD hS => ?_)
        obtain ⟨ct2, ect2⟩ : ∃ z, z = (uI ct1 c x) := ⟨_, rfl⟩
        rw [← ect2] at hP hD
        have hk1 : 0 ≤ fi c → 1 ≤ KC fi se (fi c) ∧ KC fi se (fi c) ≤ 5 := fun z => KC_rng hv 40 (fi c) z (by omega) (by omega)
        have hk2 : 0 ≤ se c → 1 ≤ KC fi se (se c) ∧ KC fi se (se c) ≤ 5 := fun z => KC_rng hv 40 (se c) z (by omega) (by omega)
        have hxr : 1 ≤ x ∧ x ≤ 10 := by omega
        have hc2 : ct2 c = x := by rw [ect2]; exact uI_s
        refine lv_aload_n (pc := 65) hx hb dM_isShort_65 rfl (lv_at hl 0 rfl) ?_
        refine va_get (pc := 66) (D := (dC, dI)) (ci := 5) (v := .ref (ad 5)) (C := RM) (T := TM) (N := 24) hx hb hw0 inM hown hK hP 0 rfl rfl 5 (by decide) (hw0 _ q656) (fun _ h9 => h9) rfl dM_isShort_66 ?_
        refine lv_iload_n (pc := 69) hx hb dM_isShort_69 rfl (lv_at hl 2 rfl) ?_
        have cut90 : ∀ (y : Int) (ls : Array Slot) (H : Heap) (locs : List Loc), (y = KC fi se c) → lv_has ls 3 [(0, .ref (ad 0)), (1, .int (iv al)), (2, .int (iv c))] → va_P (dC, dI) vwCl (pM cI cZ cG cR ad th tb fi se lf ct2 ln tx kl kp fl fo ol ot pl ky nu yk yn lc fw sd lw od) H → va_D A0 (pM cI cZ cG cR ad th tb fi se lf ct2 ln tx kl kp fl fo ol ot pl ky nu yk yn lc fw sd lw od) → va_S A0 s0.heap H locs → W p0 l e0 R0 s0 m0 a0 b0 t0 c0 H locs 0 0 Q0 (F0 m0 90 ls [.int (iv y), .int (iv c), .ref (ad 5)]) := by
          intro y ls H locs hy hl hP hD hS
          refine jv_iast (pc := 90) (ws' := (pM cI cZ cG cR ad th tb fi se lf (uI ct2 c y) ln tx kl kp fl fo ol ot pl ky nu yk yn lc fw sd lw od)) hx hb hK hP hD hS 5 0 rfl rfl (by decide) (by omega) dM_isShort_90 rfl (fun H locs hP hD hS => ?_)
          obtain ⟨ct3, ect3⟩ : ∃ z, z = (uI ct2 c y) := ⟨_, rfl⟩
          rw [← ect3] at hP hD
          have hc3 : ct3 c = y := by rw [ect3]; exact uI_s
          have cut110 : ∀ (al2 : Int) (ls : Array Slot) (H : Heap) (locs : List Loc), (al2 = 0 ∨ al2 = 1) → (al2 = 1 ↔ (al = 1 ∧ KC fi se c ≤ 4)) → lv_has ls 3 [(0, .ref (ad 0)), (1, .int (iv al)), (2, .int (iv c))] → va_P (dC, dI) vwCl (pM cI cZ cG cR ad th tb fi se lf ct3 ln tx kl kp fl fo ol ot pl ky nu yk yn lc fw sd lw od) H → va_D A0 (pM cI cZ cG cR ad th tb fi se lf ct3 ln tx kl kp fl fo ol ot pl ky nu yk yn lc fw sd lw od) → va_S A0 s0.heap H locs → W p0 l e0 R0 s0 m0 a0 b0 t0 c0 H locs 0 0 Q0 (F0 m0 110 ls [.int (iv al2)]) := by
            intro al2 ls H locs ha2 hb2 hl hP hD hS
            refine lv_istore_n (pc := 110) (lv' := [(1, .int (iv al2)), (0, .ref (ad 0)), (2, .int (iv c))]) hx hb dM_isShort_110 rfl hl (by decide) rfl (fun ls hl => ?_)
            refine jv_iinc (pc := 111) (k := 2) (x := c) (n := 1) (lv' := [(2, .int (iv (c + 1))), (1, .int (iv al2)), (0, .ref (ad 0))]) hx hb dM_isShort_111 hl rfl (by decide) rfl (fun ls hl => ?_)
            refine lv_goto (pc := 114) (tgt := 4) hx hb dM_isShort_114 (by decide) ?_
            exact ih4 al2 (c + 1) ct3 _ _ _ (by omega) (by omega) (by exact all_succ (fun j h1 h2 => by rw [ect3, uI_n (by omega), ect2, uI_n (by omega)]; exact hq j h1 h2) (by omega)) (by rw [hb2, hal]; exact ⟨fun h => all_succ h.1 h.2, fun h => ⟨fun j h1 h2 => h j h1 (by omega), h c (by omega) (by omega)⟩⟩) (by omega) (lv_sub hl [2, 1, 0] rfl) hP hD hS
          refine lv_iload_n (pc := 91) hx hb dM_isShort_91 rfl (lv_at hl 1 rfl) ?_
          refine jv_if_eq (pc := 92) (tgt := 109) hx hb dM_isShort_92 (by decide) (by omega) (fun h2 => ?_) (fun h2 => ?_)
          · skip
            refine lv_iconst (pc := 109) (v := iv 0) hx hb dM_isShort_109 rfl ?_
            exact cut110 0 _ _ _ (by omega) (by omega) hl hP hD hS
          refine lv_aload_n (pc := 95) hx hb dM_isShort_95 rfl (lv_at hl 0 rfl) ?_
          refine va_get (pc := 96) (D := (dC, dI)) (ci := 5) (v := .ref (ad 5)) (C := RM) (T := TM) (N := 24) hx hb hw0 inM hown hK hP 0 rfl rfl 5 (by decide) (hw0 _ q656) (fun _ h9 => h9) rfl dM_isShort_96 ?_
          refine lv_iload_n (pc := 99) hx hb dM_isShort_99 rfl (lv_at hl 2 rfl) ?_
          refine jv_iald (pc := 100) hx hb hK hP 5 0 rfl rfl (by decide) (by omega) dM_isShort_100 ?_
          refine lv_iconst (pc := 101) (v := iv 4) hx hb dM_isShort_101 rfl ?_
          refine jv_icmp_gt (pc := 102) (tgt := 109) hx hb dM_isShort_102 (by decide) (by omega) (by decide) (fun h3 => ?_) (fun h3 => ?_)
          · skip
            refine lv_iconst (pc := 109) (v := iv 0) hx hb dM_isShort_109 rfl ?_
            exact cut110 0 _ _ _ (by omega) (by omega) hl hP hD hS
          refine lv_iconst (pc := 105) (v := iv 1) hx hb dM_isShort_105 rfl ?_
          refine lv_goto (pc := 106) (tgt := 110) hx hb dM_isShort_106 (by decide) ?_
          exact cut110 1 _ _ _ (by omega) (by omega) hl hP hD hS
        refine lv_aload_n (pc := 70) hx hb dM_isShort_70 rfl (lv_at hl 0 rfl) ?_
        refine va_get (pc := 71) (D := (dC, dI)) (ci := 5) (v := .ref (ad 5)) (C := RM) (T := TM) (N := 24) hx hb hw0 inM hown hK hP 0 rfl rfl 5 (by decide) (hw0 _ q656) (fun _ h9 => h9) rfl dM_isShort_71 ?_
        refine lv_iload_n (pc := 74) hx hb dM_isShort_74 rfl (lv_at hl 2 rfl) ?_
        refine jv_iald (pc := 75) hx hb hK hP 5 0 rfl rfl (by decide) (by omega) dM_isShort_75 ?_
        refine lv_iconst (pc := 76) (v := iv 5) hx hb dM_isShort_76 rfl ?_
        refine jv_icmp_le (pc := 77) (tgt := 84) hx hb dM_isShort_77 (by decide) (by omega) (by decide) (fun h4 => ?_) (fun h4 => ?_)
        · skip
          refine lv_aload_n (pc := 84) hx hb dM_isShort_84 rfl (lv_at hl 0 rfl) ?_
          refine va_get (pc := 85) (D := (dC, dI)) (ci := 5) (v := .ref (ad 5)) (C := RM) (T := TM) (N := 24) hx hb hw0 inM hown hK hP 0 rfl rfl 5 (by decide) (hw0 _ q656) (fun _ h9 => h9) rfl dM_isShort_85 ?_
          refine lv_iload_n (pc := 88) hx hb dM_isShort_88 rfl (lv_at hl 2 rfl) ?_
          refine jv_iald (pc := 89) hx hb hK hP 5 0 rfl rfl (by decide) (by omega) dM_isShort_89 ?_
          exact cut90 (ct2 c) _ _ _ (by exact KC_step hv (by omega) (by omega) hxx (by omega)) hl hP hD hS
        refine lv_iconst (pc := 80) (v := iv 5) hx hb dM_isShort_80 rfl ?_
        refine lv_goto (pc := 81) (tgt := 90) hx hb dM_isShort_81 (by decide) ?_
        exact cut90 5 _ _ _ (by exact KC_step hv (by omega) (by omega) hxx (by omega)) hl hP hD hS
      refine lv_aload_n (pc := 15) hx hb dM_isShort_15 rfl (lv_at hl 0 rfl) ?_
      refine va_get (pc := 16) (D := (dC, dI)) (ci := 5) (v := .ref (ad 2)) (C := RM) (T := TM) (N := 24) hx hb hw0 inM hown hK hP 0 rfl rfl 2 (by decide) (hw0 _ q653) (fun _ h9 => h9) rfl dM_isShort_16 ?_
      refine lv_iload_n (pc := 19) hx hb dM_isShort_19 rfl (lv_at hl 2 rfl) ?_
      refine jv_iald (pc := 20) hx hb hK hP 2 0 rfl rfl (by decide) (by omega) dM_isShort_20 ?_
      refine jv_if_ge (pc := 21) (tgt := 28) hx hb dM_isShort_21 (by decide) (by omega) (fun h5 => ?_) (fun h5 => ?_)
      · skip
        refine lv_aload_n (pc := 28) hx hb dM_isShort_28 rfl (lv_at hl 0 rfl) ?_
        refine va_get (pc := 29) (D := (dC, dI)) (ci := 5) (v := .ref (ad 5)) (C := RM) (T := TM) (N := 24) hx hb hw0 inM hown hK hP 0 rfl rfl 5 (by decide) (hw0 _ q656) (fun _ h9 => h9) rfl dM_isShort_29 ?_
        refine lv_aload_n (pc := 32) hx hb dM_isShort_32 rfl (lv_at hl 0 rfl) ?_
        refine va_get (pc := 33) (D := (dC, dI)) (ci := 5) (v := .ref (ad 2)) (C := RM) (T := TM) (N := 24) hx hb hw0 inM hown hK hP 0 rfl rfl 2 (by decide) (hw0 _ q653) (fun _ h9 => h9) rfl dM_isShort_33 ?_
        refine lv_iload_n (pc := 36) hx hb dM_isShort_36 rfl (lv_at hl 2 rfl) ?_
        refine jv_iald (pc := 37) hx hb hK hP 2 0 rfl rfl (by decide) (by omega) dM_isShort_37 ?_
        refine jv_iald (pc := 38) hx hb hK hP 5 0 rfl rfl (by decide) (by omega) dM_isShort_38 ?_
        refine lv_aload_n (pc := 39) hx hb dM_isShort_39 rfl (lv_at hl 0 rfl) ?_
        refine va_get (pc := 40) (D := (dC, dI)) (ci := 5) (v := .ref (ad 3)) (C := RM) (T := TM) (N := 24) hx hb hw0 inM hown hK hP 0 rfl rfl 3 (by decide) (hw0 _ q654) (fun _ h9 => h9) rfl dM_isShort_40 ?_
        refine lv_iload_n (pc := 43) hx hb dM_isShort_43 rfl (lv_at hl 2 rfl) ?_
        refine jv_iald (pc := 44) hx hb hK hP 3 0 rfl rfl (by decide) (by omega) dM_isShort_44 ?_
        refine jv_if_ge (pc := 45) (tgt := 52) hx hb dM_isShort_45 (by decide) (by omega) (fun h6 => ?_) (fun h6 => ?_)
        · skip
          refine lv_aload_n (pc := 52) hx hb dM_isShort_52 rfl (lv_at hl 0 rfl) ?_
          refine va_get (pc := 53) (D := (dC, dI)) (ci := 5) (v := .ref (ad 5)) (C := RM) (T := TM) (N := 24) hx hb hw0 inM hown hK hP 0 rfl rfl 5 (by decide) (hw0 _ q656) (fun _ h9 => h9) rfl dM_isShort_53 ?_
          refine lv_aload_n (pc := 56) hx hb dM_isShort_56 rfl (lv_at hl 0 rfl) ?_
          refine va_get (pc := 57) (D := (dC, dI)) (ci := 5) (v := .ref (ad 3)) (C := RM) (T := TM) (N := 24) hx hb hw0 inM hown hK hP 0 rfl rfl 3 (by decide) (hw0 _ q654) (fun _ h9 => h9) rfl dM_isShort_57 ?_
          refine lv_iload_n (pc := 60) hx hb dM_isShort_60 rfl (lv_at hl 2 rfl) ?_
          refine jv_iald (pc := 61) hx hb hK hP 3 0 rfl rfl (by decide) (by omega) dM_isShort_61 ?_
          refine jv_iald (pc := 62) hx hb hK hP 5 0 rfl rfl (by decide) (by omega) dM_isShort_62 ?_
          refine jv_iadd (pc := 63) (x := ct1 (fi c)) (y := ct1 (se c)) hx hb dM_isShort_63 ?_
          exact cut64 ((ct1 (fi c)) + (ct1 (se c))) _ _ _ (by first | omega | (have e1 := hq (fi c) (by omega) (by omega); first | omega | (have e2 := hq (se c) (by omega) (by omega); omega))) hl hP hD hS
        refine lv_iconst (pc := 48) (v := iv 0) hx hb dM_isShort_48 rfl ?_
        refine lv_goto (pc := 49) (tgt := 63) hx hb dM_isShort_49 (by decide) ?_
        refine jv_iadd (pc := 63) (x := ct1 (fi c)) (y := 0) hx hb dM_isShort_63 ?_
        exact cut64 ((ct1 (fi c)) + 0) _ _ _ (by first | omega | (have e1 := hq (fi c) (by omega) (by omega); first | omega | (have e2 := hq (se c) (by omega) (by omega); omega))) hl hP hD hS
      refine lv_iconst (pc := 24) (v := iv 1) hx hb dM_isShort_24 rfl ?_
      refine lv_goto (pc := 25) (tgt := 64) hx hb dM_isShort_25 (by decide) ?_
      exact cut64 1 _ _ _ (by first | omega | (have e1 := hq (fi c) (by omega) (by omega); first | omega | (have e2 := hq (se c) (by omega) (by omega); omega))) hl hP hD hS
  exact cut4 (((40 - 0 : Int).toNat) + 1) 1 0 ct _ _ _ (by omega) (by omega) (by intro j h1 h2; omega) (by exact ⟨fun _ j h1 h2 => by omega, fun _ => rfl⟩) (Nat.lt_succ_self _) (lv_sub hl [2, 1, 0] rfl) hP hD hS
set_option maxRecDepth 100000 in
set_option maxHeartbeats 4000000 in
theorem c_M_put (l : Launch) (dC : Nat → ClassId) (dI : Nat → Nat → Nat) (cI : ClassId) (cZ : ClassId) (cG : ClassId) (cR : ClassId) (ad : Nat → Nat) (th : Int) (tb : Int → Int) (fi : Int → Int) (se : Int → Int) (lf : Int → Int) (ct : Int → Int) (ln : Int) (tx : Int → Int) (kl : Int → Int) (kp : Int → Int) (fl : Int) (fo : Int → Int) (ol : Int) (ot : Int → Int) (pl : Int → Int) (ky : Int) (nu : Int → Int) (yk : Int) (yn : Int → Int) (lc : Int → Int) (fw : Int → Int) (sd : Int → Int) (lw : Int → Int) (od : Int → Int) (sz : Nat) (c : Int) (hp : 0 ≤ fl ∧ fl < 170) : Met l yM_put wsM_put ({ frames := 0, cells := 0, slots := 0, locals := 0 }) (va_Pc [.ref (ad 0), .int (iv c)] (jPre (dC, dI) (jT cI cZ cG cR) (pM cI cZ cG cR ad th tb fi se lf ct ln tx kl kp fl fo ol ot pl ky nu yk yn lc fw sd lw od) sz)) (va_Qv (fun u : Int × (Int → Int) => u.1 = fl + 1 ∧ u.2 = uI fo fl c) (fun u => jEnd (dC, dI) (jT cI cZ cG cR) (va_A (pM cI cZ cG cR ad th tb fi se lf ct ln tx kl kp fl fo ol ot pl ky nu yk yn lc fw sd lw od) sz) (pM cI cZ cG cR ad th tb fi se lf ct ln tx kl kp u.1 u.2 ol ot pl ky nu yk yn lc fw sd lw od)) (va_A (pM cI cZ cG cR ad th tb fi se lf ct ln tx kl kp fl fo ol ot pl ky nu yk yn lc fw sd lw od) sz)) 0 0 (va_A (pM cI cZ cG cR ad th tb fi se lf ct ln tx kl kp fl fo ol ot pl ky nu yk yn lc fw sd lw od) sz) := by
  refine jv_mv (cc := cM_put) (maxL := 2) (by decide) rfl (Nat.le_of_ble_eq_true rfl) ?_
  intro p0 e0 s0 m0 a0 b0 t0 c0 R0 Q0 A0 ls hx hb hts hown hml hRf hRl hA hK hret hl hP hD hS
  have hown : s0.vm.findClass "TextPipelineModel" = some m0.cls := hown
  have hw0 : ∀ w ∈ WS0, w.before a0 s0 = true := fun w h => hts w (List.mem_cons_of_mem _ h)
  have hl : lv_has ls 2 [(0, .ref (ad 0)), (1, .int (iv c))] := hl
  have hRf : 0 ≤ R0.frames := hRf
  have hRl : 0 ≤ R0.locals := hRl
  refine lv_aload_n (pc := 0) hx hb dM_put_0 rfl (lv_at hl 0 rfl) ?_
  refine va_get (pc := 1) (D := (dC, dI)) (ci := 5) (v := .ref (ad 11)) (C := RM) (T := TM) (N := 24) hx hb hw0 inM hown hK hP 0 rfl rfl 11 (by decide) (hw0 _ q662) (fun _ h9 => h9) rfl dM_put_1 ?_
  refine lv_aload_n (pc := 4) hx hb dM_put_4 rfl (lv_at hl 0 rfl) ?_
  refine va_get (pc := 5) (D := (dC, dI)) (ci := 5) (v := .int (iv fl)) (C := RM) (T := TM) (N := 24) hx hb hw0 inM hown hK hP 0 rfl rfl 10 (by decide) (hw0 _ q661) (fun _ h9 => h9) rfl dM_put_5 ?_
  refine lv_iload_n (pc := 8) hx hb dM_put_8 rfl (lv_at hl 1 rfl) ?_
  refine jv_iast (pc := 9) (ws' := (pM cI cZ cG cR ad th tb fi se lf ct ln tx kl kp fl (uI fo fl c) ol ot pl ky nu yk yn lc fw sd lw od)) hx hb hK hP hD hS 9 0 rfl rfl (by decide) (by omega) dM_put_9 rfl (fun H locs hP hD hS => ?_)
  refine lv_aload_n (pc := 10) hx hb dM_put_10 rfl (lv_at hl 0 rfl) ?_
  refine lv_dup (pc := 11) hx hb dM_put_11 rfl ?_
  refine va_get (pc := 12) (D := (dC, dI)) (ci := 5) (v := .int (iv fl)) (C := RM) (T := TM) (N := 24) hx hb hw0 inM hown hK hP 0 rfl rfl 10 (by decide) (hw0 _ q661) (fun _ h9 => h9) rfl dM_put_12 ?_
  refine lv_iconst (pc := 15) (v := iv 1) hx hb dM_put_15 rfl ?_
  refine jv_iadd (pc := 16) (x := fl) (y := 1) hx hb dM_put_16 ?_
  refine jv_put (pc := 17) (D := (dC, dI)) (ci := 5) (v := .int (iv (fl + 1))) (ty := .int) (C := RM) (T := TM) (N := 24) (ws' := (pM cI cZ cG cR ad th tb fi se lf ct ln tx kl kp (fl + 1) (uI fo fl c) ol ot pl ky nu yk yn lc fw sd lw od)) hx hb hw0 inM tyM tyM_ok nmM hown hK hP hD hS 0 rfl rfl 10 (by decide) (hw0 _ q661) (fun _ h9 => h9) rfl (by decide +kernel) rfl rfl (Nat.le_of_ble_eq_true rfl) dM_put_17 rfl (fun H locs hP hD hS => ?_)
  exact hret (fl + 1, (uI fo fl c)) dM_put_20 (by exact ⟨rfl, rfl⟩) hP hD hS
set_option maxRecDepth 100000 in
set_option maxHeartbeats 4000000 in
theorem c_M_wipe (l : Launch) (dC : Nat → ClassId) (dI : Nat → Nat → Nat) (cI : ClassId) (cZ : ClassId) (cG : ClassId) (cR : ClassId) (ad : Nat → Nat) (th : Int) (tb : Int → Int) (fi : Int → Int) (se : Int → Int) (lf : Int → Int) (ct : Int → Int) (ln : Int) (tx : Int → Int) (kl : Int → Int) (kp : Int → Int) (fl : Int) (fo : Int → Int) (ol : Int) (ot : Int → Int) (pl : Int → Int) (ky : Int) (nu : Int → Int) (yk : Int) (yn : Int → Int) (lc : Int → Int) (fw : Int → Int) (sd : Int → Int) (lw : Int → Int) (od : Int → Int) (sz : Nat) : Met l yM_wipe wsM_wipe ({ frames := 0, cells := 0, slots := 0, locals := 0 }) (va_Pc [.ref (ad 0)] (jPre (dC, dI) (jT cI cZ cG cR) (pM cI cZ cG cR ad th tb fi se lf ct ln tx kl kp fl fo ol ot pl ky nu yk yn lc fw sd lw od) sz)) (va_Qv (fun u : Int × Int => u.1 = 0 ∧ u.2 = 0) (fun u => jEnd (dC, dI) (jT cI cZ cG cR) (va_A (pM cI cZ cG cR ad th tb fi se lf ct ln tx kl kp fl fo ol ot pl ky nu yk yn lc fw sd lw od) sz) (pM cI cZ cG cR ad u.1 tb fi se lf ct u.2 tx kl kp fl fo ol ot pl ky nu yk yn lc fw sd lw od)) (va_A (pM cI cZ cG cR ad th tb fi se lf ct ln tx kl kp fl fo ol ot pl ky nu yk yn lc fw sd lw od) sz)) 0 0 (va_A (pM cI cZ cG cR ad th tb fi se lf ct ln tx kl kp fl fo ol ot pl ky nu yk yn lc fw sd lw od) sz) := by
  refine jv_mv (cc := cM_wipe) (maxL := 1) (by decide) rfl (Nat.le_of_ble_eq_true rfl) ?_
  intro p0 e0 s0 m0 a0 b0 t0 c0 R0 Q0 A0 ls hx hb hts hown hml hRf hRl hA hK hret hl hP hD hS
  have hown : s0.vm.findClass "TextPipelineModel" = some m0.cls := hown
  have hw0 : ∀ w ∈ WS0, w.before a0 s0 = true := fun w h => hts w (List.mem_cons_of_mem _ h)
  have hl : lv_has ls 1 [(0, .ref (ad 0))] := hl
  have hRf : 0 ≤ R0.frames := hRf
  have hRl : 0 ≤ R0.locals := hRl
  refine lv_aload_n (pc := 0) hx hb dM_wipe_0 rfl (lv_at hl 0 rfl) ?_
  refine lv_iconst (pc := 1) (v := iv 0) hx hb dM_wipe_1 rfl ?_
  refine jv_put (pc := 2) (D := (dC, dI)) (ci := 5) (v := .int (iv 0)) (ty := .int) (C := RM) (T := TM) (N := 24) (ws' := (pM cI cZ cG cR ad 0 tb fi se lf ct ln tx kl kp fl fo ol ot pl ky nu yk yn lc fw sd lw od)) hx hb hw0 inM tyM tyM_ok nmM hown hK hP hD hS 0 rfl rfl 0 (by decide) (hw0 _ q651) (fun _ h9 => h9) rfl (by decide +kernel) rfl rfl (Nat.le_of_ble_eq_true rfl) dM_wipe_2 rfl (fun H locs hP hD hS => ?_)
  refine lv_aload_n (pc := 5) hx hb dM_wipe_5 rfl (lv_at hl 0 rfl) ?_
  refine lv_iconst (pc := 6) (v := iv 0) hx hb dM_wipe_6 rfl ?_
  refine jv_put (pc := 7) (D := (dC, dI)) (ci := 5) (v := .int (iv 0)) (ty := .int) (C := RM) (T := TM) (N := 24) (ws' := (pM cI cZ cG cR ad 0 tb fi se lf ct 0 tx kl kp fl fo ol ot pl ky nu yk yn lc fw sd lw od)) hx hb hw0 inM tyM tyM_ok nmM hown hK hP hD hS 0 rfl rfl 6 (by decide) (hw0 _ q657) (fun _ h9 => h9) rfl (by decide +kernel) rfl rfl (Nat.le_of_ble_eq_true rfl) dM_wipe_7 rfl (fun H locs hP hD hS => ?_)
  exact hret (0, 0) dM_wipe_10 (by exact ⟨rfl, rfl⟩) hP hD hS
set_option maxRecDepth 100000 in
set_option maxHeartbeats 4000000 in
theorem c_M_type (l : Launch) (dC : Nat → ClassId) (dI : Nat → Nat → Nat) (cI : ClassId) (cZ : ClassId) (cG : ClassId) (cR : ClassId) (ad : Nat → Nat) (th : Int) (tb : Int → Int) (fi : Int → Int) (se : Int → Int) (lf : Int → Int) (ct : Int → Int) (ln : Int) (tx : Int → Int) (kl : Int → Int) (kp : Int → Int) (fl : Int) (fo : Int → Int) (ol : Int) (ot : Int → Int) (pl : Int → Int) (ky : Int) (nu : Int → Int) (yk : Int) (yn : Int → Int) (lc : Int → Int) (fw : Int → Int) (sd : Int → Int) (lw : Int → Int) (od : Int → Int) (sz : Nat) (c : Int) (hc : -2147483648 ≤ c ∧ c < 2147483648) (hl9 : 0 ≤ ln ∧ ln ≤ 40) : Met l yM_type wsM_type ({ frames := 0, cells := 0, slots := 0, locals := 0 }) (va_Pc [.ref (ad 0), .int (iv c)] (jPre (dC, dI) (jT cI cZ cG cR) (pM cI cZ cG cR ad th tb fi se lf ct ln tx kl kp fl fo ol ot pl ky nu yk yn lc fw sd lw od) sz)) (va_Qi (fun (r0 : Int32) (u : Int × Int × Int × (Int → Int)) => r0 = iv u.1 ∧ (((c < 0 ∨ 74 < c) ∧ u.2.1 = 1 ∧ u.2.2.1 = ln ∧ u.2.2.2 = tx) ∨ (0 ≤ c ∧ c ≤ 74 ∧ ln = 40 ∧ u.2.1 = 2 ∧ u.2.2.1 = ln ∧ u.2.2.2 = tx) ∨ (0 ≤ c ∧ c ≤ 74 ∧ ln < 40 ∧ u.2.1 = 0 ∧ u.2.2.1 = ln + 1 ∧ u.2.2.2 = uI tx ln c ∧ u.1 = ln + 1))) (fun u => jEnd (dC, dI) (jT cI cZ cG cR) (va_A (pM cI cZ cG cR ad th tb fi se lf ct ln tx kl kp fl fo ol ot pl ky nu yk yn lc fw sd lw od) sz) (pM cI cZ cG cR ad u.2.1 tb fi se lf ct u.2.2.1 u.2.2.2 kl kp fl fo ol ot pl ky nu yk yn lc fw sd lw od)) (va_A (pM cI cZ cG cR ad th tb fi se lf ct ln tx kl kp fl fo ol ot pl ky nu yk yn lc fw sd lw od) sz)) 0 0 (va_A (pM cI cZ cG cR ad th tb fi se lf ct ln tx kl kp fl fo ol ot pl ky nu yk yn lc fw sd lw od) sz) := by
  refine jv_mi (cc := cM_type) (maxL := 2) (by decide) rfl (Nat.le_of_ble_eq_true rfl) ?_
  intro p0 e0 s0 m0 a0 b0 t0 c0 R0 Q0 A0 ls hx hb hts hown hml hRf hRl hA hK hret hl hP hD hS
  have hown : s0.vm.findClass "TextPipelineModel" = some m0.cls := hown
  have hw0 : ∀ w ∈ WS0, w.before a0 s0 = true := fun w h => hts w (List.mem_cons_of_mem _ h)
  have hl : lv_has ls 2 [(0, .ref (ad 0)), (1, .int (iv c))] := hl
  have hRf : 0 ≤ R0.frames := hRf
  have hRl : 0 ≤ R0.locals := hRl
  refine lv_aload_n (pc := 0) hx hb dM_type_0 rfl (lv_at hl 0 rfl) ?_
  refine lv_iload_n (pc := 1) hx hb dM_type_1 rfl (lv_at hl 1 rfl) ?_
  refine jv_if_lt (pc := 2) (tgt := 11) hx hb dM_type_2 (by decide) (by omega) (fun h1 => ?_) (fun h1 => ?_)
  · skip
    refine lv_iconst (pc := 11) (v := iv 1) hx hb dM_type_11 rfl ?_
    refine lv_goto (pc := 12) (tgt := 29) hx hb dM_type_12 (by decide) ?_
    refine jv_put (pc := 29) (D := (dC, dI)) (ci := 5) (v := .int (iv 1)) (ty := .int) (C := RM) (T := TM) (N := 24) (ws' := (pM cI cZ cG cR ad 1 tb fi se lf ct ln tx kl kp fl fo ol ot pl ky nu yk yn lc fw sd lw od)) hx hb hw0 inM tyM tyM_ok nmM hown hK hP hD hS 0 rfl rfl 0 (by decide) (hw0 _ q651) (fun _ h9 => h9) rfl (by decide +kernel) rfl rfl (Nat.le_of_ble_eq_true rfl) dM_type_29 rfl (fun H locs hP hD hS => ?_)
    refine lv_aload_n (pc := 32) hx hb dM_type_32 rfl (lv_at hl 0 rfl) ?_
    refine va_get (pc := 33) (D := (dC, dI)) (ci := 5) (v := .int (iv 1)) (C := RM) (T := TM) (N := 24) hx hb hw0 inM hown hK hP 0 rfl rfl 0 (by decide) (hw0 _ q651) (fun _ h9 => h9) rfl dM_type_33 ?_
    refine jv_if_eq (pc := 36) (tgt := 41) hx hb dM_type_36 (by decide) (by decide) (fun h2 => ?_) (fun h2 => ?_)
    · exact absurd h2 (by decide)
    refine lv_iconst (pc := 39) (v := iv 0) hx hb dM_type_39 rfl ?_
    exact hret _ (0, 1, ln, tx) dM_type_40 ⟨rfl, by first | exact Or.inl ⟨by omega, rfl, rfl, rfl⟩ | exact Or.inr (Or.inl ⟨by omega, by omega, by omega, rfl, rfl, rfl⟩) | exact Or.inr (Or.inr ⟨by omega, by omega, by omega, rfl, rfl, rfl, rfl⟩)⟩ hP hD hS
  refine lv_iload_n (pc := 5) hx hb dM_type_5 rfl (lv_at hl 1 rfl) ?_
  refine lv_bipush (pc := 6) (v := iv 74) hx hb dM_type_6 (by decide) ?_
  refine jv_icmp_le (pc := 8) (tgt := 15) hx hb dM_type_8 (by decide) (by omega) (by decide) (fun h3 => ?_) (fun h3 => ?_)
  · skip
    refine lv_aload_n (pc := 15) hx hb dM_type_15 rfl (lv_at hl 0 rfl) ?_
    refine va_get (pc := 16) (D := (dC, dI)) (ci := 5) (v := .int (iv ln)) (C := RM) (T := TM) (N := 24) hx hb hw0 inM hown hK hP 0 rfl rfl 6 (by decide) (hw0 _ q657) (fun _ h9 => h9) rfl dM_type_16 ?_
    refine lv_bipush (pc := 19) (v := iv 40) hx hb dM_type_19 (by decide) ?_
    refine jv_icmp_ne (pc := 21) (tgt := 28) hx hb dM_type_21 (by decide) (by omega) (by decide) (fun h4 => ?_) (fun h4 => ?_)
    · skip
      refine lv_iconst (pc := 28) (v := iv 0) hx hb dM_type_28 rfl ?_
      refine jv_put (pc := 29) (D := (dC, dI)) (ci := 5) (v := .int (iv 0)) (ty := .int) (C := RM) (T := TM) (N := 24) (ws' := (pM cI cZ cG cR ad 0 tb fi se lf ct ln tx kl kp fl fo ol ot pl ky nu yk yn lc fw sd lw od)) hx hb hw0 inM tyM tyM_ok nmM hown hK hP hD hS 0 rfl rfl 0 (by decide) (hw0 _ q651) (fun _ h9 => h9) rfl (by decide +kernel) rfl rfl (Nat.le_of_ble_eq_true rfl) dM_type_29 rfl (fun H locs hP hD hS => ?_)
      refine lv_aload_n (pc := 32) hx hb dM_type_32 rfl (lv_at hl 0 rfl) ?_
      refine va_get (pc := 33) (D := (dC, dI)) (ci := 5) (v := .int (iv 0)) (C := RM) (T := TM) (N := 24) hx hb hw0 inM hown hK hP 0 rfl rfl 0 (by decide) (hw0 _ q651) (fun _ h9 => h9) rfl dM_type_33 ?_
      refine jv_if_eq (pc := 36) (tgt := 41) hx hb dM_type_36 (by decide) (by decide) (fun h5 => ?_) (fun h5 => ?_)
      rotate_left
      · exact absurd h5 (by decide)
      refine lv_aload_n (pc := 41) hx hb dM_type_41 rfl (lv_at hl 0 rfl) ?_
      refine va_get (pc := 42) (D := (dC, dI)) (ci := 5) (v := .ref (ad 7)) (C := RM) (T := TM) (N := 24) hx hb hw0 inM hown hK hP 0 rfl rfl 7 (by decide) (hw0 _ q658) (fun _ h9 => h9) rfl dM_type_42 ?_
      refine lv_aload_n (pc := 45) hx hb dM_type_45 rfl (lv_at hl 0 rfl) ?_
      refine va_get (pc := 46) (D := (dC, dI)) (ci := 5) (v := .int (iv ln)) (C := RM) (T := TM) (N := 24) hx hb hw0 inM hown hK hP 0 rfl rfl 6 (by decide) (hw0 _ q657) (fun _ h9 => h9) rfl dM_type_46 ?_
      refine lv_iload_n (pc := 49) hx hb dM_type_49 rfl (lv_at hl 1 rfl) ?_
      refine jv_iast (pc := 50) (ws' := (pM cI cZ cG cR ad 0 tb fi se lf ct ln (uI tx ln c) kl kp fl fo ol ot pl ky nu yk yn lc fw sd lw od)) hx hb hK hP hD hS 6 0 rfl rfl (by decide) (by omega) dM_type_50 rfl (fun H locs hP hD hS => ?_)
      refine lv_aload_n (pc := 51) hx hb dM_type_51 rfl (lv_at hl 0 rfl) ?_
      refine lv_dup (pc := 52) hx hb dM_type_52 rfl ?_
      refine va_get (pc := 53) (D := (dC, dI)) (ci := 5) (v := .int (iv ln)) (C := RM) (T := TM) (N := 24) hx hb hw0 inM hown hK hP 0 rfl rfl 6 (by decide) (hw0 _ q657) (fun _ h9 => h9) rfl dM_type_53 ?_
      refine lv_iconst (pc := 56) (v := iv 1) hx hb dM_type_56 rfl ?_
      refine jv_iadd (pc := 57) (x := ln) (y := 1) hx hb dM_type_57 ?_
      refine jv_put (pc := 58) (D := (dC, dI)) (ci := 5) (v := .int (iv (ln + 1))) (ty := .int) (C := RM) (T := TM) (N := 24) (ws' := (pM cI cZ cG cR ad 0 tb fi se lf ct (ln + 1) (uI tx ln c) kl kp fl fo ol ot pl ky nu yk yn lc fw sd lw od)) hx hb hw0 inM tyM tyM_ok nmM hown hK hP hD hS 0 rfl rfl 6 (by decide) (hw0 _ q657) (fun _ h9 => h9) rfl (by decide +kernel) rfl rfl (Nat.le_of_ble_eq_true rfl) dM_type_58 rfl (fun H locs hP hD hS => ?_)
      refine lv_aload_n (pc := 61) hx hb dM_type_61 rfl (lv_at hl 0 rfl) ?_
      refine va_get (pc := 62) (D := (dC, dI)) (ci := 5) (v := .int (iv (ln + 1))) (C := RM) (T := TM) (N := 24) hx hb hw0 inM hown hK hP 0 rfl rfl 6 (by decide) (hw0 _ q657) (fun _ h9 => h9) rfl dM_type_62 ?_
      exact hret _ (ln + 1, 0, ln + 1, (uI tx ln c)) dM_type_65 ⟨rfl, by first | exact Or.inl ⟨by omega, rfl, rfl, rfl⟩ | exact Or.inr (Or.inl ⟨by omega, by omega, by omega, rfl, rfl, rfl⟩) | exact Or.inr (Or.inr ⟨by omega, by omega, by omega, rfl, rfl, rfl, rfl⟩)⟩ hP hD hS
    refine lv_iconst (pc := 24) (v := iv 2) hx hb dM_type_24 rfl ?_
    refine lv_goto (pc := 25) (tgt := 29) hx hb dM_type_25 (by decide) ?_
    refine jv_put (pc := 29) (D := (dC, dI)) (ci := 5) (v := .int (iv 2)) (ty := .int) (C := RM) (T := TM) (N := 24) (ws' := (pM cI cZ cG cR ad 2 tb fi se lf ct ln tx kl kp fl fo ol ot pl ky nu yk yn lc fw sd lw od)) hx hb hw0 inM tyM tyM_ok nmM hown hK hP hD hS 0 rfl rfl 0 (by decide) (hw0 _ q651) (fun _ h9 => h9) rfl (by decide +kernel) rfl rfl (Nat.le_of_ble_eq_true rfl) dM_type_29 rfl (fun H locs hP hD hS => ?_)
    refine lv_aload_n (pc := 32) hx hb dM_type_32 rfl (lv_at hl 0 rfl) ?_
    refine va_get (pc := 33) (D := (dC, dI)) (ci := 5) (v := .int (iv 2)) (C := RM) (T := TM) (N := 24) hx hb hw0 inM hown hK hP 0 rfl rfl 0 (by decide) (hw0 _ q651) (fun _ h9 => h9) rfl dM_type_33 ?_
    refine jv_if_eq (pc := 36) (tgt := 41) hx hb dM_type_36 (by decide) (by decide) (fun h6 => ?_) (fun h6 => ?_)
    · exact absurd h6 (by decide)
    refine lv_iconst (pc := 39) (v := iv 0) hx hb dM_type_39 rfl ?_
    exact hret _ (0, 2, ln, tx) dM_type_40 ⟨rfl, by first | exact Or.inl ⟨by omega, rfl, rfl, rfl⟩ | exact Or.inr (Or.inl ⟨by omega, by omega, by omega, rfl, rfl, rfl⟩) | exact Or.inr (Or.inr ⟨by omega, by omega, by omega, rfl, rfl, rfl, rfl⟩)⟩ hP hD hS
  refine lv_iconst (pc := 11) (v := iv 1) hx hb dM_type_11 rfl ?_
  refine lv_goto (pc := 12) (tgt := 29) hx hb dM_type_12 (by decide) ?_
  refine jv_put (pc := 29) (D := (dC, dI)) (ci := 5) (v := .int (iv 1)) (ty := .int) (C := RM) (T := TM) (N := 24) (ws' := (pM cI cZ cG cR ad 1 tb fi se lf ct ln tx kl kp fl fo ol ot pl ky nu yk yn lc fw sd lw od)) hx hb hw0 inM tyM tyM_ok nmM hown hK hP hD hS 0 rfl rfl 0 (by decide) (hw0 _ q651) (fun _ h9 => h9) rfl (by decide +kernel) rfl rfl (Nat.le_of_ble_eq_true rfl) dM_type_29 rfl (fun H locs hP hD hS => ?_)
  refine lv_aload_n (pc := 32) hx hb dM_type_32 rfl (lv_at hl 0 rfl) ?_
  refine va_get (pc := 33) (D := (dC, dI)) (ci := 5) (v := .int (iv 1)) (C := RM) (T := TM) (N := 24) hx hb hw0 inM hown hK hP 0 rfl rfl 0 (by decide) (hw0 _ q651) (fun _ h9 => h9) rfl dM_type_33 ?_
  refine jv_if_eq (pc := 36) (tgt := 41) hx hb dM_type_36 (by decide) (by decide) (fun h7 => ?_) (fun h7 => ?_)
  · exact absurd h7 (by decide)
  refine lv_iconst (pc := 39) (v := iv 0) hx hb dM_type_39 rfl ?_
  exact hret _ (0, 1, ln, tx) dM_type_40 ⟨rfl, by first | exact Or.inl ⟨by omega, rfl, rfl, rfl⟩ | exact Or.inr (Or.inl ⟨by omega, by omega, by omega, rfl, rfl, rfl⟩) | exact Or.inr (Or.inr ⟨by omega, by omega, by omega, rfl, rfl, rfl, rfl⟩)⟩ hP hD hS
set_option maxRecDepth 100000 in
set_option maxHeartbeats 4000000 in
theorem c_M_at (l : Launch) (dC : Nat → ClassId) (dI : Nat → Nat → Nat) (cI : ClassId) (cZ : ClassId) (cG : ClassId) (cR : ClassId) (ad : Nat → Nat) (th : Int) (tb : Int → Int) (fi : Int → Int) (se : Int → Int) (lf : Int → Int) (ct : Int → Int) (ln : Int) (tx : Int → Int) (kl : Int → Int) (kp : Int → Int) (fl : Int) (fo : Int → Int) (ol : Int) (ot : Int → Int) (pl : Int → Int) (ky : Int) (nu : Int → Int) (yk : Int) (yn : Int → Int) (lc : Int → Int) (fw : Int → Int) (sd : Int → Int) (lw : Int → Int) (od : Int → Int) (sz : Nat) (i : Int) (hi : -2147483648 ≤ i ∧ i < 2147483648) (hl9 : 0 ≤ ln ∧ ln ≤ 40) : Met l yM_at wsM_at ({ frames := 1, cells := 0, slots := 0, locals := 22 }) (va_Pc [.ref (ad 0), .int (iv i)] (jPre (dC, dI) (jT cI cZ cG cR) (pM cI cZ cG cR ad th tb fi se lf ct ln tx kl kp fl fo ol ot pl ky nu yk yn lc fw sd lw od) sz)) (va_Qi (fun (r0 : Int32) (u : Int × Int) => r0 = iv u.1 ∧ (((i < 0 ∨ ln ≤ i) ∧ u.2 = 1) ∨ (0 ≤ i ∧ i < ln ∧ u.2 = 0 ∧ u.1 = tx i))) (fun u => jEnd (dC, dI) (jT cI cZ cG cR) (va_A (pM cI cZ cG cR ad th tb fi se lf ct ln tx kl kp fl fo ol ot pl ky nu yk yn lc fw sd lw od) sz) (pM cI cZ cG cR ad u.2 tb fi se lf ct ln tx kl kp fl fo ol ot pl ky nu yk yn lc fw sd lw od)) (va_A (pM cI cZ cG cR ad th tb fi se lf ct ln tx kl kp fl fo ol ot pl ky nu yk yn lc fw sd lw od) sz)) 0 0 (va_A (pM cI cZ cG cR ad th tb fi se lf ct ln tx kl kp fl fo ol ot pl ky nu yk yn lc fw sd lw od) sz) := by
  refine jv_mi (cc := cM_at) (maxL := 2) (by decide) rfl (Nat.le_of_ble_eq_true rfl) ?_
  intro p0 e0 s0 m0 a0 b0 t0 c0 R0 Q0 A0 ls hx hb hts hown hml hRf hRl hA hK hret hl hP hD hS
  have hown : s0.vm.findClass "TextPipelineModel" = some m0.cls := hown
  have hw0 : ∀ w ∈ WS0, w.before a0 s0 = true := fun w h => hts w (List.mem_cons_of_mem _ h)
  have hl : lv_has ls 2 [(0, .ref (ad 0)), (1, .int (iv i))] := hl
  have hRf : 1 ≤ R0.frames := hRf
  have hRl : 22 ≤ R0.locals := hRl
  refine lv_aload_n (pc := 0) hx hb dM_at_0 rfl (lv_at hl 0 rfl) ?_
  refine lv_aload_n (pc := 1) hx hb dM_at_1 rfl (lv_at hl 0 rfl) ?_
  refine lv_iload_n (pc := 2) hx hb dM_at_2 rfl (lv_at hl 1 rfl) ?_
  refine lv_aload_n (pc := 3) hx hb dM_at_3 rfl (lv_at hl 0 rfl) ?_
  refine va_get (pc := 4) (D := (dC, dI)) (ci := 5) (v := .int (iv ln)) (C := RM) (T := TM) (N := 24) hx hb hw0 inM hown hK hP 0 rfl rfl 6 (by decide) (hw0 _ q657) (fun _ h9 => h9) rfl dM_at_4 ?_
  refine jv_ri (pc := 7) (wr := []) (wn := fun u : Int => (pM cI cZ cG cR ad th tb fi se lf ct ln tx kl kp fl fo ol ot pl ky nu yk yn lc fw sd lw od)) (va_runV (rest := [.ref (ad 0)]) ⟨hx, hb, hml, hown, hw0⟩ (c_M_noPlace l dC dI cI cZ cG cR ad th tb fi se lf ct ln tx kl kp fl fo ol ot pl ky nu yk yn lc fw sd lw od _ i ln (by omega) (by omega)) (jcV hw0 kM_noPlace q752 rfl rfl ⟨Nat.le_trans (Nat.le_of_ble_eq_true rfl) hRf, Nat.le_trans (Nat.le_of_ble_eq_true rfl) hRl⟩) (jv_preV (ci := 5) (q0 := 0) hK hP hD [0, 1, 2, 3, 4, 5, 6, 7, 8, 9, 10, 11, 12, 13, 14, 15, 16, 17, 18] rfl (by decide) rfl rfl) rfl rfl hl.1 rfl (lv_room (Nat.le_of_ble_eq_true rfl)) dM_at_7 ⟨Nat.zero_le _, Nat.zero_le _⟩) hP hD hS hA [0, 1, 2, 3, 4, 5, 6, 7, 8, 9, 10, 11, 12, 13, 14, 15, 16, 17, 18] [] [0, 1, 2, 3, 4, 5, 6, 7, 8, 9, 10, 11, 12, 13, 14, 15, 16, 17, 18] rfl rfl (by decide) (by decide) (by decide) (fun _ => rfl) (fun r0 u H locs hw7 hP hD hS => ?_)
  obtain ⟨r_7, hu⟩ : ∃ z, z = u := ⟨_, rfl⟩; subst hu
  obtain ⟨rfl, hw7⟩ := hw7
  refine jv_if_eq (pc := 10) (tgt := 17) hx hb dM_at_10 (by decide) (by omega) (fun h1 => ?_) (fun h1 => ?_)
  · skip
    refine lv_iconst (pc := 17) (v := iv 0) hx hb dM_at_17 rfl ?_
    refine jv_put (pc := 18) (D := (dC, dI)) (ci := 5) (v := .int (iv 0)) (ty := .int) (C := RM) (T := TM) (N := 24) (ws' := (pM cI cZ cG cR ad 0 tb fi se lf ct ln tx kl kp fl fo ol ot pl ky nu yk yn lc fw sd lw od)) hx hb hw0 inM tyM tyM_ok nmM hown hK hP hD hS 0 rfl rfl 0 (by decide) (hw0 _ q651) (fun _ h9 => h9) rfl (by decide +kernel) rfl rfl (Nat.le_of_ble_eq_true rfl) dM_at_18 rfl (fun H locs hP hD hS => ?_)
    refine lv_aload_n (pc := 21) hx hb dM_at_21 rfl (lv_at hl 0 rfl) ?_
    refine va_get (pc := 22) (D := (dC, dI)) (ci := 5) (v := .int (iv 0)) (C := RM) (T := TM) (N := 24) hx hb hw0 inM hown hK hP 0 rfl rfl 0 (by decide) (hw0 _ q651) (fun _ h9 => h9) rfl dM_at_22 ?_
    refine jv_if_ne (pc := 25) (tgt := 37) hx hb dM_at_25 (by decide) (by decide) (fun h2 => ?_) (fun h2 => ?_)
    · exact absurd h2 (by decide)
    refine lv_aload_n (pc := 28) hx hb dM_at_28 rfl (lv_at hl 0 rfl) ?_
    refine va_get (pc := 29) (D := (dC, dI)) (ci := 5) (v := .ref (ad 7)) (C := RM) (T := TM) (N := 24) hx hb hw0 inM hown hK hP 0 rfl rfl 7 (by decide) (hw0 _ q658) (fun _ h9 => h9) rfl dM_at_29 ?_
    refine lv_iload_n (pc := 32) hx hb dM_at_32 rfl (lv_at hl 1 rfl) ?_
    refine jv_iald (pc := 33) hx hb hK hP 6 0 rfl rfl (by decide) (by omega) dM_at_33 ?_
    refine lv_goto (pc := 34) (tgt := 38) hx hb dM_at_34 (by decide) ?_
    exact hret _ (tx i, 0) dM_at_38 ⟨rfl, by first | exact Or.inl ⟨by omega, rfl⟩ | exact Or.inr ⟨by omega, by omega, rfl, rfl⟩⟩ hP hD hS
  refine lv_iconst (pc := 13) (v := iv 1) hx hb dM_at_13 rfl ?_
  refine lv_goto (pc := 14) (tgt := 18) hx hb dM_at_14 (by decide) ?_
  refine jv_put (pc := 18) (D := (dC, dI)) (ci := 5) (v := .int (iv 1)) (ty := .int) (C := RM) (T := TM) (N := 24) (ws' := (pM cI cZ cG cR ad 1 tb fi se lf ct ln tx kl kp fl fo ol ot pl ky nu yk yn lc fw sd lw od)) hx hb hw0 inM tyM tyM_ok nmM hown hK hP hD hS 0 rfl rfl 0 (by decide) (hw0 _ q651) (fun _ h9 => h9) rfl (by decide +kernel) rfl rfl (Nat.le_of_ble_eq_true rfl) dM_at_18 rfl (fun H locs hP hD hS => ?_)
  refine lv_aload_n (pc := 21) hx hb dM_at_21 rfl (lv_at hl 0 rfl) ?_
  refine va_get (pc := 22) (D := (dC, dI)) (ci := 5) (v := .int (iv 1)) (C := RM) (T := TM) (N := 24) hx hb hw0 inM hown hK hP 0 rfl rfl 0 (by decide) (hw0 _ q651) (fun _ h9 => h9) rfl dM_at_22 ?_
  refine jv_if_ne (pc := 25) (tgt := 37) hx hb dM_at_25 (by decide) (by decide) (fun h3 => ?_) (fun h3 => ?_)
  rotate_left
  · exact absurd h3 (by decide)
  refine lv_iconst (pc := 37) (v := iv 0) hx hb dM_at_37 rfl ?_
  exact hret _ (0, 1) dM_at_38 ⟨rfl, by first | exact Or.inl ⟨by omega, rfl⟩ | exact Or.inr ⟨by omega, by omega, rfl, rfl⟩⟩ hP hD hS
end
section
/-! pure rows: the stack of parts, the rounds of the sort, over rows of numbers -/
theorem syl_len (x : Int) : 2 ≤ (syl x).length ∧ (x % 3 ≠ 0 → 3 ≤ (syl x).length) := by
  unfold syl
  split
  · exact ⟨by simp, fun h => absurd (by assumption) h⟩
  · exact ⟨by simp, fun _ => by simp⟩
theorem PT_pos (fi se : Int → Int) (x : Int) : 0 < (PT fi se x).length := List.length_pos_iff.mpr (PT_ne 75 x)
def SHT (fi se : Int → Int) : Prop := ∀ j, 0 ≤ j → j < 40 → KC fi se j ≤ 4
theorem uI_back {g : Int → Int} {c a : Int} : uI (uI g c a) c (g c) = g := by
  funext j
  by_cases h : j = c
  · rw [uI_e h, h]
  · rw [uI_n h, uI_n h]
theorem vpt_up {fi se : Int → Int} (h : vpt fi se) {c a b : Int} (hp : partOK c a b) : vpt (uI fi c a) (uI se c b) := by
  intro j h0 h1
  obtain ⟨p1, p2, p3, p4, p5, p6, p7⟩ := hp
  by_cases e : j = c
  · rw [uI_e e, uI_e e]; omega
  · rw [uI_n e, uI_n e]; exact h j h0 h1
theorem rsg_pop {g : Int → Int} {n : Int} (h : 1 ≤ n) : rsg g n.toNat = g (n - 1) :: rsg g (n - 1).toNat := by
  obtain ⟨k, rfl⟩ : ∃ k : Nat, n = (k : Int) + 1 := ⟨(n - 1).toNat, by omega⟩
  rw [show ((k : Int) + 1).toNat = k + 1 by omega, show ((k : Int) + 1 - 1) = (k : Int) by omega, show ((k : Int)).toNat = k by omega]
  rfl
theorem rsg_put {g : Int → Int} {n c : Int} (h : 0 ≤ n) : rsg (uI g n c) (n + 1).toNat = c :: rsg g n.toNat := by
  obtain ⟨k, rfl⟩ : ∃ k : Nat, n = (k : Int) := ⟨n.toNat, by omega⟩
  rw [show ((k : Int) + 1).toNat = k + 1 by omega, show ((k : Int)).toNat = k by omega]
  exact rsg_push
theorem rsg_upd {g : Int → Int} {n i c : Int} (h : n ≤ i) : rsg (uI g i c) n.toNat = rsg g n.toNat := rsg_congr _ (fun j h1 h2 => uI_n (by omega))
def fm (fi se : Int → Int) (L : List Int) : List Int := L.flatMap (PT fi se)
theorem fm_c (fi se : Int → Int) (x : Int) (L : List Int) : fm fi se (x :: L) = PT fi se x ++ fm fi se L := List.flatMap_cons
def mND (fi se : Int → Int) (L : List Int) : Nat := (L.map (ND fi se)).sum
theorem mND_c (fi se : Int → Int) (x : Int) (L : List Int) : mND fi se (x :: L) = ND fi se x + mND fi se L := by
  unfold mND; rw [List.map_cons, List.sum_cons]
theorem fm_len (fi se : Int → Int) : ∀ L : List Int, L.length ≤ (fm fi se L).length := by
  intro L
  induction L with
  | nil => exact Nat.le_refl _
  | cons x t ih =>
    rw [fm_c, List.length_append, List.length_cons]
    have := List.length_pos_iff.mpr (PT_ne (fi := fi) (se := se) 75 x)
    have h2 : 0 < (PT fi se x).length := this
    omega
/-- the state of putParts: what is on the pile, what has been put -/
def ppI (fi se : Int → Int) (c fl : Int) (fo : Int → Int) (n : Int) (pl : Int → Int) (fl1 : Int) (fo1 : Int → Int) : Prop :=
  0 ≤ n ∧ fl ≤ fl1 ∧ (∀ x ∈ rsg pl n.toNat, 0 ≤ x ∧ x < 75) ∧ (fm fi se (rsg pl n.toNat)).reverse ++ rsg fo1 fl1.toNat = (PT fi se c).reverse ++ rsg fo fl.toNat
theorem pp_len {fi se : Int → Int} {c fl n fl1 : Int} {fo pl fo1 : Int → Int} (h : ppI fi se c fl fo n pl fl1 fo1) (hf : 0 ≤ fl) : ((fm fi se (rsg pl n.toNat)).length : Int) + fl1 = (PT fi se c).length + fl := by
  have e := congrArg List.length h.2.2.2
  rw [List.length_append, List.length_append, List.length_reverse, List.length_reverse, rsg_len, rsg_len] at e
  have := h.2.1
  omega
theorem pp_b {fi se : Int → Int} {c fl n fl1 : Int} {fo pl fo1 : Int → Int} (hv : vpt fi se) (hs : SHT fi se) (hc : 0 ≤ c ∧ c < 75) (h : ppI fi se c fl fo n pl fl1 fo1) (hf : 0 ≤ fl) : n ≤ 4 ∧ fl1 ≤ fl + 4 := by
  have h1 := pp_len h hf
  have h2 := PT_le4 hv hs hc.1 hc.2
  have h3 := fm_len fi se (rsg pl n.toNat)
  rw [rsg_len] at h3
  have := h.2.1
  have := h.1
  omega
theorem pp_x {fi se : Int → Int} {c fl n fl1 : Int} {fo pl fo1 : Int → Int} (hv : vpt fi se) (hs : SHT fi se) (hc : 0 ≤ c ∧ c < 75) (h : ppI fi se c fl fo n pl fl1 fo1) (hf : 0 ≤ fl) (hn : 1 ≤ n) : (0 ≤ pl (n - 1) ∧ pl (n - 1) < 75) ∧ n - 1 + (PT fi se (pl (n - 1))).length ≤ 4 ∧ fl1 + (PT fi se (pl (n - 1))).length ≤ fl + 4 := by
  have h1 := pp_len h hf
  have h2 := PT_le4 hv hs hc.1 hc.2
  have hm := h.2.2.1
  rw [rsg_pop hn] at h1 hm
  rw [fm_c, List.length_append] at h1
  have h3 := fm_len fi se (rsg pl (n - 1).toNat)
  rw [rsg_len] at h3
  have := h.1
  have := h.2.1
  exact ⟨hm _ List.mem_cons_self, by omega, by omega⟩
theorem pp_put {fi se : Int → Int} {c fl n fl1 x : Int} {fo pl fo1 : Int → Int} (h : ppI fi se c fl fo n pl fl1 fo1) (hn : 1 ≤ n) (ex : x = pl (n - 1)) {l : List Int} (hx : PT fi se x = l) {fl2 : Int} {fo2 : Int → Int} (h2 : fl ≤ fl2) (hl : rsg fo2 fl2.toNat = l.reverse ++ rsg fo1 fl1.toNat) : ppI fi se c fl fo (n - 1) pl fl2 fo2 := by
  obtain ⟨a, b, d, e⟩ := h
  rw [rsg_pop hn] at d e
  rw [fm_c, ← ex, hx] at e
  refine ⟨by omega, h2, fun y hy => d y (List.mem_cons_of_mem _ hy), ?_⟩
  rw [hl, ← List.append_assoc, ← List.reverse_append]
  exact e
theorem pp_two {fi se : Int → Int} (hv : vpt fi se) {c fl n fl1 x : Int} {fo pl fo1 : Int → Int} (h : ppI fi se c fl fo n pl fl1 fo1) (hn : 1 ≤ n) (ex : x = pl (n - 1)) (h0 : 0 ≤ x ∧ x < 40) (hf : 0 ≤ fi x) (hs : 0 ≤ se x) : ppI fi se c fl fo (n - 1 + 1 + 1) (uI (uI pl (n - 1) (se x)) (n - 1 + 1) (fi x)) fl1 fo1 := by
  obtain ⟨a, b, d, e⟩ := h
  rw [rsg_pop hn] at d e
  have hvx := hv x h0.1 h0.2
  have e1 : rsg (uI (uI pl (n - 1) (se x)) (n - 1 + 1) (fi x)) (n - 1 + 1 + 1).toNat = fi x :: se x :: rsg pl (n - 1).toNat := by rw [rsg_put (by omega), rsg_put (by omega)]
  refine ⟨by omega, b, ?_, ?_⟩
  · rw [e1]
    intro y hy
    rcases List.mem_cons.mp hy with q | hy
    · omega
    · rcases List.mem_cons.mp hy with q | hy
      · omega
      · exact d y (List.mem_cons_of_mem _ hy)
  · rw [e1, fm_c, fm_c, ← List.append_assoc]
    rw [fm_c, ← ex, PT_parts hv h0.1 h0.2 hf, if_pos hs] at e
    exact e
theorem pp_one {fi se : Int → Int} (hv : vpt fi se) {c fl n fl1 x : Int} {fo pl fo1 : Int → Int} (h : ppI fi se c fl fo n pl fl1 fo1) (hn : 1 ≤ n) (ex : x = pl (n - 1)) (h0 : 0 ≤ x ∧ x < 40) (hf : 0 ≤ fi x) (hs : se x < 0) : ppI fi se c fl fo (n - 1 + 1) (uI pl (n - 1) (fi x)) fl1 fo1 := by
  obtain ⟨a, b, d, e⟩ := h
  rw [rsg_pop hn] at d e
  have hvx := hv x h0.1 h0.2
  have e1 : rsg (uI pl (n - 1) (fi x)) (n - 1 + 1).toNat = fi x :: rsg pl (n - 1).toNat := by rw [rsg_put (by omega)]
  refine ⟨by omega, b, ?_, ?_⟩
  · rw [e1]
    intro y hy
    rcases List.mem_cons.mp hy with q | hy
    · omega
    · exact d y (List.mem_cons_of_mem _ hy)
  · rw [e1, fm_c]
    rw [fm_c, ← ex, PT_parts hv h0.1 h0.2 hf, if_neg (by omega), List.append_nil] at e
    exact e
theorem mND_pop {fi se : Int → Int} {n : Int} {pl : Int → Int} (hn : 1 ≤ n) : mND fi se (rsg pl (n - 1).toNat) < mND fi se (rsg pl n.toNat) := by
  rw [rsg_pop hn, mND_c]
  have := ND_pos fi se (pl (n - 1))
  omega
theorem mND_two {fi se : Int → Int} (hv : vpt fi se) {n x : Int} {pl : Int → Int} (hn : 1 ≤ n) (ex : x = pl (n - 1)) (h0 : 0 ≤ x ∧ x < 40) (hf : 0 ≤ fi x) (hs : 0 ≤ se x) : mND fi se (rsg (uI (uI pl (n - 1) (se x)) (n - 1 + 1) (fi x)) (n - 1 + 1 + 1).toNat) < mND fi se (rsg pl n.toNat) := by
  rw [rsg_put (by omega), rsg_put (by omega), rsg_pop hn, mND_c, mND_c, mND_c, ← ex, ND_parts hv h0.1 h0.2 hf, if_pos hs]
  omega
theorem mND_one {fi se : Int → Int} (hv : vpt fi se) {n x : Int} {pl : Int → Int} (hn : 1 ≤ n) (ex : x = pl (n - 1)) (h0 : 0 ≤ x ∧ x < 40) (hf : 0 ≤ fi x) (hs : se x < 0) : mND fi se (rsg (uI pl (n - 1) (fi x)) (n - 1 + 1).toNat) < mND fi se (rsg pl n.toNat) := by
  rw [rsg_put (by omega), rsg_pop hn, mND_c, mND_c, ← ex, ND_parts hv h0.1 h0.2 hf, if_neg (by omega)]
  omega
/-- a round that has come to i -/
def rdI (rk : Int → Int) (n : Int) (g0 g : Int → Int) (i : Int) : Prop := sg g 0 i.toNat ++ pas rk (g i) (sg g (i + 1) (n - i - 1).toNat) = pass rk (sg g0 0 n.toNat)
theorem rd_0 {rk : Int → Int} {n : Int} {g : Int → Int} (h : 1 ≤ n) : rdI rk n g g 0 := by
  unfold rdI
  obtain ⟨k, rfl⟩ : ∃ k : Nat, n = (k : Int) + 1 := ⟨(n - 1).toNat, by omega⟩
  rw [show ((k : Int) + 1).toNat = k + 1 by omega, show ((k : Int) + 1 - 0 - 1).toNat = k by omega]
  rfl
theorem rd_end {rk : Int → Int} {n : Int} {g0 g : Int → Int} {i : Int} (h : rdI rk n g0 g i) (h0 : 0 ≤ i) (hi : i + 1 = n) : sg g 0 n.toNat = pass rk (sg g0 0 n.toNat) := by
  unfold rdI at h
  rw [show (n - i - 1).toNat = 0 by omega] at h
  rw [← h, ← hi, show (i + 1).toNat = i.toNat + 1 by omega, sg_snoc, show (0 : Int) + (i.toNat : Int) = i by omega]
  rfl
theorem rd_no {rk : Int → Int} {n : Int} {g0 g : Int → Int} {i : Int} (h : rdI rk n g0 g i) (h0 : 0 ≤ i) (hi : i + 1 < n) (hs : ¬ (rk (g (i + 1)) < rk (g i) ∧ 0 < rk (g (i + 1)))) : rdI rk n g0 g (i + 1) := by
  unfold rdI at h ⊢
  rw [← h, show (n - i - 1).toNat = (n - (i + 1) - 1).toNat + 1 by omega, show (i + 1).toNat = i.toNat + 1 by omega, sg_snoc, show (0 : Int) + (i.toNat : Int) = i by omega, List.append_assoc]
  congr 1
  show g i :: _ = (if rk (g (i + 1)) < rk (g i) ∧ 0 < rk (g (i + 1)) then _ else g i :: pas rk (g (i + 1)) (sg g (i + 1 + 1) _))
  rw [if_neg hs]
  rfl
theorem rd_sw {rk : Int → Int} {n : Int} {g0 g : Int → Int} {i : Int} (h : rdI rk n g0 g i) (h0 : 0 ≤ i) (hi : i + 1 < n) (hs : rk (g (i + 1)) < rk (g i) ∧ 0 < rk (g (i + 1))) : rdI rk n g0 (uI (uI g i (g (i + 1))) (i + 1) (g i)) (i + 1) := by
  unfold rdI at h ⊢
  have e1 : uI (uI g i (g (i + 1))) (i + 1) (g i) (i + 1) = g i := uI_s
  have e2 : sg (uI (uI g i (g (i + 1))) (i + 1) (g i)) (i + 1 + 1) (n - (i + 1) - 1).toNat = sg g (i + 1 + 1) (n - (i + 1) - 1).toNat := sg_congr _ _ (fun j a b => by rw [uI_n (by omega), uI_n (by omega)])
  have e3 : sg (uI (uI g i (g (i + 1))) (i + 1) (g i)) 0 (i + 1).toNat = sg g 0 i.toNat ++ [g (i + 1)] := by
    rw [show (i + 1).toNat = i.toNat + 1 by omega, sg_snoc, show (0 : Int) + (i.toNat : Int) = i by omega, uI_n (by omega), uI_s]
    congr 1
    exact sg_congr _ _ (fun j a b => by rw [uI_n (by omega), uI_n (by omega)])
  rw [e1, e2, e3, ← h, show (n - i - 1).toNat = (n - (i + 1) - 1).toNat + 1 by omega, List.append_assoc]
  congr 1
  show g (i + 1) :: _ = (if rk (g (i + 1)) < rk (g i) ∧ 0 < rk (g (i + 1)) then g (i + 1) :: pas rk (g i) (sg g (i + 1 + 1) _) else _)
  rw [if_pos hs]
  rfl
/-- all parts of the first n characters, in order -/
def ap (fi se tx : Int → Int) : Nat → List Int
  | 0 => []
  | n + 1 => ap fi se tx n ++ PT fi se (tx (n : Int))
/-- the parted form, reversed -/
def FM (rk fi se tx : Int → Int) (n : Int) : List Int := srt rk [] (ap fi se tx n.toNat)
theorem insR_mem {rk : Int → Int} {c x : Int} : ∀ L : List Int, x ∈ insR rk c L ↔ x = c ∨ x ∈ L := by
  intro L
  induction L with
  | nil => show x ∈ [c] ↔ _; simp
  | cons y t ih =>
    show x ∈ (if 0 < rk c ∧ rk c < rk y then y :: insR rk c t else c :: y :: t) ↔ _
    split
    · rw [List.mem_cons, ih, List.mem_cons]
      exact ⟨fun h => h.elim (fun a => Or.inr (Or.inl a)) (fun a => a.elim Or.inl (fun b => Or.inr (Or.inr b))), fun h => h.elim (fun a => Or.inr (Or.inl a)) (fun a => a.elim Or.inl (fun b => Or.inr (Or.inr b)))⟩
    · rw [List.mem_cons]
theorem insR_len {rk : Int → Int} {c : Int} : ∀ L : List Int, (insR rk c L).length = L.length + 1 := by
  intro L
  induction L with
  | nil => rfl
  | cons y t ih =>
    show (if 0 < rk c ∧ rk c < rk y then y :: insR rk c t else c :: y :: t).length = _
    split
    · rw [List.length_cons, ih, List.length_cons]
    · rfl
theorem srt_mem {rk : Int → Int} {x : Int} : ∀ (l L : List Int), x ∈ srt rk L l ↔ x ∈ L ∨ x ∈ l := by
  intro l
  induction l with
  | nil => intro L; show x ∈ L ↔ _; simp
  | cons y t ih =>
    intro L
    show x ∈ srt rk (insR rk y L) t ↔ _
    rw [ih, insR_mem, List.mem_cons]
    exact ⟨fun h => h.elim (fun a => a.elim (fun b => Or.inr (Or.inl b)) Or.inl) (fun a => Or.inr (Or.inr a)), fun h => h.elim (fun a => Or.inl (Or.inr a)) (fun a => a.elim (fun b => Or.inl (Or.inl b)) Or.inr)⟩
theorem srt_len {rk : Int → Int} : ∀ (l L : List Int), (srt rk L l).length = L.length + l.length := by
  intro l
  induction l with
  | nil => intro L; rfl
  | cons y t ih =>
    intro L
    show (srt rk (insR rk y L) t).length = _
    rw [ih, insR_len, List.length_cons]
    omega
theorem ap_len {fi se tx : Int → Int} (hv : vpt fi se) (hs : SHT fi se) : ∀ n : Nat, (∀ j : Int, 0 ≤ j → j < n → 0 ≤ tx j ∧ tx j < 75) → (ap fi se tx n).length ≤ 4 * n := by
  intro n
  induction n with
  | zero => intro _; exact Nat.le_refl _
  | succ n ih =>
    intro h
    have h1 := ih (fun j a b => h j a (by omega))
    have h2 := h n (by omega) (by omega)
    have h3 := PT_le4 hv hs h2.1 h2.2
    show (ap fi se tx n ++ PT fi se (tx (n : Int))).length ≤ _
    rw [List.length_append]
    omega
theorem ap_mem {fi se tx : Int → Int} (hv : vpt fi se) : ∀ n : Nat, (∀ j : Int, 0 ≤ j → j < n → 0 ≤ tx j ∧ tx j < 75) → ∀ x ∈ ap fi se tx n, 0 ≤ x ∧ x < 48 := by
  intro n
  induction n with
  | zero => intro _ x hx; cases hx
  | succ n ih =>
    intro h x hx
    have hx' : x ∈ ap fi se tx n ++ PT fi se (tx (n : Int)) := hx
    rcases List.mem_append.mp hx' with q | q
    · exact ih (fun j a b => h j a (by omega)) x q
    · have h2 := h n (by omega) (by omega)
      exact PT_rng hv 75 _ h2.1 (by omega) h2.2 x q
theorem FM_mem {rk fi se tx : Int → Int} (hv : vpt fi se) {n : Int} (h : ∀ j : Int, 0 ≤ j → j < n → 0 ≤ tx j ∧ tx j < 75) : ∀ x ∈ FM rk fi se tx n, 0 ≤ x ∧ x < 48 := by
  intro x hx
  rcases (srt_mem _ _).mp hx with q | q
  · cases q
  · exact ap_mem hv n.toNat (fun j a b => h j a (by omega)) x q
theorem FM_len {rk fi se tx : Int → Int} (hv : vpt fi se) (hs : SHT fi se) {n : Int} (h0 : 0 ≤ n) (h : ∀ j : Int, 0 ≤ j → j < n → 0 ≤ tx j ∧ tx j < 75) : ((FM rk fi se tx n).length : Int) ≤ 4 * n := by
  unfold FM
  rw [srt_len]
  have := ap_len hv hs n.toNat (fun j a b => h j a (by omega))
  have e : ([] : List Int).length = 0 := rfl
  omega
end
section
set_option maxRecDepth 100000 in
set_option maxHeartbeats 4000000 in
theorem c_M_part (l : Launch) (dC : Nat → ClassId) (dI : Nat → Nat → Nat) (cI : ClassId) (cZ : ClassId) (cG : ClassId) (cR : ClassId) (ad : Nat → Nat) (th : Int) (tb : Int → Int) (fi : Int → Int) (se : Int → Int) (lf : Int → Int) (ct : Int → Int) (ln : Int) (tx : Int → Int) (kl : Int → Int) (kp : Int → Int) (fl : Int) (fo : Int → Int) (ol : Int) (ot : Int → Int) (pl : Int → Int) (ky : Int) (nu : Int → Int) (yk : Int) (yn : Int → Int) (lc : Int → Int) (fw : Int → Int) (sd : Int → Int) (lw : Int → Int) (od : Int → Int) (sz : Nat) (c : Int) (a : Int) (b : Int) (x : Int) (hc : -2147483648 ≤ c ∧ c < 2147483648) (ha : -2147483648 ≤ a ∧ a < 2147483648) (hb : -2147483648 ≤ b ∧ b < 2147483648) (hx9 : x = 0 ∨ x = 1) (hv : vpt fi se) : Met l yM_part wsM_part ({ frames := 1, cells := 0, slots := 0, locals := 22 }) (va_Pc [.ref (ad 0), .int (iv c), .int (iv a), .int (iv b), .int (iv x)] (jPre (dC, dI) (jT cI cZ cG cR) (pM cI cZ cG cR ad th tb fi se lf ct ln tx kl kp fl fo ol ot pl ky nu yk yn lc fw sd lw od) sz)) (va_Qv (fun u : Int × (Int → Int) × (Int → Int) × (Int → Int) × (Int → Int) => (u.1 = 1 ∧ ¬ partOK c a b ∧ u.2.1 = fi ∧ u.2.2.1 = se ∧ u.2.2.2.1 = lf) ∨ (u.1 = 2 ∧ partOK c a b ∧ ¬ SHT (uI fi c a) (uI se c b) ∧ u.2.1 = fi ∧ u.2.2.1 = se ∧ u.2.2.2.1 = lf) ∨ (u.1 = 0 ∧ partOK c a b ∧ SHT (uI fi c a) (uI se c b) ∧ u.2.1 = uI fi c a ∧ u.2.2.1 = uI se c b ∧ u.2.2.2.1 = uI lf c x)) (fun u => jEnd (dC, dI) (jT cI cZ cG cR) (va_A (pM cI cZ cG cR ad th tb fi se lf ct ln tx kl kp fl fo ol ot pl ky nu yk yn lc fw sd lw od) sz) (pM cI cZ cG cR ad u.1 tb u.2.1 u.2.2.1 u.2.2.2.1 u.2.2.2.2 ln tx kl kp fl fo ol ot pl ky nu yk yn lc fw sd lw od)) (va_A (pM cI cZ cG cR ad th tb fi se lf ct ln tx kl kp fl fo ol ot pl ky nu yk yn lc fw sd lw od) sz)) 0 0 (va_A (pM cI cZ cG cR ad th tb fi se lf ct ln tx kl kp fl fo ol ot pl ky nu yk yn lc fw sd lw od) sz) := by
  refine jv_mv (cc := cM_part) (maxL := 7) (by decide) rfl (Nat.le_of_ble_eq_true rfl) ?_
  intro p0 e0 s0 m0 a0 b0 t0 c0 R0 Q0 A0 ls hx hb hts hown hml hRf hRl hA hK hret hl hP hD hS
  have hown : s0.vm.findClass "TextPipelineModel" = some m0.cls := hown
  have hw0 : ∀ w ∈ WS0, w.before a0 s0 = true := fun w h => hts w (List.mem_cons_of_mem _ h)
  have hl : lv_has ls 7 [(0, .ref (ad 0)), (1, .int (iv c)), (2, .int (iv a)), (3, .int (iv b)), (4, .int (iv x))] := hl
  have hRf : 1 ≤ R0.frames := hRf
  have hRl : 22 ≤ R0.locals := hRl
  refine lv_aload_n (pc := 0) hx hb dM_part_0 rfl (lv_at hl 0 rfl) ?_
  have cut44 : ∀ (tv : Int) (ls : Array Slot) (H : Heap) (locs : List Loc), ((tv = 0 ∧ partOK c a b) ∨ (tv = 1 ∧ ¬ partOK c a b)) → lv_has ls 7 [(0, .ref (ad 0)), (1, .int (iv c)), (2, .int (iv a)), (3, .int (iv b)), (4, .int (iv x))] → va_P (dC, dI) vwCl (pM cI cZ cG cR ad th tb fi se lf ct ln tx kl kp fl fo ol ot pl ky nu yk yn lc fw sd lw od) H → va_D A0 (pM cI cZ cG cR ad th tb fi se lf ct ln tx kl kp fl fo ol ot pl ky nu yk yn lc fw sd lw od) → va_S A0 s0.heap H locs → W p0 l e0 R0 s0 m0 a0 b0 t0 c0 H locs 0 0 Q0 (F0 m0 44 ls [.int (iv tv), .ref (ad 0)]) := by
    intro tv ls H locs ht hl hP hD hS
    refine jv_put (pc := 44) (D := (dC, dI)) (ci := 5) (v := .int (iv tv)) (ty := .int) (C := RM) (T := TM) (N := 24) (ws' := (pM cI cZ cG cR ad tv tb fi se lf ct ln tx kl kp fl fo ol ot pl ky nu yk yn lc fw sd lw od)) hx hb hw0 inM tyM tyM_ok nmM hown hK hP hD hS 0 rfl rfl 0 (by decide) (hw0 _ q651) (fun _ h9 => h9) rfl (by decide +kernel) rfl rfl (Nat.le_of_ble_eq_true rfl) dM_part_44 rfl (fun H locs hP hD hS => ?_)
    refine lv_aload_n (pc := 47) hx hb dM_part_47 rfl (lv_at hl 0 rfl) ?_
    refine va_get (pc := 48) (D := (dC, dI)) (ci := 5) (v := .int (iv tv)) (C := RM) (T := TM) (N := 24) hx hb hw0 inM hown hK hP 0 rfl rfl 0 (by decide) (hw0 _ q651) (fun _ h9 => h9) rfl dM_part_48 ?_
    refine jv_if_eq (pc := 51) (tgt := 55) hx hb dM_part_51 (by decide) (by omega) (fun h1 => ?_) (fun h1 => ?_)
    · skip
      have hok : partOK c a b := by rcases ht with h | h; exact h.2; omega
      have hok2 := hok
      unfold partOK at hok2
      refine lv_aload_n (pc := 55) hx hb dM_part_55 rfl (lv_at hl 0 rfl) ?_
      refine va_get (pc := 56) (D := (dC, dI)) (ci := 5) (v := .ref (ad 2)) (C := RM) (T := TM) (N := 24) hx hb hw0 inM hown hK hP 0 rfl rfl 2 (by decide) (hw0 _ q653) (fun _ h9 => h9) rfl dM_part_56 ?_
      refine lv_iload_n (pc := 59) hx hb dM_part_59 rfl (lv_at hl 1 rfl) ?_
      refine jv_iald (pc := 60) hx hb hK hP 2 0 rfl rfl (by decide) (by omega) dM_part_60 ?_
      refine lv_istore (pc := 61) (lv' := [(5, .int (iv (fi c))), (0, .ref (ad 0)), (1, .int (iv c)), (2, .int (iv a)), (3, .int (iv b)), (4, .int (iv x))]) hx hb dM_part_61 hl (by decide) rfl (fun ls hl => ?_)
      refine lv_aload_n (pc := 63) hx hb dM_part_63 rfl (lv_at hl 1 rfl) ?_
      refine va_get (pc := 64) (D := (dC, dI)) (ci := 5) (v := .ref (ad 3)) (C := RM) (T := TM) (N := 24) hx hb hw0 inM hown hK hP 0 rfl rfl 3 (by decide) (hw0 _ q654) (fun _ h9 => h9) rfl dM_part_64 ?_
      refine lv_iload_n (pc := 67) hx hb dM_part_67 rfl (lv_at hl 2 rfl) ?_
      refine jv_iald (pc := 68) hx hb hK hP 3 0 rfl rfl (by decide) (by omega) dM_part_68 ?_
      refine lv_istore (pc := 69) (lv' := [(6, .int (iv (se c))), (5, .int (iv (fi c))), (0, .ref (ad 0)), (1, .int (iv c)), (2, .int (iv a)), (3, .int (iv b)), (4, .int (iv x))]) hx hb dM_part_69 hl (by decide) rfl (fun ls hl => ?_)
      refine lv_aload_n (pc := 71) hx hb dM_part_71 rfl (lv_at hl 2 rfl) ?_
      refine va_get (pc := 72) (D := (dC, dI)) (ci := 5) (v := .ref (ad 2)) (C := RM) (T := TM) (N := 24) hx hb hw0 inM hown hK hP 0 rfl rfl 2 (by decide) (hw0 _ q653) (fun _ h9 => h9) rfl dM_part_72 ?_
      refine lv_iload_n (pc := 75) hx hb dM_part_75 rfl (lv_at hl 3 rfl) ?_
      refine lv_iload_n (pc := 76) hx hb dM_part_76 rfl (lv_at hl 4 rfl) ?_
      refine jv_iast (pc := 77) (ws' := (pM cI cZ cG cR ad tv tb (uI fi c a) se lf ct ln tx kl kp fl fo ol ot pl ky nu yk yn lc fw sd lw od)) hx hb hK hP hD hS 2 0 rfl rfl (by decide) (by omega) dM_part_77 rfl (fun H locs hP hD hS => ?_)
      refine lv_aload_n (pc := 78) hx hb dM_part_78 rfl (lv_at hl 2 rfl) ?_
      refine va_get (pc := 79) (D := (dC, dI)) (ci := 5) (v := .ref (ad 3)) (C := RM) (T := TM) (N := 24) hx hb hw0 inM hown hK hP 0 rfl rfl 3 (by decide) (hw0 _ q654) (fun _ h9 => h9) rfl dM_part_79 ?_
      refine lv_iload_n (pc := 82) hx hb dM_part_82 rfl (lv_at hl 3 rfl) ?_
      refine lv_iload_n (pc := 83) hx hb dM_part_83 rfl (lv_at hl 5 rfl) ?_
      refine jv_iast (pc := 84) (ws' := (pM cI cZ cG cR ad tv tb (uI fi c a) (uI se c b) lf ct ln tx kl kp fl fo ol ot pl ky nu yk yn lc fw sd lw od)) hx hb hK hP hD hS 3 0 rfl rfl (by decide) (by omega) dM_part_84 rfl (fun H locs hP hD hS => ?_)
      refine lv_aload_n (pc := 85) hx hb dM_part_85 rfl (lv_at hl 2 rfl) ?_
      refine jv_ri (pc := 86) (wr := []) (wn := fun u : Int × (Int → Int) => (pM cI cZ cG cR ad tv tb (uI fi c a) (uI se c b) lf u.2 ln tx kl kp fl fo ol ot pl ky nu yk yn lc fw sd lw od)) (va_runV (rest := []) ⟨hx, hb, hml, hown, hw0⟩ (c_M_isShort l dC dI cI cZ cG cR ad tv tb (uI fi c a) (uI se c b) lf ct ln tx kl kp fl fo ol ot pl ky nu yk yn lc fw sd lw od _  (by exact vpt_up hv hok)) (jcV hw0 kM_isShort q736 rfl rfl ⟨Nat.le_trans (Nat.le_of_ble_eq_true rfl) hRf, Nat.le_trans (Nat.le_of_ble_eq_true rfl) hRl⟩) (jv_preV (ci := 5) (q0 := 0) hK hP hD [0, 1, 2, 3, 4, 5, 6, 7, 8, 9, 10, 11, 12, 13, 14, 15, 16, 17, 18] rfl (by decide) rfl rfl) rfl rfl hl.1 rfl (lv_room (Nat.le_of_ble_eq_true rfl)) dM_part_86 ⟨Nat.zero_le _, Nat.zero_le _⟩) hP hD hS hA [0, 1, 2, 3, 4, 5, 6, 7, 8, 9, 10, 11, 12, 13, 14, 15, 16, 17, 18] [] [0, 1, 2, 3, 4, 5, 6, 7, 8, 9, 10, 11, 12, 13, 14, 15, 16, 17, 18] rfl rfl (by decide) (by decide) (by decide) (fun _ => rfl) (fun r0 u H locs hw86 hP hD hS => ?_)
      obtain ⟨r_86, ct_86⟩ := u
      dsimp only at hw86 hP hD
      obtain ⟨rfl, hw86⟩ := hw86
      refine jv_if_ne (pc := 89) (tgt := 114) hx hb dM_part_89 (by decide) (by omega) (fun h2 => ?_) (fun h2 => ?_)
      · skip
        refine lv_aload_n (pc := 114) hx hb dM_part_114 rfl (lv_at hl 2 rfl) ?_
        refine va_get (pc := 115) (D := (dC, dI)) (ci := 5) (v := .ref (ad 4)) (C := RM) (T := TM) (N := 24) hx hb hw0 inM hown hK hP 0 rfl rfl 4 (by decide) (hw0 _ q655) (fun _ h9 => h9) rfl dM_part_115 ?_
        refine lv_iload_n (pc := 118) hx hb dM_part_118 rfl (lv_at hl 3 rfl) ?_
        refine lv_iload (pc := 119) hx hb dM_part_119 (lv_at hl 6 rfl) ?_
        refine jv_zast (pc := 121) (ws' := (pM cI cZ cG cR ad tv tb (uI fi c a) (uI se c b) (uI lf c x) ct_86 ln tx kl kp fl fo ol ot pl ky nu yk yn lc fw sd lw od)) hx hb hK hP hD hS 4 1 rfl rfl (by decide) (by omega) (by omega) dM_part_121 rfl (fun H locs hP hD hS => ?_)
        exact hret (tv, (uI fi c a), (uI se c b), (uI lf c x), ct_86) dM_part_122 (by exact Or.inr (Or.inr ⟨by omega, hok, hw86.2.mp (by omega), rfl, rfl, rfl⟩)) hP hD hS
      refine lv_aload_n (pc := 92) hx hb dM_part_92 rfl (lv_at hl 2 rfl) ?_
      refine va_get (pc := 93) (D := (dC, dI)) (ci := 5) (v := .ref (ad 2)) (C := RM) (T := TM) (N := 24) hx hb hw0 inM hown hK hP 0 rfl rfl 2 (by decide) (hw0 _ q653) (fun _ h9 => h9) rfl dM_part_93 ?_
      refine lv_iload_n (pc := 96) hx hb dM_part_96 rfl (lv_at hl 3 rfl) ?_
      refine lv_iload (pc := 97) hx hb dM_part_97 (lv_at hl 1 rfl) ?_
      refine jv_iast (pc := 99) (ws' := (pM cI cZ cG cR ad tv tb (uI (uI fi c a) c (fi c)) (uI se c b) lf ct_86 ln tx kl kp fl fo ol ot pl ky nu yk yn lc fw sd lw od)) hx hb hK hP hD hS 2 0 rfl rfl (by decide) (by omega) dM_part_99 rfl (fun H locs hP hD hS => ?_)
      refine lv_aload_n (pc := 100) hx hb dM_part_100 rfl (lv_at hl 2 rfl) ?_
      refine va_get (pc := 101) (D := (dC, dI)) (ci := 5) (v := .ref (ad 3)) (C := RM) (T := TM) (N := 24) hx hb hw0 inM hown hK hP 0 rfl rfl 3 (by decide) (hw0 _ q654) (fun _ h9 => h9) rfl dM_part_101 ?_
      refine lv_iload_n (pc := 104) hx hb dM_part_104 rfl (lv_at hl 3 rfl) ?_
      refine lv_iload (pc := 105) hx hb dM_part_105 (lv_at hl 0 rfl) ?_
      refine jv_iast (pc := 107) (ws' := (pM cI cZ cG cR ad tv tb (uI (uI fi c a) c (fi c)) (uI (uI se c b) c (se c)) lf ct_86 ln tx kl kp fl fo ol ot pl ky nu yk yn lc fw sd lw od)) hx hb hK hP hD hS 3 0 rfl rfl (by decide) (by omega) dM_part_107 rfl (fun H locs hP hD hS => ?_)
      refine lv_aload_n (pc := 108) hx hb dM_part_108 rfl (lv_at hl 2 rfl) ?_
      refine lv_iconst (pc := 109) (v := iv 2) hx hb dM_part_109 rfl ?_
      refine jv_put (pc := 110) (D := (dC, dI)) (ci := 5) (v := .int (iv 2)) (ty := .int) (C := RM) (T := TM) (N := 24) (ws' := (pM cI cZ cG cR ad 2 tb (uI (uI fi c a) c (fi c)) (uI (uI se c b) c (se c)) lf ct_86 ln tx kl kp fl fo ol ot pl ky nu yk yn lc fw sd lw od)) hx hb hw0 inM tyM tyM_ok nmM hown hK hP hD hS 0 rfl rfl 0 (by decide) (hw0 _ q651) (fun _ h9 => h9) rfl (by decide +kernel) rfl rfl (Nat.le_of_ble_eq_true rfl) dM_part_110 rfl (fun H locs hP hD hS => ?_)
      exact hret (2, (uI (uI fi c a) c (fi c)), (uI (uI se c b) c (se c)), lf, ct_86) dM_part_113 (by exact Or.inr (Or.inl ⟨rfl, hok, fun h => by have := hw86.2.mpr h; omega, uI_back, uI_back, rfl⟩)) hP hD hS
    exact hret (tv, fi, se, lf, ct) dM_part_54 (by exact Or.inl ⟨by omega, by rcases ht with h | h; omega; exact h.2, rfl, rfl, rfl⟩) hP hD hS
  refine lv_iload_n (pc := 1) hx hb dM_part_1 rfl (lv_at hl 1 rfl) ?_
  refine jv_if_lt (pc := 2) (tgt := 39) hx hb dM_part_2 (by decide) (by omega) (fun h3 => ?_) (fun h3 => ?_)
  · skip
    refine lv_iconst (pc := 39) (v := iv 1) hx hb dM_part_39 rfl ?_
    refine lv_goto (pc := 40) (tgt := 44) hx hb dM_part_40 (by decide) ?_
    exact cut44 1 _ _ _ (by unfold partOK; omega) hl hP hD hS
  refine lv_iload_n (pc := 5) hx hb dM_part_5 rfl (lv_at hl 1 rfl) ?_
  refine lv_bipush (pc := 6) (v := iv 39) hx hb dM_part_6 (by decide) ?_
  refine jv_icmp_gt (pc := 8) (tgt := 39) hx hb dM_part_8 (by decide) (by omega) (by decide) (fun h4 => ?_) (fun h4 => ?_)
  · skip
    refine lv_iconst (pc := 39) (v := iv 1) hx hb dM_part_39 rfl ?_
    refine lv_goto (pc := 40) (tgt := 44) hx hb dM_part_40 (by decide) ?_
    exact cut44 1 _ _ _ (by unfold partOK; omega) hl hP hD hS
  refine lv_iload_n (pc := 11) hx hb dM_part_11 rfl (lv_at hl 2 rfl) ?_
  refine lv_iconst (pc := 12) (v := iv (-1)) hx hb dM_part_12 rfl ?_
  refine jv_icmp_lt (pc := 13) (tgt := 39) hx hb dM_part_13 (by decide) (by omega) (by decide) (fun h5 => ?_) (fun h5 => ?_)
  · skip
    refine lv_iconst (pc := 39) (v := iv 1) hx hb dM_part_39 rfl ?_
    refine lv_goto (pc := 40) (tgt := 44) hx hb dM_part_40 (by decide) ?_
    exact cut44 1 _ _ _ (by unfold partOK; omega) hl hP hD hS
  refine lv_iload_n (pc := 16) hx hb dM_part_16 rfl (lv_at hl 2 rfl) ?_
  refine lv_iload_n (pc := 17) hx hb dM_part_17 rfl (lv_at hl 1 rfl) ?_
  refine jv_icmp_ge (pc := 18) (tgt := 39) hx hb dM_part_18 (by decide) (by omega) (by omega) (fun h6 => ?_) (fun h6 => ?_)
  · skip
    refine lv_iconst (pc := 39) (v := iv 1) hx hb dM_part_39 rfl ?_
    refine lv_goto (pc := 40) (tgt := 44) hx hb dM_part_40 (by decide) ?_
    exact cut44 1 _ _ _ (by unfold partOK; omega) hl hP hD hS
  refine lv_iload_n (pc := 21) hx hb dM_part_21 rfl (lv_at hl 3 rfl) ?_
  refine lv_iconst (pc := 22) (v := iv (-1)) hx hb dM_part_22 rfl ?_
  refine jv_icmp_lt (pc := 23) (tgt := 39) hx hb dM_part_23 (by decide) (by omega) (by decide) (fun h7 => ?_) (fun h7 => ?_)
  · skip
    refine lv_iconst (pc := 39) (v := iv 1) hx hb dM_part_39 rfl ?_
    refine lv_goto (pc := 40) (tgt := 44) hx hb dM_part_40 (by decide) ?_
    exact cut44 1 _ _ _ (by unfold partOK; omega) hl hP hD hS
  refine lv_iload_n (pc := 26) hx hb dM_part_26 rfl (lv_at hl 3 rfl) ?_
  refine lv_iload_n (pc := 27) hx hb dM_part_27 rfl (lv_at hl 1 rfl) ?_
  refine jv_icmp_ge (pc := 28) (tgt := 39) hx hb dM_part_28 (by decide) (by omega) (by omega) (fun h8 => ?_) (fun h8 => ?_)
  · skip
    refine lv_iconst (pc := 39) (v := iv 1) hx hb dM_part_39 rfl ?_
    refine lv_goto (pc := 40) (tgt := 44) hx hb dM_part_40 (by decide) ?_
    exact cut44 1 _ _ _ (by unfold partOK; omega) hl hP hD hS
  refine lv_iload_n (pc := 31) hx hb dM_part_31 rfl (lv_at hl 2 rfl) ?_
  refine jv_if_ge (pc := 32) (tgt := 43) hx hb dM_part_32 (by decide) (by omega) (fun h9 => ?_) (fun h9 => ?_)
  · skip
    refine lv_iconst (pc := 43) (v := iv 0) hx hb dM_part_43 rfl ?_
    exact cut44 0 _ _ _ (by unfold partOK; omega) hl hP hD hS
  refine lv_iload_n (pc := 35) hx hb dM_part_35 rfl (lv_at hl 3 rfl) ?_
  refine jv_if_lt (pc := 36) (tgt := 43) hx hb dM_part_36 (by decide) (by omega) (fun h10 => ?_) (fun h10 => ?_)
  · skip
    refine lv_iconst (pc := 43) (v := iv 0) hx hb dM_part_43 rfl ?_
    exact cut44 0 _ _ _ (by unfold partOK; omega) hl hP hD hS
  refine lv_iconst (pc := 39) (v := iv 1) hx hb dM_part_39 rfl ?_
  refine lv_goto (pc := 40) (tgt := 44) hx hb dM_part_40 (by decide) ?_
  exact cut44 1 _ _ _ (by unfold partOK; omega) hl hP hD hS
set_option maxRecDepth 100000 in
set_option maxHeartbeats 4000000 in
theorem c_M_putParts (l : Launch) (dC : Nat → ClassId) (dI : Nat → Nat → Nat) (cI : ClassId) (cZ : ClassId) (cG : ClassId) (cR : ClassId) (ad : Nat → Nat) (th : Int) (tb : Int → Int) (fi : Int → Int) (se : Int → Int) (lf : Int → Int) (ct : Int → Int) (ln : Int) (tx : Int → Int) (kl : Int → Int) (kp : Int → Int) (fl : Int) (fo : Int → Int) (ol : Int) (ot : Int → Int) (pl : Int → Int) (ky : Int) (nu : Int → Int) (yk : Int) (yn : Int → Int) (lc : Int → Int) (fw : Int → Int) (sd : Int → Int) (lw : Int → Int) (od : Int → Int) (sz : Nat) (c : Int) (hp : 0 ≤ c ∧ c < 75) (hv : vpt fi se) (hs : SHT fi se) (hf : 0 ≤ fl ∧ fl + 4 ≤ 170) : Met l yM_putParts wsM_putParts ({ frames := 1, cells := 0, slots := 0, locals := 21 }) (va_Pc [.ref (ad 0), .int (iv c)] (jPre (dC, dI) (jT cI cZ cG cR) (pM cI cZ cG cR ad th tb fi se lf ct ln tx kl kp fl fo ol ot pl ky nu yk yn lc fw sd lw od) sz)) (va_Qv (fun u : Int × (Int → Int) × (Int → Int) => fl ≤ u.1 ∧ u.1 = fl + (PT fi se c).length ∧ rsg u.2.1 u.1.toNat = (PT fi se c).reverse ++ rsg fo fl.toNat) (fun u => jEnd (dC, dI) (jT cI cZ cG cR) (va_A (pM cI cZ cG cR ad th tb fi se lf ct ln tx kl kp fl fo ol ot pl ky nu yk yn lc fw sd lw od) sz) (pM cI cZ cG cR ad th tb fi se lf ct ln tx kl kp u.1 u.2.1 ol ot u.2.2 ky nu yk yn lc fw sd lw od)) (va_A (pM cI cZ cG cR ad th tb fi se lf ct ln tx kl kp fl fo ol ot pl ky nu yk yn lc fw sd lw od) sz)) 0 0 (va_A (pM cI cZ cG cR ad th tb fi se lf ct ln tx kl kp fl fo ol ot pl ky nu yk yn lc fw sd lw od) sz) := by
  refine jv_mv (cc := cM_putParts) (maxL := 4) (by decide) rfl (Nat.le_of_ble_eq_true rfl) ?_
  intro p0 e0 s0 m0 a0 b0 t0 c0 R0 Q0 A0 ls hx hb hts hown hml hRf hRl hA hK hret hl hP hD hS
  have hown : s0.vm.findClass "TextPipelineModel" = some m0.cls := hown
  have hw0 : ∀ w ∈ WS0, w.before a0 s0 = true := fun w h => hts w (List.mem_cons_of_mem _ h)
  have hl : lv_has ls 4 [(0, .ref (ad 0)), (1, .int (iv c))] := hl
  have hRf : 1 ≤ R0.frames := hRf
  have hRl : 21 ≤ R0.locals := hRl
  refine lv_iconst (pc := 0) (v := iv 1) hx hb dM_putParts_0 rfl ?_
  refine lv_istore_n (pc := 1) (lv' := [(2, .int (iv 1)), (0, .ref (ad 0)), (1, .int (iv c))]) hx hb dM_putParts_1 rfl hl (by decide) rfl (fun ls hl => ?_)
  refine lv_aload_n (pc := 2) hx hb dM_putParts_2 rfl (lv_at hl 1 rfl) ?_
  refine va_get (pc := 3) (D := (dC, dI)) (ci := 5) (v := .ref (ad 14)) (C := RM) (T := TM) (N := 24) hx hb hw0 inM hown hK hP 0 rfl rfl 14 (by decide) (hw0 _ q665) (fun _ h9 => h9) rfl dM_putParts_3 ?_
  refine lv_iconst (pc := 6) (v := iv 0) hx hb dM_putParts_6 rfl ?_
  refine lv_iload_n (pc := 7) hx hb dM_putParts_7 rfl (lv_at hl 2 rfl) ?_
  refine jv_iast (pc := 8) (ws' := (pM cI cZ cG cR ad th tb fi se lf ct ln tx kl kp fl fo ol ot (uI pl 0 c) ky nu yk yn lc fw sd lw od)) hx hb hK hP hD hS 11 0 rfl rfl (by decide) (by omega) dM_putParts_8 rfl (fun H locs hP hD hS => ?_)
  have cut9 : ∀ (n0 : Nat) (n : Int) (pl1 : Int → Int) (fl1 : Int) (fo1 : Int → Int) (ls : Array Slot) (H : Heap) (locs : List Loc), (ppI fi se c fl fo n pl1 fl1 fo1) → (mND fi se (rsg pl1 (n : Int).toNat) < n0) → lv_has ls 4 [(0, .ref (ad 0)), (2, .int (iv n))] → va_P (dC, dI) vwCl (pM cI cZ cG cR ad th tb fi se lf ct ln tx kl kp fl1 fo1 ol ot pl1 ky nu yk yn lc fw sd lw od) H → va_D A0 (pM cI cZ cG cR ad th tb fi se lf ct ln tx kl kp fl1 fo1 ol ot pl1 ky nu yk yn lc fw sd lw od) → va_S A0 s0.heap H locs → W p0 l e0 R0 s0 m0 a0 b0 t0 c0 H locs 0 0 Q0 (F0 m0 9 ls []) := by
    intro n0
    induction n0 with
    | zero => intro n pl1 fl1 fo1 ls H locs hI hm hl hP hD hS; exact absurd hm (Nat.not_lt_zero _)
    | succ n0 ih9 =>
      intro n pl1 fl1 fo1 ls H locs hI hm9 hl hP hD hS
      have hI0 := hI.1
      have hbd := pp_b hv hs hp hI hf.1
      refine lv_iload_n (pc := 9) hx hb dM_putParts_9 rfl (lv_at hl 1 rfl) ?_
      refine jv_if_le (pc := 10) (tgt := 142) hx hb dM_putParts_10 (by decide) (by omega) (fun h1 => ?_) (fun h1 => ?_)
      · skip
        exact hret (fl1, fo1, pl1) dM_putParts_142 (by have h0 : n = 0 := (by have := hI.1; omega); subst h0; have h2 := hI.2.2.2; have h3 := pp_len hI hf.1; exact ⟨hI.2.1, (by have e : (fm fi se (rsg pl1 (0 : Int).toNat)).length = 0 := rfl; omega), h2⟩) hP hD hS
      have hbd := pp_b hv hs hp hI hf.1
      have hX := pp_x hv hs hp hI hf.1 (by omega)
      have hI1 := hI.2.1
      have hps := PT_pos fi se (pl1 (n - 1))
      refine jv_idec (pc := 13) (k := 1) (x := n) (n := (-1)) (d := 1) (lv' := [(2, .int (iv (n - 1))), (0, .ref (ad 0))]) hx hb dM_putParts_13 (by decide) hl rfl (by decide) rfl (fun ls hl => ?_)
      refine lv_aload_n (pc := 16) hx hb dM_putParts_16 rfl (lv_at hl 1 rfl) ?_
      refine va_get (pc := 17) (D := (dC, dI)) (ci := 5) (v := .ref (ad 14)) (C := RM) (T := TM) (N := 24) hx hb hw0 inM hown hK hP 0 rfl rfl 14 (by decide) (hw0 _ q665) (fun _ h9 => h9) rfl dM_putParts_17 ?_
      refine lv_iload_n (pc := 20) hx hb dM_putParts_20 rfl (lv_at hl 0 rfl) ?_
      refine jv_iald (pc := 21) hx hb hK hP 11 0 rfl rfl (by decide) (by omega) dM_putParts_21 ?_
      refine lv_istore_n (pc := 22) (lv' := [(3, .int (iv (pl1 (n - 1)))), (2, .int (iv (n - 1))), (0, .ref (ad 0))]) hx hb dM_putParts_22 rfl hl (by decide) rfl (fun ls hl => ?_)
      have cut139 : ∀ (n2 : Int) (pl2 : Int → Int) (fl2 : Int) (fo2 : Int → Int) (ls : Array Slot) (H : Heap) (locs : List Loc), (ppI fi se c fl fo n2 pl2 fl2 fo2) → (mND fi se (rsg pl2 (n2 : Int).toNat) < mND fi se (rsg pl1 (n : Int).toNat)) → lv_has ls 4 [(0, .ref (ad 0)), (2, .int (iv n2))] → va_P (dC, dI) vwCl (pM cI cZ cG cR ad th tb fi se lf ct ln tx kl kp fl2 fo2 ol ot pl2 ky nu yk yn lc fw sd lw od) H → va_D A0 (pM cI cZ cG cR ad th tb fi se lf ct ln tx kl kp fl2 fo2 ol ot pl2 ky nu yk yn lc fw sd lw od) → va_S A0 s0.heap H locs → W p0 l e0 R0 s0 m0 a0 b0 t0 c0 H locs 0 0 Q0 (F0 m0 139 ls []) := by
        intro n2 pl2 fl2 fo2 ls H locs hI2 hm2 hl hP hD hS
        refine lv_goto (pc := 139) (tgt := 9) hx hb dM_putParts_139 (by decide) ?_
        exact ih9 n2 pl2 fl2 fo2 _ _ _ (by exact hI2) (by omega) hl hP hD hS
      refine lv_iload_n (pc := 23) hx hb dM_putParts_23 rfl (lv_at hl 0 rfl) ?_
      refine lv_bipush (pc := 24) (v := iv 47) hx hb dM_putParts_24 (by decide) ?_
      refine jv_icmp_le (pc := 26) (tgt := 77) hx hb dM_putParts_26 (by decide) (by omega) (by decide) (fun h2 => ?_) (fun h2 => ?_)
      · skip
        refine lv_iload_n (pc := 77) hx hb dM_putParts_77 rfl (lv_at hl 0 rfl) ?_
        refine lv_bipush (pc := 78) (v := iv 40) hx hb dM_putParts_78 (by decide) ?_
        refine jv_icmp_ge (pc := 80) (tgt := 134) hx hb dM_putParts_80 (by decide) (by omega) (by decide) (fun h3 => ?_) (fun h3 => ?_)
        · skip
          refine lv_aload_n (pc := 134) hx hb dM_putParts_134 rfl (lv_at hl 2 rfl) ?_
          refine lv_iload_n (pc := 135) hx hb dM_putParts_135 rfl (lv_at hl 0 rfl) ?_
          refine jv_rv (pc := 136) (wr := []) (wn := fun u : Int × (Int → Int) => (pM cI cZ cG cR ad th tb fi se lf ct ln tx kl kp u.1 u.2 ol ot pl1 ky nu yk yn lc fw sd lw od)) (va_runV (rest := []) ⟨hx, hb, hml, hown, hw0⟩ (c_M_put l dC dI cI cZ cG cR ad th tb fi se lf ct ln tx kl kp fl1 fo1 ol ot pl1 ky nu yk yn lc fw sd lw od _ (pl1 (n - 1)) (by omega)) (jcV hw0 kM_put q768 rfl rfl ⟨Nat.le_trans (Nat.le_of_ble_eq_true rfl) hRf, Nat.le_trans (Nat.le_of_ble_eq_true rfl) hRl⟩) (jv_preV (ci := 5) (q0 := 0) hK hP hD [0, 1, 2, 3, 4, 5, 6, 7, 8, 9, 10, 11, 12, 13, 14, 15, 16, 17, 18] rfl (by decide) rfl rfl) rfl rfl hl.1 rfl (lv_room (Nat.le_of_ble_eq_true rfl)) dM_putParts_136 ⟨Nat.zero_le _, Nat.zero_le _⟩) hP hD hS hA [0, 1, 2, 3, 4, 5, 6, 7, 8, 9, 10, 11, 12, 13, 14, 15, 16, 17, 18] [] [0, 1, 2, 3, 4, 5, 6, 7, 8, 9, 10, 11, 12, 13, 14, 15, 16, 17, 18] rfl rfl (by decide) (by decide) (by decide) (fun _ => rfl) (fun u H locs hw136 hP hD hS => ?_)
          obtain ⟨fl_136, fo_136⟩ := u
          dsimp only at hw136 hP hD
          exact cut139 (n - 1) pl1 fl_136 fo_136 _ _ _ (by refine pp_put hI (by omega) rfl (PT_own (by omega) (by omega)) (by omega) ?_; rw [hw136.2, hw136.1, rsg_put (by omega)]; rfl) (by exact mND_pop (by omega)) (lv_sub hl [2, 1] rfl) hP hD hS
        have hvx := hv (pl1 (n - 1)) (by omega) (by omega)
        refine lv_aload_n (pc := 83) hx hb dM_putParts_83 rfl (lv_at hl 2 rfl) ?_
        refine va_get (pc := 84) (D := (dC, dI)) (ci := 5) (v := .ref (ad 2)) (C := RM) (T := TM) (N := 24) hx hb hw0 inM hown hK hP 0 rfl rfl 2 (by decide) (hw0 _ q653) (fun _ h9 => h9) rfl dM_putParts_84 ?_
        refine lv_iload_n (pc := 87) hx hb dM_putParts_87 rfl (lv_at hl 0 rfl) ?_
        refine jv_iald (pc := 88) hx hb hK hP 2 0 rfl rfl (by decide) (by omega) dM_putParts_88 ?_
        refine jv_if_lt (pc := 89) (tgt := 134) hx hb dM_putParts_89 (by decide) (by omega) (fun h4 => ?_) (fun h4 => ?_)
        · skip
          refine lv_aload_n (pc := 134) hx hb dM_putParts_134 rfl (lv_at hl 2 rfl) ?_
          refine lv_iload_n (pc := 135) hx hb dM_putParts_135 rfl (lv_at hl 0 rfl) ?_
          refine jv_rv (pc := 136) (wr := []) (wn := fun u : Int × (Int → Int) => (pM cI cZ cG cR ad th tb fi se lf ct ln tx kl kp u.1 u.2 ol ot pl1 ky nu yk yn lc fw sd lw od)) (va_runV (rest := []) ⟨hx, hb, hml, hown, hw0⟩ (c_M_put l dC dI cI cZ cG cR ad th tb fi se lf ct ln tx kl kp fl1 fo1 ol ot pl1 ky nu yk yn lc fw sd lw od _ (pl1 (n - 1)) (by omega)) (jcV hw0 kM_put q768 rfl rfl ⟨Nat.le_trans (Nat.le_of_ble_eq_true rfl) hRf, Nat.le_trans (Nat.le_of_ble_eq_true rfl) hRl⟩) (jv_preV (ci := 5) (q0 := 0) hK hP hD [0, 1, 2, 3, 4, 5, 6, 7, 8, 9, 10, 11, 12, 13, 14, 15, 16, 17, 18] rfl (by decide) rfl rfl) rfl rfl hl.1 rfl (lv_room (Nat.le_of_ble_eq_true rfl)) dM_putParts_136 ⟨Nat.zero_le _, Nat.zero_le _⟩) hP hD hS hA [0, 1, 2, 3, 4, 5, 6, 7, 8, 9, 10, 11, 12, 13, 14, 15, 16, 17, 18] [] [0, 1, 2, 3, 4, 5, 6, 7, 8, 9, 10, 11, 12, 13, 14, 15, 16, 17, 18] rfl rfl (by decide) (by decide) (by decide) (fun _ => rfl) (fun u H locs hw136 hP hD hS => ?_)
          obtain ⟨fl_136, fo_136⟩ := u
          dsimp only at hw136 hP hD
          exact cut139 (n - 1) pl1 fl_136 fo_136 _ _ _ (by refine pp_put hI (by omega) rfl (PT_own (by omega) (by omega)) (by omega) ?_; rw [hw136.2, hw136.1, rsg_put (by omega)]; rfl) (by exact mND_pop (by omega)) (lv_sub hl [2, 1] rfl) hP hD hS
        refine lv_aload_n (pc := 92) hx hb dM_putParts_92 rfl (lv_at hl 2 rfl) ?_
        refine va_get (pc := 93) (D := (dC, dI)) (ci := 5) (v := .ref (ad 3)) (C := RM) (T := TM) (N := 24) hx hb hw0 inM hown hK hP 0 rfl rfl 3 (by decide) (hw0 _ q654) (fun _ h9 => h9) rfl dM_putParts_93 ?_
        refine lv_iload_n (pc := 96) hx hb dM_putParts_96 rfl (lv_at hl 0 rfl) ?_
        refine jv_iald (pc := 97) hx hb hK hP 3 0 rfl rfl (by decide) (by omega) dM_putParts_97 ?_
        refine jv_if_lt (pc := 98) (tgt := 116) hx hb dM_putParts_98 (by decide) (by omega) (fun h5 => ?_) (fun h5 => ?_)
        · skip
          refine lv_aload_n (pc := 116) hx hb dM_putParts_116 rfl (lv_at hl 2 rfl) ?_
          refine va_get (pc := 117) (D := (dC, dI)) (ci := 5) (v := .ref (ad 14)) (C := RM) (T := TM) (N := 24) hx hb hw0 inM hown hK hP 0 rfl rfl 14 (by decide) (hw0 _ q665) (fun _ h9 => h9) rfl dM_putParts_117 ?_
          refine lv_iload_n (pc := 120) hx hb dM_putParts_120 rfl (lv_at hl 1 rfl) ?_
          refine lv_aload_n (pc := 121) hx hb dM_putParts_121 rfl (lv_at hl 2 rfl) ?_
          refine va_get (pc := 122) (D := (dC, dI)) (ci := 5) (v := .ref (ad 2)) (C := RM) (T := TM) (N := 24) hx hb hw0 inM hown hK hP 0 rfl rfl 2 (by decide) (hw0 _ q653) (fun _ h9 => h9) rfl dM_putParts_122 ?_
          refine lv_iload_n (pc := 125) hx hb dM_putParts_125 rfl (lv_at hl 0 rfl) ?_
          refine jv_iald (pc := 126) hx hb hK hP 2 0 rfl rfl (by decide) (by omega) dM_putParts_126 ?_
          refine jv_iast (pc := 127) (ws' := (pM cI cZ cG cR ad th tb fi se lf ct ln tx kl kp fl1 fo1 ol ot (uI pl1 (n - 1) (fi (pl1 (n - 1)))) ky nu yk yn lc fw sd lw od)) hx hb hK hP hD hS 11 0 rfl rfl (by decide) (by omega) dM_putParts_127 rfl (fun H locs hP hD hS => ?_)
          refine jv_iinc (pc := 128) (k := 1) (x := n - 1) (n := 1) (lv' := [(2, .int (iv (n - 1 + 1))), (3, .int (iv (pl1 (n - 1)))), (0, .ref (ad 0))]) hx hb dM_putParts_128 hl rfl (by decide) rfl (fun ls hl => ?_)
          refine lv_goto (pc := 131) (tgt := 139) hx hb dM_putParts_131 (by decide) ?_
          exact cut139 (n - 1 + 1) (uI pl1 (n - 1) (fi (pl1 (n - 1)))) fl1 fo1 _ _ _ (by first | exact pp_two hv hI (by omega) rfl (by omega) (by omega) (by omega) | exact pp_one hv hI (by omega) rfl (by omega) (by omega) (by omega)) (by first | exact mND_two hv (by omega) rfl (by omega) (by omega) (by omega) | exact mND_one hv (by omega) rfl (by omega) (by omega) (by omega)) (lv_sub hl [2, 0] rfl) hP hD hS
        refine lv_aload_n (pc := 101) hx hb dM_putParts_101 rfl (lv_at hl 2 rfl) ?_
        refine va_get (pc := 102) (D := (dC, dI)) (ci := 5) (v := .ref (ad 14)) (C := RM) (T := TM) (N := 24) hx hb hw0 inM hown hK hP 0 rfl rfl 14 (by decide) (hw0 _ q665) (fun _ h9 => h9) rfl dM_putParts_102 ?_
        refine lv_iload_n (pc := 105) hx hb dM_putParts_105 rfl (lv_at hl 1 rfl) ?_
        refine lv_aload_n (pc := 106) hx hb dM_putParts_106 rfl (lv_at hl 2 rfl) ?_
        refine va_get (pc := 107) (D := (dC, dI)) (ci := 5) (v := .ref (ad 3)) (C := RM) (T := TM) (N := 24) hx hb hw0 inM hown hK hP 0 rfl rfl 3 (by decide) (hw0 _ q654) (fun _ h9 => h9) rfl dM_putParts_107 ?_
        refine lv_iload_n (pc := 110) hx hb dM_putParts_110 rfl (lv_at hl 0 rfl) ?_
        refine jv_iald (pc := 111) hx hb hK hP 3 0 rfl rfl (by decide) (by omega) dM_putParts_111 ?_
        refine jv_iast (pc := 112) (ws' := (pM cI cZ cG cR ad th tb fi se lf ct ln tx kl kp fl1 fo1 ol ot (uI pl1 (n - 1) (se (pl1 (n - 1)))) ky nu yk yn lc fw sd lw od)) hx hb hK hP hD hS 11 0 rfl rfl (by decide) (by omega) dM_putParts_112 rfl (fun H locs hP hD hS => ?_)
        refine jv_iinc (pc := 113) (k := 1) (x := n - 1) (n := 1) (lv' := [(2, .int (iv (n - 1 + 1))), (3, .int (iv (pl1 (n - 1)))), (0, .ref (ad 0))]) hx hb dM_putParts_113 hl rfl (by decide) rfl (fun ls hl => ?_)
        refine lv_aload_n (pc := 116) hx hb dM_putParts_116 rfl (lv_at hl 2 rfl) ?_
        refine va_get (pc := 117) (D := (dC, dI)) (ci := 5) (v := .ref (ad 14)) (C := RM) (T := TM) (N := 24) hx hb hw0 inM hown hK hP 0 rfl rfl 14 (by decide) (hw0 _ q665) (fun _ h9 => h9) rfl dM_putParts_117 ?_
        refine lv_iload_n (pc := 120) hx hb dM_putParts_120 rfl (lv_at hl 0 rfl) ?_
        refine lv_aload_n (pc := 121) hx hb dM_putParts_121 rfl (lv_at hl 2 rfl) ?_
        refine va_get (pc := 122) (D := (dC, dI)) (ci := 5) (v := .ref (ad 2)) (C := RM) (T := TM) (N := 24) hx hb hw0 inM hown hK hP 0 rfl rfl 2 (by decide) (hw0 _ q653) (fun _ h9 => h9) rfl dM_putParts_122 ?_
        refine lv_iload_n (pc := 125) hx hb dM_putParts_125 rfl (lv_at hl 1 rfl) ?_
        refine jv_iald (pc := 126) hx hb hK hP 2 0 rfl rfl (by decide) (by omega) dM_putParts_126 ?_
        refine jv_iast (pc := 127) (ws' := (pM cI cZ cG cR ad th tb fi se lf ct ln tx kl kp fl1 fo1 ol ot (uI (uI pl1 (n - 1) (se (pl1 (n - 1)))) (n - 1 + 1) (fi (pl1 (n - 1)))) ky nu yk yn lc fw sd lw od)) hx hb hK hP hD hS 11 0 rfl rfl (by decide) (by omega) dM_putParts_127 rfl (fun H locs hP hD hS => ?_)
        refine jv_iinc (pc := 128) (k := 0) (x := n - 1 + 1) (n := 1) (lv' := [(2, .int (iv (n - 1 + 1 + 1))), (3, .int (iv (pl1 (n - 1)))), (0, .ref (ad 0))]) hx hb dM_putParts_128 hl rfl (by decide) rfl (fun ls hl => ?_)
        refine lv_goto (pc := 131) (tgt := 139) hx hb dM_putParts_131 (by decide) ?_
        exact cut139 (n - 1 + 1 + 1) (uI (uI pl1 (n - 1) (se (pl1 (n - 1)))) (n - 1 + 1) (fi (pl1 (n - 1)))) fl1 fo1 _ _ _ (by first | exact pp_two hv hI (by omega) rfl (by omega) (by omega) (by omega) | exact pp_one hv hI (by omega) rfl (by omega) (by omega) (by omega)) (by first | exact mND_two hv (by omega) rfl (by omega) (by omega) (by omega) | exact mND_one hv (by omega) rfl (by omega) (by omega) (by omega)) (lv_sub hl [2, 0] rfl) hP hD hS
      have hsy : PT fi se (pl1 (n - 1)) = syl (pl1 (n - 1)) := PT_syl (by omega)
      rw [hsy] at hX
      have hsl := syl_len (pl1 (n - 1))
      refine lv_aload_n (pc := 29) hx hb dM_putParts_29 rfl (lv_at hl 2 rfl) ?_
      refine lv_bipush (pc := 30) (v := iv 40) hx hb dM_putParts_30 (by decide) ?_
      refine lv_iload_n (pc := 32) hx hb dM_putParts_32 rfl (lv_at hl 0 rfl) ?_
      refine lv_bipush (pc := 33) (v := iv 48) hx hb dM_putParts_33 (by decide) ?_
      refine jv_isub (pc := 35) (x := pl1 (n - 1)) (y := 48) hx hb dM_putParts_35 ?_
      refine lv_bipush (pc := 36) (v := iv 9) hx hb dM_putParts_36 (by decide) ?_
      refine jv_idiv (pc := 38) (x := (pl1 (n - 1)) - 48) (y := 9) hx hb dM_putParts_38 (by omega) (by omega) ?_
      refine jv_iadd (pc := 39) (x := 40) (y := ((pl1 (n - 1)) - 48) / 9) hx hb dM_putParts_39 ?_
      refine jv_rv (pc := 40) (wr := []) (wn := fun u : Int × (Int → Int) => (pM cI cZ cG cR ad th tb fi se lf ct ln tx kl kp u.1 u.2 ol ot pl1 ky nu yk yn lc fw sd lw od)) (va_runV (rest := []) ⟨hx, hb, hml, hown, hw0⟩ (c_M_put l dC dI cI cZ cG cR ad th tb fi se lf ct ln tx kl kp fl1 fo1 ol ot pl1 ky nu yk yn lc fw sd lw od _ (40 + (((pl1 (n - 1)) - 48) / 9)) (by omega)) (jcV hw0 kM_put q768 rfl rfl ⟨Nat.le_trans (Nat.le_of_ble_eq_true rfl) hRf, Nat.le_trans (Nat.le_of_ble_eq_true rfl) hRl⟩) (jv_preV (ci := 5) (q0 := 0) hK hP hD [0, 1, 2, 3, 4, 5, 6, 7, 8, 9, 10, 11, 12, 13, 14, 15, 16, 17, 18] rfl (by decide) rfl rfl) rfl rfl hl.1 rfl (lv_room (Nat.le_of_ble_eq_true rfl)) dM_putParts_40 ⟨Nat.zero_le _, Nat.zero_le _⟩) hP hD hS hA [0, 1, 2, 3, 4, 5, 6, 7, 8, 9, 10, 11, 12, 13, 14, 15, 16, 17, 18] [] [0, 1, 2, 3, 4, 5, 6, 7, 8, 9, 10, 11, 12, 13, 14, 15, 16, 17, 18] rfl rfl (by decide) (by decide) (by decide) (fun _ => rfl) (fun u H locs hw40 hP hD hS => ?_)
      obtain ⟨fl_40, fo_40⟩ := u
      dsimp only at hw40 hP hD
      obtain ⟨ea1, ea2⟩ := hw40
      refine lv_aload_n (pc := 43) hx hb dM_putParts_43 rfl (lv_at hl 2 rfl) ?_
      refine lv_bipush (pc := 44) (v := iv 43) hx hb dM_putParts_44 (by decide) ?_
      refine lv_iload_n (pc := 46) hx hb dM_putParts_46 rfl (lv_at hl 0 rfl) ?_
      refine lv_bipush (pc := 47) (v := iv 48) hx hb dM_putParts_47 (by decide) ?_
      refine jv_isub (pc := 49) (x := pl1 (n - 1)) (y := 48) hx hb dM_putParts_49 ?_
      refine lv_iconst (pc := 50) (v := iv 3) hx hb dM_putParts_50 rfl ?_
      refine jv_idiv (pc := 51) (x := (pl1 (n - 1)) - 48) (y := 3) hx hb dM_putParts_51 (by omega) (by omega) ?_
      refine lv_iconst (pc := 52) (v := iv 3) hx hb dM_putParts_52 rfl ?_
      refine jv_irem (pc := 53) (x := ((pl1 (n - 1)) - 48) / 3) (y := 3) hx hb dM_putParts_53 (by omega) (by omega) ?_
      refine jv_iadd (pc := 54) (x := 43) (y := (((pl1 (n - 1)) - 48) / 3) % 3) hx hb dM_putParts_54 ?_
      refine jv_rv (pc := 55) (wr := []) (wn := fun u : Int × (Int → Int) => (pM cI cZ cG cR ad th tb fi se lf ct ln tx kl kp u.1 u.2 ol ot pl1 ky nu yk yn lc fw sd lw od)) (va_runV (rest := []) ⟨hx, hb, hml, hown, hw0⟩ (c_M_put l dC dI cI cZ cG cR ad th tb fi se lf ct ln tx kl kp fl_40 fo_40 ol ot pl1 ky nu yk yn lc fw sd lw od _ (43 + ((((pl1 (n - 1)) - 48) / 3) % 3)) (by omega)) (jcV hw0 kM_put q768 rfl rfl ⟨Nat.le_trans (Nat.le_of_ble_eq_true rfl) hRf, Nat.le_trans (Nat.le_of_ble_eq_true rfl) hRl⟩) (jv_preV (ci := 5) (q0 := 0) hK hP hD [0, 1, 2, 3, 4, 5, 6, 7, 8, 9, 10, 11, 12, 13, 14, 15, 16, 17, 18] rfl (by decide) rfl rfl) rfl rfl hl.1 rfl (lv_room (Nat.le_of_ble_eq_true rfl)) dM_putParts_55 ⟨Nat.zero_le _, Nat.zero_le _⟩) hP hD hS hA [0, 1, 2, 3, 4, 5, 6, 7, 8, 9, 10, 11, 12, 13, 14, 15, 16, 17, 18] [] [0, 1, 2, 3, 4, 5, 6, 7, 8, 9, 10, 11, 12, 13, 14, 15, 16, 17, 18] rfl rfl (by decide) (by decide) (by decide) (fun _ => rfl) (fun u H locs hw55 hP hD hS => ?_)
      obtain ⟨fl_55, fo_55⟩ := u
      dsimp only at hw55 hP hD
      obtain ⟨eb1, eb2⟩ := hw55
      refine lv_iload_n (pc := 58) hx hb dM_putParts_58 rfl (lv_at hl 0 rfl) ?_
      refine lv_iconst (pc := 59) (v := iv 3) hx hb dM_putParts_59 rfl ?_
      refine jv_irem (pc := 60) (x := pl1 (n - 1)) (y := 3) hx hb dM_putParts_60 (by omega) (by omega) ?_
      refine jv_if_eq (pc := 61) (tgt := 139) hx hb dM_putParts_61 (by decide) (by omega) (fun h6 => ?_) (fun h6 => ?_)
      · skip
        exact cut139 (n - 1) pl1 fl_55 fo_55 _ _ _ (by refine pp_put hI (by omega) rfl hsy (by omega) ?_; rw [eb2, eb1, ea2, ea1, rsg_put (by omega), rsg_put (by omega)]; unfold syl; rw [if_pos (by omega)]; rfl) (by exact mND_pop (by omega)) (lv_sub hl [2, 1] rfl) hP hD hS
      refine lv_aload_n (pc := 64) hx hb dM_putParts_64 rfl (lv_at hl 2 rfl) ?_
      refine lv_bipush (pc := 65) (v := iv 45) hx hb dM_putParts_65 (by decide) ?_
      refine lv_iload_n (pc := 67) hx hb dM_putParts_67 rfl (lv_at hl 0 rfl) ?_
      refine lv_iconst (pc := 68) (v := iv 3) hx hb dM_putParts_68 rfl ?_
      refine jv_irem (pc := 69) (x := pl1 (n - 1)) (y := 3) hx hb dM_putParts_69 (by omega) (by omega) ?_
      refine jv_iadd (pc := 70) (x := 45) (y := (pl1 (n - 1)) % 3) hx hb dM_putParts_70 ?_
      refine jv_rv (pc := 71) (wr := []) (wn := fun u : Int × (Int → Int) => (pM cI cZ cG cR ad th tb fi se lf ct ln tx kl kp u.1 u.2 ol ot pl1 ky nu yk yn lc fw sd lw od)) (va_runV (rest := []) ⟨hx, hb, hml, hown, hw0⟩ (c_M_put l dC dI cI cZ cG cR ad th tb fi se lf ct ln tx kl kp fl_55 fo_55 ol ot pl1 ky nu yk yn lc fw sd lw od _ (45 + ((pl1 (n - 1)) % 3)) (by omega)) (jcV hw0 kM_put q768 rfl rfl ⟨Nat.le_trans (Nat.le_of_ble_eq_true rfl) hRf, Nat.le_trans (Nat.le_of_ble_eq_true rfl) hRl⟩) (jv_preV (ci := 5) (q0 := 0) hK hP hD [0, 1, 2, 3, 4, 5, 6, 7, 8, 9, 10, 11, 12, 13, 14, 15, 16, 17, 18] rfl (by decide) rfl rfl) rfl rfl hl.1 rfl (lv_room (Nat.le_of_ble_eq_true rfl)) dM_putParts_71 ⟨Nat.zero_le _, Nat.zero_le _⟩) hP hD hS hA [0, 1, 2, 3, 4, 5, 6, 7, 8, 9, 10, 11, 12, 13, 14, 15, 16, 17, 18] [] [0, 1, 2, 3, 4, 5, 6, 7, 8, 9, 10, 11, 12, 13, 14, 15, 16, 17, 18] rfl rfl (by decide) (by decide) (by decide) (fun _ => rfl) (fun u H locs hw71 hP hD hS => ?_)
      obtain ⟨fl_71, fo_71⟩ := u
      dsimp only at hw71 hP hD
      obtain ⟨ed1, ed2⟩ := hw71
      refine lv_goto (pc := 74) (tgt := 139) hx hb dM_putParts_74 (by decide) ?_
      exact cut139 (n - 1) pl1 fl_71 fo_71 _ _ _ (by refine pp_put hI (by omega) rfl hsy (by omega) ?_; rw [ed2, ed1, eb2, eb1, ea2, ea1, rsg_put (by omega), rsg_put (by omega), rsg_put (by omega)]; unfold syl; rw [if_neg (by omega)]; rfl) (by exact mND_pop (by omega)) (lv_sub hl [2, 1] rfl) hP hD hS
  exact cut9 ((mND fi se (rsg (uI pl 0 c) (1 : Int).toNat)) + 1) 1 (uI pl 0 c) fl fo _ _ _ (by refine ⟨by omega, by omega, ?_, ?_⟩; (intro y hy; obtain ⟨j, h1, h2, h3⟩ := rsg_mem hy; rw [← h3, show j = 0 by omega, uI_s]; exact hp); (show (fm fi se (uI pl 0 c 0 :: [])).reverse ++ _ = _; rw [uI_s, fm_c]; show (PT fi se c ++ []).reverse ++ _ = _; rw [List.append_nil])) (Nat.lt_succ_self _) (lv_sub hl [1, 0] rfl) hP hD hS
set_option maxRecDepth 100000 in
set_option maxHeartbeats 4000000 in
theorem c_M_rankForm (l : Launch) (dC : Nat → ClassId) (dI : Nat → Nat → Nat) (cI : ClassId) (cZ : ClassId) (cG : ClassId) (cR : ClassId) (ad : Nat → Nat) (th : Int) (tb : Int → Int) (fi : Int → Int) (se : Int → Int) (lf : Int → Int) (ct : Int → Int) (ln : Int) (tx : Int → Int) (kl : Int → Int) (kp : Int → Int) (fl : Int) (fo : Int → Int) (ol : Int) (ot : Int → Int) (pl : Int → Int) (ky : Int) (nu : Int → Int) (yk : Int) (yn : Int → Int) (lc : Int → Int) (fw : Int → Int) (sd : Int → Int) (lw : Int → Int) (od : Int → Int) (sz : Nat) (hT : TBK tb) (hf : 0 ≤ fl ∧ fl ≤ 170) (hfo : ∀ j, 0 ≤ j → j < fl → 0 ≤ fo j ∧ fo j < 75) : Met l yM_rankForm wsM_rankForm ({ frames := 2, cells := 0, slots := 0, locals := 43 }) (va_Pc [.ref (ad 0)] (jPre (dC, dI) (jT cI cZ cG cR) (pM cI cZ cG cR ad th tb fi se lf ct ln tx kl kp fl fo ol ot pl ky nu yk yn lc fw sd lw od) sz)) (va_Qv (fun u : (Int → Int) => sg u 0 fl.toNat = rnds (rkM tb) fl.toNat (sg fo 0 fl.toNat)) (fun u => jEnd (dC, dI) (jT cI cZ cG cR) (va_A (pM cI cZ cG cR ad th tb fi se lf ct ln tx kl kp fl fo ol ot pl ky nu yk yn lc fw sd lw od) sz) (pM cI cZ cG cR ad th tb fi se lf ct ln tx kl kp fl u ol ot pl ky nu yk yn lc fw sd lw od)) (va_A (pM cI cZ cG cR ad th tb fi se lf ct ln tx kl kp fl fo ol ot pl ky nu yk yn lc fw sd lw od) sz)) 0 0 (va_A (pM cI cZ cG cR ad th tb fi se lf ct ln tx kl kp fl fo ol ot pl ky nu yk yn lc fw sd lw od) sz) := by
  refine jv_mv (cc := cM_rankForm) (maxL := 5) (by decide) rfl (Nat.le_of_ble_eq_true rfl) ?_
  intro p0 e0 s0 m0 a0 b0 t0 c0 R0 Q0 A0 ls hx hb hts hown hml hRf hRl hA hK hret hl hP hD hS
  have hown : s0.vm.findClass "TextPipelineModel" = some m0.cls := hown
  have hw0 : ∀ w ∈ WS0, w.before a0 s0 = true := fun w h => hts w (List.mem_cons_of_mem _ h)
  have hl : lv_has ls 5 [(0, .ref (ad 0))] := hl
  have hRf : 2 ≤ R0.frames := hRf
  have hRl : 43 ≤ R0.locals := hRl
  refine lv_iconst (pc := 0) (v := iv 0) hx hb dM_rankForm_0 rfl ?_
  refine lv_istore_n (pc := 1) (lv' := [(1, .int (iv 0)), (0, .ref (ad 0))]) hx hb dM_rankForm_1 rfl hl (by decide) rfl (fun ls hl => ?_)
  have cut2 : ∀ (n0 : Nat) (rd : Int) (fo1 : Int → Int) (ls : Array Slot) (H : Heap) (locs : List Loc), (0 ≤ rd ∧ rd ≤ fl) → (∀ j, 0 ≤ j → j < fl → 0 ≤ fo1 j ∧ fo1 j < 75) → (rnds (rkM tb) (fl - rd : Int).toNat (sg fo1 0 fl.toNat) = rnds (rkM tb) fl.toNat (sg fo 0 fl.toNat)) → ((fl - rd : Int).toNat < n0) → lv_has ls 5 [(0, .ref (ad 0)), (1, .int (iv rd))] → va_P (dC, dI) vwCl (pM cI cZ cG cR ad th tb fi se lf ct ln tx kl kp fl fo1 ol ot pl ky nu yk yn lc fw sd lw od) H → va_D A0 (pM cI cZ cG cR ad th tb fi se lf ct ln tx kl kp fl fo1 ol ot pl ky nu yk yn lc fw sd lw od) → va_S A0 s0.heap H locs → W p0 l e0 R0 s0 m0 a0 b0 t0 c0 H locs 0 0 Q0 (F0 m0 2 ls []) := by
    intro n0
    induction n0 with
    | zero => intro rd fo1 ls H locs hr1 hg1 he1 hm hl hP hD hS; exact absurd hm (Nat.not_lt_zero _)
    | succ n0 ih2 =>
      intro rd fo1 ls H locs hr1 hg1 he1 hm2 hl hP hD hS
      refine lv_iload_n (pc := 2) hx hb dM_rankForm_2 rfl (lv_at hl 1 rfl) ?_
      refine lv_aload_n (pc := 3) hx hb dM_rankForm_3 rfl (lv_at hl 0 rfl) ?_
      refine va_get (pc := 4) (D := (dC, dI)) (ci := 5) (v := .int (iv fl)) (C := RM) (T := TM) (N := 24) hx hb hw0 inM hown hK hP 0 rfl rfl 10 (by decide) (hw0 _ q661) (fun _ h9 => h9) rfl dM_rankForm_4 ?_
      refine jv_icmp_ge (pc := 7) (tgt := 91) hx hb dM_rankForm_7 (by decide) (by omega) (by omega) (fun h1 => ?_) (fun h1 => ?_)
      · skip
        exact hret (fo1) dM_rankForm_91 (by rw [show (fl - rd : Int).toNat = 0 by omega] at he1; exact he1) hP hD hS
      refine lv_iconst (pc := 10) (v := iv 0) hx hb dM_rankForm_10 rfl ?_
      refine lv_istore_n (pc := 11) (lv' := [(2, .int (iv 0)), (0, .ref (ad 0)), (1, .int (iv rd))]) hx hb dM_rankForm_11 rfl hl (by decide) rfl (fun ls hl => ?_)
      have cut12 : ∀ (n0 : Nat) (i : Int) (fo2 : Int → Int) (ls : Array Slot) (H : Heap) (locs : List Loc), (0 ≤ i ∧ i + 1 ≤ fl) → (∀ j, 0 ≤ j → j < fl → 0 ≤ fo2 j ∧ fo2 j < 75) → (rdI (rkM tb) fl fo1 fo2 i) → ((fl - i : Int).toNat < n0) → lv_has ls 5 [(0, .ref (ad 0)), (1, .int (iv rd)), (2, .int (iv i))] → va_P (dC, dI) vwCl (pM cI cZ cG cR ad th tb fi se lf ct ln tx kl kp fl fo2 ol ot pl ky nu yk yn lc fw sd lw od) H → va_D A0 (pM cI cZ cG cR ad th tb fi se lf ct ln tx kl kp fl fo2 ol ot pl ky nu yk yn lc fw sd lw od) → va_S A0 s0.heap H locs → W p0 l e0 R0 s0 m0 a0 b0 t0 c0 H locs 0 0 Q0 (F0 m0 12 ls []) := by
        intro n0
        induction n0 with
        | zero => intro i fo2 ls H locs hi1 hg2 he2 hm hl hP hD hS; exact absurd hm (Nat.not_lt_zero _)
        | succ n0 ih12 =>
          intro i fo2 ls H locs hi1 hg2 he2 hm12 hl hP hD hS
          refine lv_iload_n (pc := 12) hx hb dM_rankForm_12 rfl (lv_at hl 2 rfl) ?_
          refine lv_iconst (pc := 13) (v := iv 1) hx hb dM_rankForm_13 rfl ?_
          refine jv_iadd (pc := 14) (x := i) (y := 1) hx hb dM_rankForm_14 ?_
          refine lv_aload_n (pc := 15) hx hb dM_rankForm_15 rfl (lv_at hl 0 rfl) ?_
          refine va_get (pc := 16) (D := (dC, dI)) (ci := 5) (v := .int (iv fl)) (C := RM) (T := TM) (N := 24) hx hb hw0 inM hown hK hP 0 rfl rfl 10 (by decide) (hw0 _ q661) (fun _ h9 => h9) rfl dM_rankForm_16 ?_
          refine jv_icmp_ge (pc := 19) (tgt := 85) hx hb dM_rankForm_19 (by decide) (by omega) (by omega) (fun h2 => ?_) (fun h2 => ?_)
          · skip
            refine jv_iinc (pc := 85) (k := 1) (x := rd) (n := 1) (lv' := [(1, .int (iv (rd + 1))), (0, .ref (ad 0)), (2, .int (iv i))]) hx hb dM_rankForm_85 hl rfl (by decide) rfl (fun ls hl => ?_)
            refine lv_goto (pc := 88) (tgt := 2) hx hb dM_rankForm_88 (by decide) ?_
            exact ih2 (rd + 1) fo2 _ _ _ (by omega) (by exact hg2) (by rw [rd_end he2 (by omega) (by omega), ← he1, show (fl - rd : Int).toNat = (fl - (rd + 1) : Int).toNat + 1 by omega]; rfl) (by omega) (lv_sub hl [1, 0] rfl) hP hD hS
          have hx1 := hg2 i (by omega) (by omega)
          have hx2 := hg2 (i + 1) (by omega) (by omega)
          refine lv_aload_n (pc := 22) hx hb dM_rankForm_22 rfl (lv_at hl 0 rfl) ?_
          refine va_get (pc := 23) (D := (dC, dI)) (ci := 5) (v := .ref (ad 11)) (C := RM) (T := TM) (N := 24) hx hb hw0 inM hown hK hP 0 rfl rfl 11 (by decide) (hw0 _ q662) (fun _ h9 => h9) rfl dM_rankForm_23 ?_
          refine lv_iload_n (pc := 26) hx hb dM_rankForm_26 rfl (lv_at hl 2 rfl) ?_
          refine jv_iald (pc := 27) hx hb hK hP 9 0 rfl rfl (by decide) (by omega) dM_rankForm_27 ?_
          refine lv_istore_n (pc := 28) (lv' := [(3, .int (iv (fo2 i))), (0, .ref (ad 0)), (1, .int (iv rd)), (2, .int (iv i))]) hx hb dM_rankForm_28 rfl hl (by decide) rfl (fun ls hl => ?_)
          refine lv_aload_n (pc := 29) hx hb dM_rankForm_29 rfl (lv_at hl 1 rfl) ?_
          refine va_get (pc := 30) (D := (dC, dI)) (ci := 5) (v := .ref (ad 11)) (C := RM) (T := TM) (N := 24) hx hb hw0 inM hown hK hP 0 rfl rfl 11 (by decide) (hw0 _ q662) (fun _ h9 => h9) rfl dM_rankForm_30 ?_
          refine lv_iload_n (pc := 33) hx hb dM_rankForm_33 rfl (lv_at hl 3 rfl) ?_
          refine lv_iconst (pc := 34) (v := iv 1) hx hb dM_rankForm_34 rfl ?_
          refine jv_iadd (pc := 35) (x := i) (y := 1) hx hb dM_rankForm_35 ?_
          refine jv_iald (pc := 36) hx hb hK hP 9 0 rfl rfl (by decide) (by omega) dM_rankForm_36 ?_
          refine lv_istore (pc := 37) (lv' := [(4, .int (iv (fo2 (i + 1)))), (3, .int (iv (fo2 i))), (0, .ref (ad 0)), (1, .int (iv rd)), (2, .int (iv i))]) hx hb dM_rankForm_37 hl (by decide) rfl (fun ls hl => ?_)
          have cut79 : ∀ (fo3 : Int → Int) (ls : Array Slot) (H : Heap) (locs : List Loc), (∀ j, 0 ≤ j → j < fl → 0 ≤ fo3 j ∧ fo3 j < 75) → (rdI (rkM tb) fl fo1 fo3 (i + 1)) → lv_has ls 5 [(0, .ref (ad 0)), (1, .int (iv rd)), (2, .int (iv i))] → va_P (dC, dI) vwCl (pM cI cZ cG cR ad th tb fi se lf ct ln tx kl kp fl fo3 ol ot pl ky nu yk yn lc fw sd lw od) H → va_D A0 (pM cI cZ cG cR ad th tb fi se lf ct ln tx kl kp fl fo3 ol ot pl ky nu yk yn lc fw sd lw od) → va_S A0 s0.heap H locs → W p0 l e0 R0 s0 m0 a0 b0 t0 c0 H locs 0 0 Q0 (F0 m0 79 ls []) := by
            intro fo3 ls H locs hg3 he3 hl hP hD hS
            refine jv_iinc (pc := 79) (k := 2) (x := i) (n := 1) (lv' := [(2, .int (iv (i + 1))), (0, .ref (ad 0)), (1, .int (iv rd))]) hx hb dM_rankForm_79 hl rfl (by decide) rfl (fun ls hl => ?_)
            refine lv_goto (pc := 82) (tgt := 12) hx hb dM_rankForm_82 (by decide) ?_
            exact ih12 (i + 1) fo3 _ _ _ (by omega) (by exact hg3) (by exact he3) (by omega) (lv_sub hl [1, 2, 0] rfl) hP hD hS
          refine lv_aload_n (pc := 39) hx hb dM_rankForm_39 rfl (lv_at hl 2 rfl) ?_
          refine lv_iload_n (pc := 40) hx hb dM_rankForm_40 rfl (lv_at hl 1 rfl) ?_
          refine jv_ri (pc := 41) (wr := []) (wn := fun u : Int => (pM cI cZ cG cR ad th tb fi se lf ct ln tx kl kp fl fo2 ol ot pl ky nu yk yn lc fw sd lw od)) (va_runV (rest := []) ⟨hx, hb, hml, hown, hw0⟩ (c_M_rank l dC dI cI cZ cG cR ad th tb fi se lf ct ln tx kl kp fl fo2 ol ot pl ky nu yk yn lc fw sd lw od _ (fo2 i) (by omega) (by omega)) (jcV hw0 kM_rank q776 rfl rfl ⟨Nat.le_trans (Nat.le_of_ble_eq_true rfl) hRf, Nat.le_trans (Nat.le_of_ble_eq_true rfl) hRl⟩) (jv_preV (ci := 5) (q0 := 0) hK hP hD [0, 1, 2, 3, 4, 5, 6, 7, 8, 9, 10, 11, 12, 13, 14, 15, 16, 17, 18] rfl (by decide) rfl rfl) rfl rfl hl.1 rfl (lv_room (Nat.le_of_ble_eq_true rfl)) dM_rankForm_41 ⟨Nat.zero_le _, Nat.zero_le _⟩) hP hD hS hA [0, 1, 2, 3, 4, 5, 6, 7, 8, 9, 10, 11, 12, 13, 14, 15, 16, 17, 18] [] [0, 1, 2, 3, 4, 5, 6, 7, 8, 9, 10, 11, 12, 13, 14, 15, 16, 17, 18] rfl rfl (by decide) (by decide) (by decide) (fun _ => rfl) (fun r0 u H locs hw41 hP hD hS => ?_)
          obtain ⟨r_41, hu⟩ : ∃ z, z = u := ⟨_, rfl⟩; subst hu
          obtain ⟨rfl, hw41⟩ := hw41
          refine lv_aload_n (pc := 44) hx hb dM_rankForm_44 rfl (lv_at hl 2 rfl) ?_
          refine lv_iload (pc := 45) hx hb dM_rankForm_45 (lv_at hl 0 rfl) ?_
          refine jv_ri (pc := 47) (wr := []) (wn := fun u : Int => (pM cI cZ cG cR ad th tb fi se lf ct ln tx kl kp fl fo2 ol ot pl ky nu yk yn lc fw sd lw od)) (va_runV (rest := [.int (iv r_41)]) ⟨hx, hb, hml, hown, hw0⟩ (c_M_rank l dC dI cI cZ cG cR ad th tb fi se lf ct ln tx kl kp fl fo2 ol ot pl ky nu yk yn lc fw sd lw od _ (fo2 (i + 1)) (by omega) (by omega)) (jcV hw0 kM_rank q776 rfl rfl ⟨Nat.le_trans (Nat.le_of_ble_eq_true rfl) hRf, Nat.le_trans (Nat.le_of_ble_eq_true rfl) hRl⟩) (jv_preV (ci := 5) (q0 := 0) hK hP hD [0, 1, 2, 3, 4, 5, 6, 7, 8, 9, 10, 11, 12, 13, 14, 15, 16, 17, 18] rfl (by decide) rfl rfl) rfl rfl hl.1 rfl (lv_room (Nat.le_of_ble_eq_true rfl)) dM_rankForm_47 ⟨Nat.zero_le _, Nat.zero_le _⟩) hP hD hS hA [0, 1, 2, 3, 4, 5, 6, 7, 8, 9, 10, 11, 12, 13, 14, 15, 16, 17, 18] [] [0, 1, 2, 3, 4, 5, 6, 7, 8, 9, 10, 11, 12, 13, 14, 15, 16, 17, 18] rfl rfl (by decide) (by decide) (by decide) (fun _ => rfl) (fun r0 u H locs hw47 hP hD hS => ?_)
          obtain ⟨r_47, hu⟩ : ∃ z, z = u := ⟨_, rfl⟩; subst hu
          obtain ⟨rfl, hw47⟩ := hw47
          refine jv_icmp_le (pc := 50) (tgt := 79) hx hb dM_rankForm_50 (by decide) (by omega) (by omega) (fun h3 => ?_) (fun h3 => ?_)
          · skip
            exact cut79 fo2 _ _ _ (by exact hg2) (by exact rd_no he2 (by omega) (by omega) (by omega)) (lv_sub hl [2, 3, 4] rfl) hP hD hS
          refine lv_aload_n (pc := 53) hx hb dM_rankForm_53 rfl (lv_at hl 2 rfl) ?_
          refine lv_iload (pc := 54) hx hb dM_rankForm_54 (lv_at hl 0 rfl) ?_
          refine jv_ri (pc := 56) (wr := []) (wn := fun u : Int => (pM cI cZ cG cR ad th tb fi se lf ct ln tx kl kp fl fo2 ol ot pl ky nu yk yn lc fw sd lw od)) (va_runV (rest := []) ⟨hx, hb, hml, hown, hw0⟩ (c_M_rank l dC dI cI cZ cG cR ad th tb fi se lf ct ln tx kl kp fl fo2 ol ot pl ky nu yk yn lc fw sd lw od _ (fo2 (i + 1)) (by omega) (by omega)) (jcV hw0 kM_rank q776 rfl rfl ⟨Nat.le_trans (Nat.le_of_ble_eq_true rfl) hRf, Nat.le_trans (Nat.le_of_ble_eq_true rfl) hRl⟩) (jv_preV (ci := 5) (q0 := 0) hK hP hD [0, 1, 2, 3, 4, 5, 6, 7, 8, 9, 10, 11, 12, 13, 14, 15, 16, 17, 18] rfl (by decide) rfl rfl) rfl rfl hl.1 rfl (lv_room (Nat.le_of_ble_eq_true rfl)) dM_rankForm_56 ⟨Nat.zero_le _, Nat.zero_le _⟩) hP hD hS hA [0, 1, 2, 3, 4, 5, 6, 7, 8, 9, 10, 11, 12, 13, 14, 15, 16, 17, 18] [] [0, 1, 2, 3, 4, 5, 6, 7, 8, 9, 10, 11, 12, 13, 14, 15, 16, 17, 18] rfl rfl (by decide) (by decide) (by decide) (fun _ => rfl) (fun r0 u H locs hw56 hP hD hS => ?_)
          obtain ⟨r_56, hu⟩ : ∃ z, z = u := ⟨_, rfl⟩; subst hu
          obtain ⟨rfl, hw56⟩ := hw56
          refine jv_if_le (pc := 59) (tgt := 79) hx hb dM_rankForm_59 (by decide) (by omega) (fun h4 => ?_) (fun h4 => ?_)
          · skip
            exact cut79 fo2 _ _ _ (by exact hg2) (by exact rd_no he2 (by omega) (by omega) (by omega)) (lv_sub hl [2, 3, 4] rfl) hP hD hS
          refine lv_aload_n (pc := 62) hx hb dM_rankForm_62 rfl (lv_at hl 2 rfl) ?_
          refine va_get (pc := 63) (D := (dC, dI)) (ci := 5) (v := .ref (ad 11)) (C := RM) (T := TM) (N := 24) hx hb hw0 inM hown hK hP 0 rfl rfl 11 (by decide) (hw0 _ q662) (fun _ h9 => h9) rfl dM_rankForm_63 ?_
          refine lv_iload_n (pc := 66) hx hb dM_rankForm_66 rfl (lv_at hl 4 rfl) ?_
          refine lv_iload (pc := 67) hx hb dM_rankForm_67 (lv_at hl 0 rfl) ?_
          refine jv_iast (pc := 69) (ws' := (pM cI cZ cG cR ad th tb fi se lf ct ln tx kl kp fl (uI fo2 i (fo2 (i + 1))) ol ot pl ky nu yk yn lc fw sd lw od)) hx hb hK hP hD hS 9 0 rfl rfl (by decide) (by omega) dM_rankForm_69 rfl (fun H locs hP hD hS => ?_)
          refine lv_aload_n (pc := 70) hx hb dM_rankForm_70 rfl (lv_at hl 2 rfl) ?_
          refine va_get (pc := 71) (D := (dC, dI)) (ci := 5) (v := .ref (ad 11)) (C := RM) (T := TM) (N := 24) hx hb hw0 inM hown hK hP 0 rfl rfl 11 (by decide) (hw0 _ q662) (fun _ h9 => h9) rfl dM_rankForm_71 ?_
          refine lv_iload_n (pc := 74) hx hb dM_rankForm_74 rfl (lv_at hl 4 rfl) ?_
          refine lv_iconst (pc := 75) (v := iv 1) hx hb dM_rankForm_75 rfl ?_
          refine jv_iadd (pc := 76) (x := i) (y := 1) hx hb dM_rankForm_76 ?_
          refine lv_iload_n (pc := 77) hx hb dM_rankForm_77 rfl (lv_at hl 1 rfl) ?_
          refine jv_iast (pc := 78) (ws' := (pM cI cZ cG cR ad th tb fi se lf ct ln tx kl kp fl (uI (uI fo2 i (fo2 (i + 1))) (i + 1) (fo2 i)) ol ot pl ky nu yk yn lc fw sd lw od)) hx hb hK hP hD hS 9 0 rfl rfl (by decide) (by omega) dM_rankForm_78 rfl (fun H locs hP hD hS => ?_)
          exact cut79 (uI (uI fo2 i (fo2 (i + 1))) (i + 1) (fo2 i)) _ _ _ (by intro j a b; by_cases e1 : j = i + 1; (rw [uI_e e1]; exact hx1); (rw [uI_n e1]; by_cases e2 : j = i; (rw [uI_e e2]; exact hx2); (rw [uI_n e2]; exact hg2 j a b))) (by exact rd_sw he2 (by omega) (by omega) (by omega)) (lv_sub hl [2, 3, 4] rfl) hP hD hS
      exact cut12 (((fl - 0 : Int).toNat) + 1) 0 fo1 _ _ _ (by omega) (by exact hg1) (by exact rd_0 (by omega)) (Nat.lt_succ_self _) (lv_sub hl [1, 2, 0] rfl) hP hD hS
  exact cut2 (((fl - 0 : Int).toNat) + 1) 0 fo _ _ _ (by omega) (by exact hfo) (by rw [show (fl - 0 : Int) = fl by omega]) (Nat.lt_succ_self _) (lv_sub hl [1, 0] rfl) hP hD hS
set_option maxRecDepth 100000 in
set_option maxHeartbeats 4000000 in
theorem c_M_partText (l : Launch) (dC : Nat → ClassId) (dI : Nat → Nat → Nat) (cI : ClassId) (cZ : ClassId) (cG : ClassId) (cR : ClassId) (ad : Nat → Nat) (th : Int) (tb : Int → Int) (fi : Int → Int) (se : Int → Int) (lf : Int → Int) (ct : Int → Int) (ln : Int) (tx : Int → Int) (kl : Int → Int) (kp : Int → Int) (fl : Int) (fo : Int → Int) (ol : Int) (ot : Int → Int) (pl : Int → Int) (ky : Int) (nu : Int → Int) (yk : Int) (yn : Int → Int) (lc : Int → Int) (fw : Int → Int) (sd : Int → Int) (lw : Int → Int) (od : Int → Int) (sz : Nat) (hT : TBK tb) (hv : vpt fi se) (hs : SHT fi se) (hl9 : 0 ≤ ln ∧ ln ≤ 40) (htx : ∀ j, 0 ≤ j → j < ln → 0 ≤ tx j ∧ tx j < 75) : Met l yM_partText wsM_partText ({ frames := 3, cells := 0, slots := 0, locals := 67 }) (va_Pc [.ref (ad 0)] (jPre (dC, dI) (jT cI cZ cG cR) (pM cI cZ cG cR ad th tb fi se lf ct ln tx kl kp fl fo ol ot pl ky nu yk yn lc fw sd lw od) sz)) (va_Qv (fun u : Int × (Int → Int) × (Int → Int) => 0 ≤ u.1 ∧ u.1 ≤ 160 ∧ rsg u.2.1 u.1.toNat = FM (rkM tb) fi se tx ln) (fun u => jEnd (dC, dI) (jT cI cZ cG cR) (va_A (pM cI cZ cG cR ad th tb fi se lf ct ln tx kl kp fl fo ol ot pl ky nu yk yn lc fw sd lw od) sz) (pM cI cZ cG cR ad th tb fi se lf ct ln tx kl kp u.1 u.2.1 ol ot u.2.2 ky nu yk yn lc fw sd lw od)) (va_A (pM cI cZ cG cR ad th tb fi se lf ct ln tx kl kp fl fo ol ot pl ky nu yk yn lc fw sd lw od) sz)) 0 0 (va_A (pM cI cZ cG cR ad th tb fi se lf ct ln tx kl kp fl fo ol ot pl ky nu yk yn lc fw sd lw od) sz) := by
  refine jv_mv (cc := cM_partText) (maxL := 2) (by decide) rfl (Nat.le_of_ble_eq_true rfl) ?_
  intro p0 e0 s0 m0 a0 b0 t0 c0 R0 Q0 A0 ls hx hb hts hown hml hRf hRl hA hK hret hl hP hD hS
  have hown : s0.vm.findClass "TextPipelineModel" = some m0.cls := hown
  have hw0 : ∀ w ∈ WS0, w.before a0 s0 = true := fun w h => hts w (List.mem_cons_of_mem _ h)
  have hl : lv_has ls 2 [(0, .ref (ad 0))] := hl
  have hRf : 3 ≤ R0.frames := hRf
  have hRl : 67 ≤ R0.locals := hRl
  refine lv_aload_n (pc := 0) hx hb dM_partText_0 rfl (lv_at hl 0 rfl) ?_
  refine lv_iconst (pc := 1) (v := iv 0) hx hb dM_partText_1 rfl ?_
  refine jv_put (pc := 2) (D := (dC, dI)) (ci := 5) (v := .int (iv 0)) (ty := .int) (C := RM) (T := TM) (N := 24) (ws' := (pM cI cZ cG cR ad th tb fi se lf ct ln tx kl kp 0 fo ol ot pl ky nu yk yn lc fw sd lw od)) hx hb hw0 inM tyM tyM_ok nmM hown hK hP hD hS 0 rfl rfl 10 (by decide) (hw0 _ q661) (fun _ h9 => h9) rfl (by decide +kernel) rfl rfl (Nat.le_of_ble_eq_true rfl) dM_partText_2 rfl (fun H locs hP hD hS => ?_)
  refine lv_iconst (pc := 5) (v := iv 0) hx hb dM_partText_5 rfl ?_
  refine lv_istore_n (pc := 6) (lv' := [(1, .int (iv 0)), (0, .ref (ad 0))]) hx hb dM_partText_6 rfl hl (by decide) rfl (fun ls hl => ?_)
  have cut7 : ∀ (n0 : Nat) (i : Int) (fl1 : Int) (fo1 : Int → Int) (pl1 : Int → Int) (ls : Array Slot) (H : Heap) (locs : List Loc), (0 ≤ i ∧ i ≤ ln) → (0 ≤ fl1 ∧ fl1 ≤ 4 * i) → (rsg fo1 fl1.toNat = (ap fi se tx i.toNat).reverse) → ((ln - i : Int).toNat < n0) → lv_has ls 2 [(0, .ref (ad 0)), (1, .int (iv i))] → va_P (dC, dI) vwCl (pM cI cZ cG cR ad th tb fi se lf ct ln tx kl kp fl1 fo1 ol ot pl1 ky nu yk yn lc fw sd lw od) H → va_D A0 (pM cI cZ cG cR ad th tb fi se lf ct ln tx kl kp fl1 fo1 ol ot pl1 ky nu yk yn lc fw sd lw od) → va_S A0 s0.heap H locs → W p0 l e0 R0 s0 m0 a0 b0 t0 c0 H locs 0 0 Q0 (F0 m0 7 ls []) := by
    intro n0
    induction n0 with
    | zero => intro i fl1 fo1 pl1 ls H locs hi hf1 he hm hl hP hD hS; exact absurd hm (Nat.not_lt_zero _)
    | succ n0 ih7 =>
      intro i fl1 fo1 pl1 ls H locs hi hf1 he hm7 hl hP hD hS
      refine lv_iload_n (pc := 7) hx hb dM_partText_7 rfl (lv_at hl 1 rfl) ?_
      refine lv_aload_n (pc := 8) hx hb dM_partText_8 rfl (lv_at hl 0 rfl) ?_
      refine va_get (pc := 9) (D := (dC, dI)) (ci := 5) (v := .int (iv ln)) (C := RM) (T := TM) (N := 24) hx hb hw0 inM hown hK hP 0 rfl rfl 6 (by decide) (hw0 _ q657) (fun _ h9 => h9) rfl dM_partText_9 ?_
      refine jv_icmp_ge (pc := 12) (tgt := 31) hx hb dM_partText_12 (by decide) (by omega) (by omega) (fun h1 => ?_) (fun h1 => ?_)
      · skip
        have hsg : sg fo1 0 fl1.toNat = ap fi se tx ln.toNat := by rw [sg_rsg, he, List.reverse_reverse, show i = ln by omega]
        refine lv_aload_n (pc := 31) hx hb dM_partText_31 rfl (lv_at hl 0 rfl) ?_
        refine jv_rv (pc := 32) (wr := []) (wn := fun u : (Int → Int) => (pM cI cZ cG cR ad th tb fi se lf ct ln tx kl kp fl1 u ol ot pl1 ky nu yk yn lc fw sd lw od)) (va_runV (rest := []) ⟨hx, hb, hml, hown, hw0⟩ (c_M_rankForm l dC dI cI cZ cG cR ad th tb fi se lf ct ln tx kl kp fl1 fo1 ol ot pl1 ky nu yk yn lc fw sd lw od _  (by omega) (by omega) (by intro j a b; have hm : fo1 j ∈ ap fi se tx ln.toNat := (by have h9 := rsg_in (g := fo1) (n := fl1.toNat) (j := j) a (by omega); rw [rsg_sg, hsg, List.mem_reverse] at h9; exact h9); have := ap_mem hv ln.toNat (fun j a b => htx j a (by omega)) _ hm; omega)) (jcV hw0 kM_rankForm q772 rfl rfl ⟨Nat.le_trans (Nat.le_of_ble_eq_true rfl) hRf, Nat.le_trans (Nat.le_of_ble_eq_true rfl) hRl⟩) (jv_preV (ci := 5) (q0 := 0) hK hP hD [0, 1, 2, 3, 4, 5, 6, 7, 8, 9, 10, 11, 12, 13, 14, 15, 16, 17, 18] rfl (by decide) rfl rfl) rfl rfl hl.1 rfl (lv_room (Nat.le_of_ble_eq_true rfl)) dM_partText_32 ⟨Nat.zero_le _, Nat.zero_le _⟩) hP hD hS hA [0, 1, 2, 3, 4, 5, 6, 7, 8, 9, 10, 11, 12, 13, 14, 15, 16, 17, 18] [] [0, 1, 2, 3, 4, 5, 6, 7, 8, 9, 10, 11, 12, 13, 14, 15, 16, 17, 18] rfl rfl (by decide) (by decide) (by decide) (fun _ => rfl) (fun u H locs hw32 hP hD hS => ?_)
        obtain ⟨fo_32, hu⟩ : ∃ z, z = u := ⟨_, rfl⟩; subst hu
        exact hret (fl1, fo_32, pl1) dM_partText_35 (by refine ⟨by omega, by omega, ?_⟩; have h9 := hw32; rw [hsg] at h9; have hl1 : (ap fi se tx ln.toNat).length = fl1.toNat := (by rw [← hsg, sg_len]); rw [← hl1, rnds_srt, hl1] at h9; rw [rsg_sg, h9, List.reverse_reverse]; rfl) hP hD hS
      have hti := htx i (by omega) (by omega)
      have hp4 := PT_le4 hv hs hti.1 hti.2
      refine lv_aload_n (pc := 15) hx hb dM_partText_15 rfl (lv_at hl 0 rfl) ?_
      refine lv_aload_n (pc := 16) hx hb dM_partText_16 rfl (lv_at hl 0 rfl) ?_
      refine va_get (pc := 17) (D := (dC, dI)) (ci := 5) (v := .ref (ad 7)) (C := RM) (T := TM) (N := 24) hx hb hw0 inM hown hK hP 0 rfl rfl 7 (by decide) (hw0 _ q658) (fun _ h9 => h9) rfl dM_partText_17 ?_
      refine lv_iload_n (pc := 20) hx hb dM_partText_20 rfl (lv_at hl 1 rfl) ?_
      refine jv_iald (pc := 21) hx hb hK hP 6 0 rfl rfl (by decide) (by omega) dM_partText_21 ?_
      refine jv_rv (pc := 22) (wr := []) (wn := fun u : Int × (Int → Int) × (Int → Int) => (pM cI cZ cG cR ad th tb fi se lf ct ln tx kl kp u.1 u.2.1 ol ot u.2.2 ky nu yk yn lc fw sd lw od)) (va_runV (rest := []) ⟨hx, hb, hml, hown, hw0⟩ (c_M_putParts l dC dI cI cZ cG cR ad th tb fi se lf ct ln tx kl kp fl1 fo1 ol ot pl1 ky nu yk yn lc fw sd lw od _ (tx i) (by omega) (by omega) (by omega) (by omega)) (jcV hw0 kM_putParts q764 rfl rfl ⟨Nat.le_trans (Nat.le_of_ble_eq_true rfl) hRf, Nat.le_trans (Nat.le_of_ble_eq_true rfl) hRl⟩) (jv_preV (ci := 5) (q0 := 0) hK hP hD [0, 1, 2, 3, 4, 5, 6, 7, 8, 9, 10, 11, 12, 13, 14, 15, 16, 17, 18] rfl (by decide) rfl rfl) rfl rfl hl.1 rfl (lv_room (Nat.le_of_ble_eq_true rfl)) dM_partText_22 ⟨Nat.zero_le _, Nat.zero_le _⟩) hP hD hS hA [0, 1, 2, 3, 4, 5, 6, 7, 8, 9, 10, 11, 12, 13, 14, 15, 16, 17, 18] [] [0, 1, 2, 3, 4, 5, 6, 7, 8, 9, 10, 11, 12, 13, 14, 15, 16, 17, 18] rfl rfl (by decide) (by decide) (by decide) (fun _ => rfl) (fun u H locs hw22 hP hD hS => ?_)
      obtain ⟨fl_22, fo_22, pl_22⟩ := u
      dsimp only at hw22 hP hD
      refine jv_iinc (pc := 25) (k := 1) (x := i) (n := 1) (lv' := [(1, .int (iv (i + 1))), (0, .ref (ad 0))]) hx hb dM_partText_25 hl rfl (by decide) rfl (fun ls hl => ?_)
      refine lv_goto (pc := 28) (tgt := 7) hx hb dM_partText_28 (by decide) ?_
      exact ih7 (i + 1) fl_22 fo_22 pl_22 _ _ _ (by omega) (by omega) (by rw [hw22.2.2, he, show (i + 1).toNat = i.toNat + 1 by omega, ← List.reverse_append]; show _ = (ap fi se tx i.toNat ++ PT fi se (tx (i.toNat : Int))).reverse; rw [show ((i.toNat : Int)) = i by omega]) (by omega) (lv_sub hl [1, 0] rfl) hP hD hS
  exact cut7 (((ln - 0 : Int).toNat) + 1) 0 0 fo pl _ _ _ (by omega) (by omega) (by rfl) (Nat.lt_succ_self _) (lv_sub hl [1, 0] rfl) hP hD hS
set_option maxRecDepth 100000 in
set_option maxHeartbeats 4000000 in
theorem c_M_partKept (l : Launch) (dC : Nat → ClassId) (dI : Nat → Nat → Nat) (cI : ClassId) (cZ : ClassId) (cG : ClassId) (cR : ClassId) (ad : Nat → Nat) (th : Int) (tb : Int → Int) (fi : Int → Int) (se : Int → Int) (lf : Int → Int) (ct : Int → Int) (ln : Int) (tx : Int → Int) (kl : Int → Int) (kp : Int → Int) (fl : Int) (fo : Int → Int) (ol : Int) (ot : Int → Int) (pl : Int → Int) (ky : Int) (nu : Int → Int) (yk : Int) (yn : Int → Int) (lc : Int → Int) (fw : Int → Int) (sd : Int → Int) (lw : Int → Int) (od : Int → Int) (sz : Nat) (k : Int) (hT : TBK tb) (hv : vpt fi se) (hs : SHT fi se) (hk : 0 ≤ k ∧ k < 4) (hl9 : 0 ≤ kl k ∧ kl k ≤ 40) (hkp : ∀ j, 0 ≤ j → j < kl k → 0 ≤ kp (40 * k + j) ∧ kp (40 * k + j) < 75) : Met l yM_partKept wsM_partKept ({ frames := 3, cells := 0, slots := 0, locals := 67 }) (va_Pc [.ref (ad 0), .int (iv k)] (jPre (dC, dI) (jT cI cZ cG cR) (pM cI cZ cG cR ad th tb fi se lf ct ln tx kl kp fl fo ol ot pl ky nu yk yn lc fw sd lw od) sz)) (va_Qv (fun u : Int × (Int → Int) × (Int → Int) => 0 ≤ u.1 ∧ u.1 ≤ 160 ∧ rsg u.2.1 u.1.toNat = FM (rkM tb) fi se (fun j => kp (40 * k + j)) (kl k)) (fun u => jEnd (dC, dI) (jT cI cZ cG cR) (va_A (pM cI cZ cG cR ad th tb fi se lf ct ln tx kl kp fl fo ol ot pl ky nu yk yn lc fw sd lw od) sz) (pM cI cZ cG cR ad th tb fi se lf ct ln tx kl kp u.1 u.2.1 ol ot u.2.2 ky nu yk yn lc fw sd lw od)) (va_A (pM cI cZ cG cR ad th tb fi se lf ct ln tx kl kp fl fo ol ot pl ky nu yk yn lc fw sd lw od) sz)) 0 0 (va_A (pM cI cZ cG cR ad th tb fi se lf ct ln tx kl kp fl fo ol ot pl ky nu yk yn lc fw sd lw od) sz) := by
  refine jv_mv (cc := cM_partKept) (maxL := 3) (by decide) rfl (Nat.le_of_ble_eq_true rfl) ?_
  intro p0 e0 s0 m0 a0 b0 t0 c0 R0 Q0 A0 ls hx hb hts hown hml hRf hRl hA hK hret hl hP hD hS
  have hown : s0.vm.findClass "TextPipelineModel" = some m0.cls := hown
  have hw0 : ∀ w ∈ WS0, w.before a0 s0 = true := fun w h => hts w (List.mem_cons_of_mem _ h)
  have hl : lv_has ls 3 [(0, .ref (ad 0)), (1, .int (iv k))] := hl
  have hRf : 3 ≤ R0.frames := hRf
  have hRl : 67 ≤ R0.locals := hRl
  refine lv_aload_n (pc := 0) hx hb dM_partKept_0 rfl (lv_at hl 0 rfl) ?_
  refine lv_iconst (pc := 1) (v := iv 0) hx hb dM_partKept_1 rfl ?_
  refine jv_put (pc := 2) (D := (dC, dI)) (ci := 5) (v := .int (iv 0)) (ty := .int) (C := RM) (T := TM) (N := 24) (ws' := (pM cI cZ cG cR ad th tb fi se lf ct ln tx kl kp 0 fo ol ot pl ky nu yk yn lc fw sd lw od)) hx hb hw0 inM tyM tyM_ok nmM hown hK hP hD hS 0 rfl rfl 10 (by decide) (hw0 _ q661) (fun _ h9 => h9) rfl (by decide +kernel) rfl rfl (Nat.le_of_ble_eq_true rfl) dM_partKept_2 rfl (fun H locs hP hD hS => ?_)
  refine lv_iconst (pc := 5) (v := iv 0) hx hb dM_partKept_5 rfl ?_
  refine lv_istore_n (pc := 6) (lv' := [(2, .int (iv 0)), (0, .ref (ad 0)), (1, .int (iv k))]) hx hb dM_partKept_6 rfl hl (by decide) rfl (fun ls hl => ?_)
  have cut7 : ∀ (n0 : Nat) (i : Int) (fl1 : Int) (fo1 : Int → Int) (pl1 : Int → Int) (ls : Array Slot) (H : Heap) (locs : List Loc), (0 ≤ i ∧ i ≤ kl k) → (0 ≤ fl1 ∧ fl1 ≤ 4 * i) → (rsg fo1 fl1.toNat = (ap fi se (fun j => kp (40 * k + j)) i.toNat).reverse) → ((kl k - i : Int).toNat < n0) → lv_has ls 3 [(0, .ref (ad 0)), (1, .int (iv k)), (2, .int (iv i))] → va_P (dC, dI) vwCl (pM cI cZ cG cR ad th tb fi se lf ct ln tx kl kp fl1 fo1 ol ot pl1 ky nu yk yn lc fw sd lw od) H → va_D A0 (pM cI cZ cG cR ad th tb fi se lf ct ln tx kl kp fl1 fo1 ol ot pl1 ky nu yk yn lc fw sd lw od) → va_S A0 s0.heap H locs → W p0 l e0 R0 s0 m0 a0 b0 t0 c0 H locs 0 0 Q0 (F0 m0 7 ls []) := by
    intro n0
    induction n0 with
    | zero => intro i fl1 fo1 pl1 ls H locs hi hf1 he hm hl hP hD hS; exact absurd hm (Nat.not_lt_zero _)
    | succ n0 ih7 =>
      intro i fl1 fo1 pl1 ls H locs hi hf1 he hm7 hl hP hD hS
      refine lv_iload_n (pc := 7) hx hb dM_partKept_7 rfl (lv_at hl 2 rfl) ?_
      refine lv_aload_n (pc := 8) hx hb dM_partKept_8 rfl (lv_at hl 0 rfl) ?_
      refine va_get (pc := 9) (D := (dC, dI)) (ci := 5) (v := .ref (ad 8)) (C := RM) (T := TM) (N := 24) hx hb hw0 inM hown hK hP 0 rfl rfl 8 (by decide) (hw0 _ q659) (fun _ h9 => h9) rfl dM_partKept_9 ?_
      refine lv_iload_n (pc := 12) hx hb dM_partKept_12 rfl (lv_at hl 1 rfl) ?_
      refine jv_iald (pc := 13) hx hb hK hP 7 0 rfl rfl (by decide) (by omega) dM_partKept_13 ?_
      refine jv_icmp_ge (pc := 14) (tgt := 38) hx hb dM_partKept_14 (by decide) (by omega) (by omega) (fun h1 => ?_) (fun h1 => ?_)
      · skip
        have hsg : sg fo1 0 fl1.toNat = ap fi se (fun j => kp (40 * k + j)) (kl k).toNat := by rw [sg_rsg, he, List.reverse_reverse, show i = kl k by omega]
        refine lv_aload_n (pc := 38) hx hb dM_partKept_38 rfl (lv_at hl 0 rfl) ?_
        refine jv_rv (pc := 39) (wr := []) (wn := fun u : (Int → Int) => (pM cI cZ cG cR ad th tb fi se lf ct ln tx kl kp fl1 u ol ot pl1 ky nu yk yn lc fw sd lw od)) (va_runV (rest := []) ⟨hx, hb, hml, hown, hw0⟩ (c_M_rankForm l dC dI cI cZ cG cR ad th tb fi se lf ct ln tx kl kp fl1 fo1 ol ot pl1 ky nu yk yn lc fw sd lw od _  (by omega) (by omega) (by intro j a b; have hm : fo1 j ∈ ap fi se (fun j => kp (40 * k + j)) (kl k).toNat := (by have h9 := rsg_in (g := fo1) (n := fl1.toNat) (j := j) a (by omega); rw [rsg_sg, hsg, List.mem_reverse] at h9; exact h9); have := ap_mem hv (kl k).toNat (fun j a b => hkp j a (by omega)) _ hm; omega)) (jcV hw0 kM_rankForm q772 rfl rfl ⟨Nat.le_trans (Nat.le_of_ble_eq_true rfl) hRf, Nat.le_trans (Nat.le_of_ble_eq_true rfl) hRl⟩) (jv_preV (ci := 5) (q0 := 0) hK hP hD [0, 1, 2, 3, 4, 5, 6, 7, 8, 9, 10, 11, 12, 13, 14, 15, 16, 17, 18] rfl (by decide) rfl rfl) rfl rfl hl.1 rfl (lv_room (Nat.le_of_ble_eq_true rfl)) dM_partKept_39 ⟨Nat.zero_le _, Nat.zero_le _⟩) hP hD hS hA [0, 1, 2, 3, 4, 5, 6, 7, 8, 9, 10, 11, 12, 13, 14, 15, 16, 17, 18] [] [0, 1, 2, 3, 4, 5, 6, 7, 8, 9, 10, 11, 12, 13, 14, 15, 16, 17, 18] rfl rfl (by decide) (by decide) (by decide) (fun _ => rfl) (fun u H locs hw39 hP hD hS => ?_)
        obtain ⟨fo_39, hu⟩ : ∃ z, z = u := ⟨_, rfl⟩; subst hu
        exact hret (fl1, fo_39, pl1) dM_partKept_42 (by refine ⟨by omega, by omega, ?_⟩; have h9 := hw39; rw [hsg] at h9; have hl1 : (ap fi se (fun j => kp (40 * k + j)) (kl k).toNat).length = fl1.toNat := (by rw [← hsg, sg_len]); rw [← hl1, rnds_srt, hl1] at h9; rw [rsg_sg, h9, List.reverse_reverse]; rfl) hP hD hS
      have hti := hkp i (by omega) (by omega)
      have hp4 := PT_le4 hv hs hti.1 hti.2
      refine lv_aload_n (pc := 17) hx hb dM_partKept_17 rfl (lv_at hl 0 rfl) ?_
      refine lv_aload_n (pc := 18) hx hb dM_partKept_18 rfl (lv_at hl 0 rfl) ?_
      refine va_get (pc := 19) (D := (dC, dI)) (ci := 5) (v := .ref (ad 9)) (C := RM) (T := TM) (N := 24) hx hb hw0 inM hown hK hP 0 rfl rfl 9 (by decide) (hw0 _ q660) (fun _ h9 => h9) rfl dM_partKept_19 ?_
      refine lv_bipush (pc := 22) (v := iv 40) hx hb dM_partKept_22 (by decide) ?_
      refine lv_iload_n (pc := 24) hx hb dM_partKept_24 rfl (lv_at hl 1 rfl) ?_
      refine jv_imul (pc := 25) (x := 40) (y := k) hx hb dM_partKept_25 ?_
      refine lv_iload_n (pc := 26) hx hb dM_partKept_26 rfl (lv_at hl 2 rfl) ?_
      refine jv_iadd (pc := 27) (x := 40 * k) (y := i) hx hb dM_partKept_27 ?_
      refine jv_iald (pc := 28) hx hb hK hP 8 0 rfl rfl (by decide) (by omega) dM_partKept_28 ?_
      refine jv_rv (pc := 29) (wr := []) (wn := fun u : Int × (Int → Int) × (Int → Int) => (pM cI cZ cG cR ad th tb fi se lf ct ln tx kl kp u.1 u.2.1 ol ot u.2.2 ky nu yk yn lc fw sd lw od)) (va_runV (rest := []) ⟨hx, hb, hml, hown, hw0⟩ (c_M_putParts l dC dI cI cZ cG cR ad th tb fi se lf ct ln tx kl kp fl1 fo1 ol ot pl1 ky nu yk yn lc fw sd lw od _ (kp ((40 * k) + i)) (by omega) (by omega) (by omega) (by omega)) (jcV hw0 kM_putParts q764 rfl rfl ⟨Nat.le_trans (Nat.le_of_ble_eq_true rfl) hRf, Nat.le_trans (Nat.le_of_ble_eq_true rfl) hRl⟩) (jv_preV (ci := 5) (q0 := 0) hK hP hD [0, 1, 2, 3, 4, 5, 6, 7, 8, 9, 10, 11, 12, 13, 14, 15, 16, 17, 18] rfl (by decide) rfl rfl) rfl rfl hl.1 rfl (lv_room (Nat.le_of_ble_eq_true rfl)) dM_partKept_29 ⟨Nat.zero_le _, Nat.zero_le _⟩) hP hD hS hA [0, 1, 2, 3, 4, 5, 6, 7, 8, 9, 10, 11, 12, 13, 14, 15, 16, 17, 18] [] [0, 1, 2, 3, 4, 5, 6, 7, 8, 9, 10, 11, 12, 13, 14, 15, 16, 17, 18] rfl rfl (by decide) (by decide) (by decide) (fun _ => rfl) (fun u H locs hw29 hP hD hS => ?_)
      obtain ⟨fl_29, fo_29, pl_29⟩ := u
      dsimp only at hw29 hP hD
      refine jv_iinc (pc := 32) (k := 2) (x := i) (n := 1) (lv' := [(2, .int (iv (i + 1))), (0, .ref (ad 0)), (1, .int (iv k))]) hx hb dM_partKept_32 hl rfl (by decide) rfl (fun ls hl => ?_)
      refine lv_goto (pc := 35) (tgt := 7) hx hb dM_partKept_35 (by decide) ?_
      exact ih7 (i + 1) fl_29 fo_29 pl_29 _ _ _ (by omega) (by omega) (by rw [hw29.2.2, he, show (i + 1).toNat = i.toNat + 1 by omega, ← List.reverse_append]; show _ = (ap fi se (fun j => kp (40 * k + j)) i.toNat ++ PT fi se (kp (40 * k + (i.toNat : Int)))).reverse; rw [show ((i.toNat : Int)) = i by omega]) (by omega) (lv_sub hl [1, 2, 0] rfl) hP hD hS
  exact cut7 (((kl k - 0 : Int).toNat) + 1) 0 0 fo pl _ _ _ (by omega) (by omega) (by rfl) (Nat.lt_succ_self _) (lv_sub hl [1, 2, 0] rfl) hP hD hS
end

section
-- ===== PART A: goes FIRST, ahead of the names: the tables' words, and 'selects' of the private methods out of them =====
/-- a private method of a class that the tables say can be made, by its rows of tables_1 -/
def lw_okq (q : MethodName × Nat) : Prop := (q.1.cls ≠ "java/lang/invoke/MethodHandle" ∧ q.1.cls ≠ "java/lang/invoke/VarHandle") ∧ Cond.instantiable q.1.cls q.2 ∈ tables_1 ∧ Cond.privateMethod q.1 ∈ tables_1 ∧ Cond.instanceMethod q.1 ∈ tables_1
theorem lw_p0 : lw_okq (⟨"GalleyConvoy", "allAreHome", "()Z"⟩, 14) := ⟨⟨by decide +kernel, by decide +kernel⟩, List.mem_of_getElem? (i := 22) (by decide +kernel), List.mem_of_getElem? (i := 173) (by decide +kernel), List.mem_of_getElem? (i := 174) (by decide +kernel)⟩
theorem lw_p1 : lw_okq (⟨"java/util/ArrayList", "add", "(Ljava/lang/Object;[Ljava/lang/Object;I)V"⟩, 3) := ⟨⟨by decide +kernel, by decide +kernel⟩, List.mem_of_getElem? (i := 30) (by decide +kernel), List.mem_of_getElem? (i := 285) (by decide +kernel), List.mem_of_getElem? (i := 286) (by decide +kernel)⟩
theorem lw_p2 : lw_okq (⟨"java/util/ArrayList", "grow", "()[Ljava/lang/Object;"⟩, 3) := ⟨⟨by decide +kernel, by decide +kernel⟩, List.mem_of_getElem? (i := 30) (by decide +kernel), List.mem_of_getElem? (i := 289) (by decide +kernel), List.mem_of_getElem? (i := 290) (by decide +kernel)⟩
theorem lw_p3 : lw_okq (⟨"java/util/ArrayList", "grow", "(I)[Ljava/lang/Object;"⟩, 3) := ⟨⟨by decide +kernel, by decide +kernel⟩, List.mem_of_getElem? (i := 30) (by decide +kernel), List.mem_of_getElem? (i := 293) (by decide +kernel), List.mem_of_getElem? (i := 294) (by decide +kernel)⟩
theorem lw_p4 : lw_okq (⟨"GalleyConvoy", "galleyOf", "(I)LGalleyConvoy$Galley;"⟩, 14) := ⟨⟨by decide +kernel, by decide +kernel⟩, List.mem_of_getElem? (i := 22) (by decide +kernel), List.mem_of_getElem? (i := 341) (by decide +kernel), List.mem_of_getElem? (i := 342) (by decide +kernel)⟩
theorem lw_p5 : lw_okq (⟨"GalleyConvoy", "isRoute", "(I)Z"⟩, 14) := ⟨⟨by decide +kernel, by decide +kernel⟩, List.mem_of_getElem? (i := 22) (by decide +kernel), List.mem_of_getElem? (i := 366) (by decide +kernel), List.mem_of_getElem? (i := 367) (by decide +kernel)⟩
theorem lw_p6 : lw_okq (⟨"GalleyConvoy", "baleOf", "(I)LGalleyConvoy$Bale;"⟩, 14) := ⟨⟨by decide +kernel, by decide +kernel⟩, List.mem_of_getElem? (i := 22) (by decide +kernel), List.mem_of_getElem? (i := 444) (by decide +kernel), List.mem_of_getElem? (i := 445) (by decide +kernel)⟩
theorem lw_p7 : lw_okq (⟨"GalleyConvoy$Reader", "nextToken", "()V"⟩, 7) := ⟨⟨by decide +kernel, by decide +kernel⟩, List.mem_of_getElem? (i := 57) (by decide +kernel), List.mem_of_getElem? (i := 471) (by decide +kernel), List.mem_of_getElem? (i := 472) (by decide +kernel)⟩
theorem lw_p8 : lw_okq (⟨"GalleyConvoy$Reader", "takeNumber", "()V"⟩, 7) := ⟨⟨by decide +kernel, by decide +kernel⟩, List.mem_of_getElem? (i := 57) (by decide +kernel), List.mem_of_getElem? (i := 484) (by decide +kernel), List.mem_of_getElem? (i := 485) (by decide +kernel)⟩
theorem lw_p9 : lw_okq (⟨"GalleyConvoy$Reader", "takeWord", "()V"⟩, 7) := ⟨⟨by decide +kernel, by decide +kernel⟩, List.mem_of_getElem? (i := 57) (by decide +kernel), List.mem_of_getElem? (i := 491) (by decide +kernel), List.mem_of_getElem? (i := 492) (by decide +kernel)⟩
theorem lw_p10 : lw_okq (⟨"GalleyConvoy$Reader", "isWord", "(I)Z"⟩, 7) := ⟨⟨by decide +kernel, by decide +kernel⟩, List.mem_of_getElem? (i := 57) (by decide +kernel), List.mem_of_getElem? (i := 495) (by decide +kernel), List.mem_of_getElem? (i := 496) (by decide +kernel)⟩
theorem lw_p11 : lw_okq (⟨"GalleyConvoy$Reader", "readEither", "(I)Z"⟩, 7) := ⟨⟨by decide +kernel, by decide +kernel⟩, List.mem_of_getElem? (i := 57) (by decide +kernel), List.mem_of_getElem? (i := 538) (by decide +kernel), List.mem_of_getElem? (i := 539) (by decide +kernel)⟩
theorem lw_p12 : lw_okq (⟨"GalleyConvoy$Reader", "readBoth", "(I)Z"⟩, 7) := ⟨⟨by decide +kernel, by decide +kernel⟩, List.mem_of_getElem? (i := 57) (by decide +kernel), List.mem_of_getElem? (i := 542) (by decide +kernel), List.mem_of_getElem? (i := 543) (by decide +kernel)⟩
theorem lw_p13 : lw_okq (⟨"GalleyConvoy$Reader", "readDenied", "(I)Z"⟩, 7) := ⟨⟨by decide +kernel, by decide +kernel⟩, List.mem_of_getElem? (i := 57) (by decide +kernel), List.mem_of_getElem? (i := 546) (by decide +kernel), List.mem_of_getElem? (i := 547) (by decide +kernel)⟩
theorem lw_p14 : lw_okq (⟨"GalleyConvoy$Reader", "readCompared", "(I)Z"⟩, 7) := ⟨⟨by decide +kernel, by decide +kernel⟩, List.mem_of_getElem? (i := 57) (by decide +kernel), List.mem_of_getElem? (i := 550) (by decide +kernel), List.mem_of_getElem? (i := 551) (by decide +kernel)⟩
theorem lw_p15 : lw_okq (⟨"GalleyConvoy$Reader", "readSum", "(I)Z"⟩, 7) := ⟨⟨by decide +kernel, by decide +kernel⟩, List.mem_of_getElem? (i := 57) (by decide +kernel), List.mem_of_getElem? (i := 554) (by decide +kernel), List.mem_of_getElem? (i := 555) (by decide +kernel)⟩
def lw_privs_1 : List (MethodName × Nat) := [(⟨"GalleyConvoy", "allAreHome", "()Z"⟩, 14), (⟨"java/util/ArrayList", "add", "(Ljava/lang/Object;[Ljava/lang/Object;I)V"⟩, 3), (⟨"java/util/ArrayList", "grow", "()[Ljava/lang/Object;"⟩, 3), (⟨"java/util/ArrayList", "grow", "(I)[Ljava/lang/Object;"⟩, 3), (⟨"GalleyConvoy", "galleyOf", "(I)LGalleyConvoy$Galley;"⟩, 14), (⟨"GalleyConvoy", "isRoute", "(I)Z"⟩, 14), (⟨"GalleyConvoy", "baleOf", "(I)LGalleyConvoy$Bale;"⟩, 14), (⟨"GalleyConvoy$Reader", "nextToken", "()V"⟩, 7), (⟨"GalleyConvoy$Reader", "takeNumber", "()V"⟩, 7), (⟨"GalleyConvoy$Reader", "takeWord", "()V"⟩, 7), (⟨"GalleyConvoy$Reader", "isWord", "(I)Z"⟩, 7), (⟨"GalleyConvoy$Reader", "readEither", "(I)Z"⟩, 7), (⟨"GalleyConvoy$Reader", "readBoth", "(I)Z"⟩, 7), (⟨"GalleyConvoy$Reader", "readDenied", "(I)Z"⟩, 7), (⟨"GalleyConvoy$Reader", "readCompared", "(I)Z"⟩, 7), (⟨"GalleyConvoy$Reader", "readSum", "(I)Z"⟩, 7)]
theorem lw_r1 : ∀ q ∈ lw_privs_1, lw_okq q := List.forall_mem_cons.mpr ⟨lw_p0, List.forall_mem_cons.mpr ⟨lw_p1, List.forall_mem_cons.mpr ⟨lw_p2, List.forall_mem_cons.mpr ⟨lw_p3, List.forall_mem_cons.mpr ⟨lw_p4, List.forall_mem_cons.mpr ⟨lw_p5, List.forall_mem_cons.mpr ⟨lw_p6, List.forall_mem_cons.mpr ⟨lw_p7, List.forall_mem_cons.mpr ⟨lw_p8, List.forall_mem_cons.mpr ⟨lw_p9, List.forall_mem_cons.mpr ⟨lw_p10, List.forall_mem_cons.mpr ⟨lw_p11, List.forall_mem_cons.mpr ⟨lw_p12, List.forall_mem_cons.mpr ⟨lw_p13, List.forall_mem_cons.mpr ⟨lw_p14, List.forall_mem_cons.mpr ⟨lw_p15, fun _ h => absurd h List.not_mem_nil⟩⟩⟩⟩⟩⟩⟩⟩⟩⟩⟩⟩⟩⟩⟩⟩
theorem lw_p16 : lw_okq (⟨"GalleyConvoy$Reader", "readProduct", "(I)Z"⟩, 7) := ⟨⟨by decide +kernel, by decide +kernel⟩, List.mem_of_getElem? (i := 57) (by decide +kernel), List.mem_of_getElem? (i := 558) (by decide +kernel), List.mem_of_getElem? (i := 559) (by decide +kernel)⟩
theorem lw_p17 : lw_okq (⟨"GalleyConvoy$Reader", "readOperand", "(I)Z"⟩, 7) := ⟨⟨by decide +kernel, by decide +kernel⟩, List.mem_of_getElem? (i := 57) (by decide +kernel), List.mem_of_getElem? (i := 562) (by decide +kernel), List.mem_of_getElem? (i := 563) (by decide +kernel)⟩
theorem lw_p18 : lw_okq (⟨"GalleyConvoy$Reader", "putStep", "(I)V"⟩, 7) := ⟨⟨by decide +kernel, by decide +kernel⟩, List.mem_of_getElem? (i := 57) (by decide +kernel), List.mem_of_getElem? (i := 566) (by decide +kernel), List.mem_of_getElem? (i := 567) (by decide +kernel)⟩
theorem lw_p19 : lw_okq (⟨"GalleyConvoy$Reader", "readBracket", "(I)Z"⟩, 7) := ⟨⟨by decide +kernel, by decide +kernel⟩, List.mem_of_getElem? (i := 57) (by decide +kernel), List.mem_of_getElem? (i := 570) (by decide +kernel), List.mem_of_getElem? (i := 571) (by decide +kernel)⟩
theorem lw_p20 : lw_okq (⟨"GalleyConvoy$Reader", "readNegated", "(I)Z"⟩, 7) := ⟨⟨by decide +kernel, by decide +kernel⟩, List.mem_of_getElem? (i := 57) (by decide +kernel), List.mem_of_getElem? (i := 574) (by decide +kernel), List.mem_of_getElem? (i := 575) (by decide +kernel)⟩
theorem lw_p21 : lw_okq (⟨"GalleyConvoy", "inForce", "(II)I"⟩, 14) := ⟨⟨by decide +kernel, by decide +kernel⟩, List.mem_of_getElem? (i := 22) (by decide +kernel), List.mem_of_getElem? (i := 616) (by decide +kernel), List.mem_of_getElem? (i := 617) (by decide +kernel)⟩
theorem lw_p22 : lw_okq (⟨"GalleyConvoy", "lookAt", "(LGalleyConvoy$Galley;)V"⟩, 14) := ⟨⟨by decide +kernel, by decide +kernel⟩, List.mem_of_getElem? (i := 22) (by decide +kernel), List.mem_of_getElem? (i := 624) (by decide +kernel), List.mem_of_getElem? (i := 625) (by decide +kernel)⟩
theorem lw_p23 : lw_okq (⟨"GalleyConvoy", "workedOut", "(II)I"⟩, 14) := ⟨⟨by decide +kernel, by decide +kernel⟩, List.mem_of_getElem? (i := 22) (by decide +kernel), List.mem_of_getElem? (i := 643) (by decide +kernel), List.mem_of_getElem? (i := 644) (by decide +kernel)⟩
theorem lw_p24 : lw_okq (⟨"GalleyConvoy", "goByOneDay", "()V"⟩, 14) := ⟨⟨by decide +kernel, by decide +kernel⟩, List.mem_of_getElem? (i := 22) (by decide +kernel), List.mem_of_getElem? (i := 671) (by decide +kernel), List.mem_of_getElem? (i := 672) (by decide +kernel)⟩
theorem lw_p25 : lw_okq (⟨"GalleyConvoy", "sailOn", "(LGalleyConvoy$Galley;)V"⟩, 14) := ⟨⟨by decide +kernel, by decide +kernel⟩, List.mem_of_getElem? (i := 22) (by decide +kernel), List.mem_of_getElem? (i := 675) (by decide +kernel), List.mem_of_getElem? (i := 676) (by decide +kernel)⟩
theorem lw_p26 : lw_okq (⟨"GalleyConvoy", "giveOut", "(LGalleyConvoy$Bale;LGalleyConvoy$Galley;)V"⟩, 14) := ⟨⟨by decide +kernel, by decide +kernel⟩, List.mem_of_getElem? (i := 22) (by decide +kernel), List.mem_of_getElem? (i := 684) (by decide +kernel), List.mem_of_getElem? (i := 685) (by decide +kernel)⟩
theorem lw_p27 : lw_okq (⟨"GalleyConvoy$Galley", "change", "(LGalleyConvoy$Bale;I)V"⟩, 18) := ⟨⟨by decide +kernel, by decide +kernel⟩, List.mem_of_getElem? (i := 203) (by decide +kernel), List.mem_of_getElem? (i := 692) (by decide +kernel), List.mem_of_getElem? (i := 693) (by decide +kernel)⟩
theorem lw_p28 : lw_okq (⟨"GalleyConvoy", "hasStayed", "(LGalleyConvoy$Galley;)Z"⟩, 14) := ⟨⟨by decide +kernel, by decide +kernel⟩, List.mem_of_getElem? (i := 22) (by decide +kernel), List.mem_of_getElem? (i := 700) (by decide +kernel), List.mem_of_getElem? (i := 701) (by decide +kernel)⟩
theorem lw_p29 : lw_okq (⟨"GalleyConvoy", "waitsForAnother", "(LGalleyConvoy$Galley;)Z"⟩, 14) := ⟨⟨by decide +kernel, by decide +kernel⟩, List.mem_of_getElem? (i := 22) (by decide +kernel), List.mem_of_getElem? (i := 705) (by decide +kernel), List.mem_of_getElem? (i := 706) (by decide +kernel)⟩
theorem lw_p30 : lw_okq (⟨"GalleyConvoy", "leave", "(LGalleyConvoy$Galley;)V"⟩, 14) := ⟨⟨by decide +kernel, by decide +kernel⟩, List.mem_of_getElem? (i := 22) (by decide +kernel), List.mem_of_getElem? (i := 709) (by decide +kernel), List.mem_of_getElem? (i := 710) (by decide +kernel)⟩
theorem lw_p31 : lw_okq (⟨"GalleyConvoy", "rankForLading", "(LGalleyConvoy$Galley;)V"⟩, 14) := ⟨⟨by decide +kernel, by decide +kernel⟩, List.mem_of_getElem? (i := 22) (by decide +kernel), List.mem_of_getElem? (i := 713) (by decide +kernel), List.mem_of_getElem? (i := 714) (by decide +kernel)⟩
def lw_privs_2 : List (MethodName × Nat) := [(⟨"GalleyConvoy$Reader", "readProduct", "(I)Z"⟩, 7), (⟨"GalleyConvoy$Reader", "readOperand", "(I)Z"⟩, 7), (⟨"GalleyConvoy$Reader", "putStep", "(I)V"⟩, 7), (⟨"GalleyConvoy$Reader", "readBracket", "(I)Z"⟩, 7), (⟨"GalleyConvoy$Reader", "readNegated", "(I)Z"⟩, 7), (⟨"GalleyConvoy", "inForce", "(II)I"⟩, 14), (⟨"GalleyConvoy", "lookAt", "(LGalleyConvoy$Galley;)V"⟩, 14), (⟨"GalleyConvoy", "workedOut", "(II)I"⟩, 14), (⟨"GalleyConvoy", "goByOneDay", "()V"⟩, 14), (⟨"GalleyConvoy", "sailOn", "(LGalleyConvoy$Galley;)V"⟩, 14), (⟨"GalleyConvoy", "giveOut", "(LGalleyConvoy$Bale;LGalleyConvoy$Galley;)V"⟩, 14), (⟨"GalleyConvoy$Galley", "change", "(LGalleyConvoy$Bale;I)V"⟩, 18), (⟨"GalleyConvoy", "hasStayed", "(LGalleyConvoy$Galley;)Z"⟩, 14), (⟨"GalleyConvoy", "waitsForAnother", "(LGalleyConvoy$Galley;)Z"⟩, 14), (⟨"GalleyConvoy", "leave", "(LGalleyConvoy$Galley;)V"⟩, 14), (⟨"GalleyConvoy", "rankForLading", "(LGalleyConvoy$Galley;)V"⟩, 14)]
theorem lw_r2 : ∀ q ∈ lw_privs_2, lw_okq q := List.forall_mem_cons.mpr ⟨lw_p16, List.forall_mem_cons.mpr ⟨lw_p17, List.forall_mem_cons.mpr ⟨lw_p18, List.forall_mem_cons.mpr ⟨lw_p19, List.forall_mem_cons.mpr ⟨lw_p20, List.forall_mem_cons.mpr ⟨lw_p21, List.forall_mem_cons.mpr ⟨lw_p22, List.forall_mem_cons.mpr ⟨lw_p23, List.forall_mem_cons.mpr ⟨lw_p24, List.forall_mem_cons.mpr ⟨lw_p25, List.forall_mem_cons.mpr ⟨lw_p26, List.forall_mem_cons.mpr ⟨lw_p27, List.forall_mem_cons.mpr ⟨lw_p28, List.forall_mem_cons.mpr ⟨lw_p29, List.forall_mem_cons.mpr ⟨lw_p30, List.forall_mem_cons.mpr ⟨lw_p31, fun _ h => absurd h List.not_mem_nil⟩⟩⟩⟩⟩⟩⟩⟩⟩⟩⟩⟩⟩⟩⟩⟩
theorem lw_p32 : lw_okq (⟨"GalleyConvoy", "rank", "(LGalleyConvoy$Bale;I)V"⟩, 14) := ⟨⟨by decide +kernel, by decide +kernel⟩, List.mem_of_getElem? (i := 22) (by decide +kernel), List.mem_of_getElem? (i := 721) (by decide +kernel), List.mem_of_getElem? (i := 722) (by decide +kernel)⟩
theorem lw_p33 : lw_okq (⟨"java/util/ArrayList", "rangeCheckForAdd", "(I)V"⟩, 3) := ⟨⟨by decide +kernel, by decide +kernel⟩, List.mem_of_getElem? (i := 30) (by decide +kernel), List.mem_of_getElem? (i := 729) (by decide +kernel), List.mem_of_getElem? (i := 730) (by decide +kernel)⟩
theorem lw_p34 : lw_okq (⟨"GalleyConvoy", "rankAboard", "(LGalleyConvoy$Galley;)I"⟩, 14) := ⟨⟨by decide +kernel, by decide +kernel⟩, List.mem_of_getElem? (i := 22) (by decide +kernel), List.mem_of_getElem? (i := 750) (by decide +kernel), List.mem_of_getElem? (i := 751) (by decide +kernel)⟩
theorem lw_p35 : lw_okq (⟨"GalleyConvoy", "throwOut", "(LGalleyConvoy$Galley;I)I"⟩, 14) := ⟨⟨by decide +kernel, by decide +kernel⟩, List.mem_of_getElem? (i := 22) (by decide +kernel), List.mem_of_getElem? (i := 754) (by decide +kernel), List.mem_of_getElem? (i := 755) (by decide +kernel)⟩
theorem lw_p36 : lw_okq (⟨"GalleyConvoy", "shareLoss", "(II)V"⟩, 14) := ⟨⟨by decide +kernel, by decide +kernel⟩, List.mem_of_getElem? (i := 22) (by decide +kernel), List.mem_of_getElem? (i := 758) (by decide +kernel), List.mem_of_getElem? (i := 759) (by decide +kernel)⟩
theorem lw_p37 : lw_okq (⟨"GalleyConvoy", "balesInState", "(I)I"⟩, 14) := ⟨⟨by decide +kernel, by decide +kernel⟩, List.mem_of_getElem? (i := 22) (by decide +kernel), List.mem_of_getElem? (i := 774) (by decide +kernel), List.mem_of_getElem? (i := 775) (by decide +kernel)⟩
theorem lw_p38 : lw_okq (⟨"GalleyConvoyModel", "isGalley", "(I)Z"⟩, 55) := ⟨⟨by decide +kernel, by decide +kernel⟩, List.mem_of_getElem? (i := 782) (by decide +kernel), List.mem_of_getElem? (i := 982) (by decide +kernel), List.mem_of_getElem? (i := 983) (by decide +kernel)⟩
theorem lw_p39 : lw_okq (⟨"GalleyConvoyModel", "isPort", "(I)Z"⟩, 55) := ⟨⟨by decide +kernel, by decide +kernel⟩, List.mem_of_getElem? (i := 782) (by decide +kernel), List.mem_of_getElem? (i := 1003) (by decide +kernel), List.mem_of_getElem? (i := 1004) (by decide +kernel)⟩
theorem lw_p40 : lw_okq (⟨"GalleyConvoyModel", "isBale", "(I)Z"⟩, 55) := ⟨⟨by decide +kernel, by decide +kernel⟩, List.mem_of_getElem? (i := 782) (by decide +kernel), List.mem_of_getElem? (i := 1011) (by decide +kernel), List.mem_of_getElem? (i := 1012) (by decide +kernel)⟩
theorem lw_p41 : lw_okq (⟨"GalleyConvoyModel", "read", "()I"⟩, 55) := ⟨⟨by decide +kernel, by decide +kernel⟩, List.mem_of_getElem? (i := 782) (by decide +kernel), List.mem_of_getElem? (i := 1023) (by decide +kernel), List.mem_of_getElem? (i := 1024) (by decide +kernel)⟩
theorem lw_p42 : lw_okq (⟨"GalleyConvoyModel", "advance", "()V"⟩, 55) := ⟨⟨by decide +kernel, by decide +kernel⟩, List.mem_of_getElem? (i := 782) (by decide +kernel), List.mem_of_getElem? (i := 1027) (by decide +kernel), List.mem_of_getElem? (i := 1028) (by decide +kernel)⟩
theorem lw_p43 : lw_okq (⟨"GalleyConvoyModel", "opened", "()I"⟩, 55) := ⟨⟨by decide +kernel, by decide +kernel⟩, List.mem_of_getElem? (i := 782) (by decide +kernel), List.mem_of_getElem? (i := 1061) (by decide +kernel), List.mem_of_getElem? (i := 1062) (by decide +kernel)⟩
theorem lw_p44 : lw_okq (⟨"GalleyConvoyModel", "lay", "(II)V"⟩, 55) := ⟨⟨by decide +kernel, by decide +kernel⟩, List.mem_of_getElem? (i := 782) (by decide +kernel), List.mem_of_getElem? (i := 1065) (by decide +kernel), List.mem_of_getElem? (i := 1066) (by decide +kernel)⟩
theorem lw_p45 : lw_okq (⟨"GalleyConvoyModel", "done", "(I)V"⟩, 55) := ⟨⟨by decide +kernel, by decide +kernel⟩, List.mem_of_getElem? (i := 782) (by decide +kernel), List.mem_of_getElem? (i := 1069) (by decide +kernel), List.mem_of_getElem? (i := 1070) (by decide +kernel)⟩
theorem lw_p46 : lw_okq (⟨"GalleyConvoyModel", "isWaiting", "(I)Z"⟩, 55) := ⟨⟨by decide +kernel, by decide +kernel⟩, List.mem_of_getElem? (i := 782) (by decide +kernel), List.mem_of_getElem? (i := 1076) (by decide +kernel), List.mem_of_getElem? (i := 1077) (by decide +kernel)⟩
theorem lw_p47 : lw_okq (⟨"GalleyConvoyModel", "knownAt", "(II)I"⟩, 55) := ⟨⟨by decide +kernel, by decide +kernel⟩, List.mem_of_getElem? (i := 782) (by decide +kernel), List.mem_of_getElem? (i := 1084) (by decide +kernel), List.mem_of_getElem? (i := 1085) (by decide +kernel)⟩
def lw_privs_3 : List (MethodName × Nat) := [(⟨"GalleyConvoy", "rank", "(LGalleyConvoy$Bale;I)V"⟩, 14), (⟨"java/util/ArrayList", "rangeCheckForAdd", "(I)V"⟩, 3), (⟨"GalleyConvoy", "rankAboard", "(LGalleyConvoy$Galley;)I"⟩, 14), (⟨"GalleyConvoy", "throwOut", "(LGalleyConvoy$Galley;I)I"⟩, 14), (⟨"GalleyConvoy", "shareLoss", "(II)V"⟩, 14), (⟨"GalleyConvoy", "balesInState", "(I)I"⟩, 14), (⟨"GalleyConvoyModel", "isGalley", "(I)Z"⟩, 55), (⟨"GalleyConvoyModel", "isPort", "(I)Z"⟩, 55), (⟨"GalleyConvoyModel", "isBale", "(I)Z"⟩, 55), (⟨"GalleyConvoyModel", "read", "()I"⟩, 55), (⟨"GalleyConvoyModel", "advance", "()V"⟩, 55), (⟨"GalleyConvoyModel", "opened", "()I"⟩, 55), (⟨"GalleyConvoyModel", "lay", "(II)V"⟩, 55), (⟨"GalleyConvoyModel", "done", "(I)V"⟩, 55), (⟨"GalleyConvoyModel", "isWaiting", "(I)Z"⟩, 55), (⟨"GalleyConvoyModel", "knownAt", "(II)I"⟩, 55)]
theorem lw_r3 : ∀ q ∈ lw_privs_3, lw_okq q := List.forall_mem_cons.mpr ⟨lw_p32, List.forall_mem_cons.mpr ⟨lw_p33, List.forall_mem_cons.mpr ⟨lw_p34, List.forall_mem_cons.mpr ⟨lw_p35, List.forall_mem_cons.mpr ⟨lw_p36, List.forall_mem_cons.mpr ⟨lw_p37, List.forall_mem_cons.mpr ⟨lw_p38, List.forall_mem_cons.mpr ⟨lw_p39, List.forall_mem_cons.mpr ⟨lw_p40, List.forall_mem_cons.mpr ⟨lw_p41, List.forall_mem_cons.mpr ⟨lw_p42, List.forall_mem_cons.mpr ⟨lw_p43, List.forall_mem_cons.mpr ⟨lw_p44, List.forall_mem_cons.mpr ⟨lw_p45, List.forall_mem_cons.mpr ⟨lw_p46, List.forall_mem_cons.mpr ⟨lw_p47, fun _ h => absurd h List.not_mem_nil⟩⟩⟩⟩⟩⟩⟩⟩⟩⟩⟩⟩⟩⟩⟩⟩
theorem lw_p48 : lw_okq (⟨"GalleyConvoyModel", "says0", "(III)I"⟩, 55) := ⟨⟨by decide +kernel, by decide +kernel⟩, List.mem_of_getElem? (i := 782) (by decide +kernel), List.mem_of_getElem? (i := 1092) (by decide +kernel), List.mem_of_getElem? (i := 1093) (by decide +kernel)⟩
theorem lw_p49 : lw_okq (⟨"GalleyConvoyModel", "value", "(IIII)I"⟩, 55) := ⟨⟨by decide +kernel, by decide +kernel⟩, List.mem_of_getElem? (i := 782) (by decide +kernel), List.mem_of_getElem? (i := 1096) (by decide +kernel), List.mem_of_getElem? (i := 1097) (by decide +kernel)⟩
theorem lw_p50 : lw_okq (⟨"GalleyConvoyModel", "inPort", "(I)I"⟩, 55) := ⟨⟨by decide +kernel, by decide +kernel⟩, List.mem_of_getElem? (i := 782) (by decide +kernel), List.mem_of_getElem? (i := 1100) (by decide +kernel), List.mem_of_getElem? (i := 1101) (by decide +kernel)⟩
theorem lw_p51 : lw_okq (⟨"GalleyConvoyModel", "weightOn", "(IZ)I"⟩, 55) := ⟨⟨by decide +kernel, by decide +kernel⟩, List.mem_of_getElem? (i := 782) (by decide +kernel), List.mem_of_getElem? (i := 1104) (by decide +kernel), List.mem_of_getElem? (i := 1105) (by decide +kernel)⟩
theorem lw_p52 : lw_okq (⟨"GalleyConvoyModel", "isOn", "(II)Z"⟩, 55) := ⟨⟨by decide +kernel, by decide +kernel⟩, List.mem_of_getElem? (i := 782) (by decide +kernel), List.mem_of_getElem? (i := 1108) (by decide +kernel), List.mem_of_getElem? (i := 1109) (by decide +kernel)⟩
theorem lw_p53 : lw_okq (⟨"GalleyConvoyModel", "ofBale", "(II)I"⟩, 55) := ⟨⟨by decide +kernel, by decide +kernel⟩, List.mem_of_getElem? (i := 782) (by decide +kernel), List.mem_of_getElem? (i := 1112) (by decide +kernel), List.mem_of_getElem? (i := 1113) (by decide +kernel)⟩
theorem lw_p54 : lw_okq (⟨"GalleyConvoyModel", "sails", "(I)V"⟩, 55) := ⟨⟨by decide +kernel, by decide +kernel⟩, List.mem_of_getElem? (i := 782) (by decide +kernel), List.mem_of_getElem? (i := 1127) (by decide +kernel), List.mem_of_getElem? (i := 1128) (by decide +kernel)⟩
theorem lw_p55 : lw_okq (⟨"GalleyConvoyModel", "givesOut", "(II)V"⟩, 55) := ⟨⟨by decide +kernel, by decide +kernel⟩, List.mem_of_getElem? (i := 782) (by decide +kernel), List.mem_of_getElem? (i := 1131) (by decide +kernel), List.mem_of_getElem? (i := 1132) (by decide +kernel)⟩
theorem lw_p56 : lw_okq (⟨"GalleyConvoyModel", "becomes", "(II)V"⟩, 55) := ⟨⟨by decide +kernel, by decide +kernel⟩, List.mem_of_getElem? (i := 782) (by decide +kernel), List.mem_of_getElem? (i := 1135) (by decide +kernel), List.mem_of_getElem? (i := 1136) (by decide +kernel)⟩
theorem lw_p57 : lw_okq (⟨"GalleyConvoyModel", "leaves", "(I)Z"⟩, 55) := ⟨⟨by decide +kernel, by decide +kernel⟩, List.mem_of_getElem? (i := 782) (by decide +kernel), List.mem_of_getElem? (i := 1139) (by decide +kernel), List.mem_of_getElem? (i := 1140) (by decide +kernel)⟩
theorem lw_p58 : lw_okq (⟨"GalleyConvoyModel", "goes", "(I)V"⟩, 55) := ⟨⟨by decide +kernel, by decide +kernel⟩, List.mem_of_getElem? (i := 782) (by decide +kernel), List.mem_of_getElem? (i := 1143) (by decide +kernel), List.mem_of_getElem? (i := 1144) (by decide +kernel)⟩
theorem lw_p59 : lw_okq (⟨"GalleyConvoyModel", "nextBale", "()I"⟩, 55) := ⟨⟨by decide +kernel, by decide +kernel⟩, List.mem_of_getElem? (i := 782) (by decide +kernel), List.mem_of_getElem? (i := 1147) (by decide +kernel), List.mem_of_getElem? (i := 1148) (by decide +kernel)⟩
theorem lw_p60 : lw_okq (⟨"GalleyConvoyModel", "roomOn", "(I)I"⟩, 55) := ⟨⟨by decide +kernel, by decide +kernel⟩, List.mem_of_getElem? (i := 782) (by decide +kernel), List.mem_of_getElem? (i := 1151) (by decide +kernel), List.mem_of_getElem? (i := 1152) (by decide +kernel)⟩
theorem lw_p61 : lw_okq (⟨"GalleyConvoyModel", "balesOn", "(I)I"⟩, 55) := ⟨⟨by decide +kernel, by decide +kernel⟩, List.mem_of_getElem? (i := 782) (by decide +kernel), List.mem_of_getElem? (i := 1159) (by decide +kernel), List.mem_of_getElem? (i := 1160) (by decide +kernel)⟩
theorem lw_p62 : lw_okq (⟨"GalleyConvoyModel", "heaviest", "(I)I"⟩, 55) := ⟨⟨by decide +kernel, by decide +kernel⟩, List.mem_of_getElem? (i := 782) (by decide +kernel), List.mem_of_getElem? (i := 1163) (by decide +kernel), List.mem_of_getElem? (i := 1164) (by decide +kernel)⟩
theorem lw_p63 : lw_okq (⟨"GalleyConvoyModel", "balesAs", "(I)I"⟩, 55) := ⟨⟨by decide +kernel, by decide +kernel⟩, List.mem_of_getElem? (i := 782) (by decide +kernel), List.mem_of_getElem? (i := 1175) (by decide +kernel), List.mem_of_getElem? (i := 1176) (by decide +kernel)⟩
def lw_privs_4 : List (MethodName × Nat) := [(⟨"GalleyConvoyModel", "says0", "(III)I"⟩, 55), (⟨"GalleyConvoyModel", "value", "(IIII)I"⟩, 55), (⟨"GalleyConvoyModel", "inPort", "(I)I"⟩, 55), (⟨"GalleyConvoyModel", "weightOn", "(IZ)I"⟩, 55), (⟨"GalleyConvoyModel", "isOn", "(II)Z"⟩, 55), (⟨"GalleyConvoyModel", "ofBale", "(II)I"⟩, 55), (⟨"GalleyConvoyModel", "sails", "(I)V"⟩, 55), (⟨"GalleyConvoyModel", "givesOut", "(II)V"⟩, 55), (⟨"GalleyConvoyModel", "becomes", "(II)V"⟩, 55), (⟨"GalleyConvoyModel", "leaves", "(I)Z"⟩, 55), (⟨"GalleyConvoyModel", "goes", "(I)V"⟩, 55), (⟨"GalleyConvoyModel", "nextBale", "()I"⟩, 55), (⟨"GalleyConvoyModel", "roomOn", "(I)I"⟩, 55), (⟨"GalleyConvoyModel", "balesOn", "(I)I"⟩, 55), (⟨"GalleyConvoyModel", "heaviest", "(I)I"⟩, 55), (⟨"GalleyConvoyModel", "balesAs", "(I)I"⟩, 55)]
theorem lw_r4 : ∀ q ∈ lw_privs_4, lw_okq q := List.forall_mem_cons.mpr ⟨lw_p48, List.forall_mem_cons.mpr ⟨lw_p49, List.forall_mem_cons.mpr ⟨lw_p50, List.forall_mem_cons.mpr ⟨lw_p51, List.forall_mem_cons.mpr ⟨lw_p52, List.forall_mem_cons.mpr ⟨lw_p53, List.forall_mem_cons.mpr ⟨lw_p54, List.forall_mem_cons.mpr ⟨lw_p55, List.forall_mem_cons.mpr ⟨lw_p56, List.forall_mem_cons.mpr ⟨lw_p57, List.forall_mem_cons.mpr ⟨lw_p58, List.forall_mem_cons.mpr ⟨lw_p59, List.forall_mem_cons.mpr ⟨lw_p60, List.forall_mem_cons.mpr ⟨lw_p61, List.forall_mem_cons.mpr ⟨lw_p62, List.forall_mem_cons.mpr ⟨lw_p63, fun _ h => absurd h List.not_mem_nil⟩⟩⟩⟩⟩⟩⟩⟩⟩⟩⟩⟩⟩⟩⟩⟩
def lw_privs : List (MethodName × Nat) := lw_privs_1 ++ (lw_privs_2 ++ (lw_privs_3 ++ (lw_privs_4)))
def lw_tbl : List Cond := k2_sels lw_privs ++ tables_1
theorem lw_privs_ok : ∀ q ∈ lw_privs, lw_okq q := by
  show ∀ q ∈ lw_privs_1 ++ (lw_privs_2 ++ (lw_privs_3 ++ (lw_privs_4))), lw_okq q
  exact List.forall_mem_append.mpr ⟨lw_r1, List.forall_mem_append.mpr ⟨lw_r2, List.forall_mem_append.mpr ⟨lw_r3, lw_r4⟩⟩⟩

/-! the words that every method here is given: the tables' words that stay true behind calls -/
def TBL : List Cond := lw_tbl.filter goodWord
theorem tbl_in {w : Cond} (i : Nat) (h : lw_tbl[i]? = some w) (g : goodWord w = true) : w ∈ TBL := List.mem_filter.mpr ⟨List.mem_of_getElem? h, g⟩
theorem tbl_sub {w : Cond} (h : w ∈ TBL) : w ∈ lw_tbl := (List.mem_filter.mp h).1
theorem tbl_good {w : Cond} (h : w ∈ TBL) : (w.onTables && w.keeps) = true ∨ ∃ ty, w = .arrayClass ty := good_of_word (List.mem_filter.mp h).2
end
section
def RX0 : String := "GalleyConvoy$Bale"
def TX0 : u_T := fun k => match k with
  | 0 => ("GalleyConvoy$Bale", "owner", "I", true)
  | 1 => ("GalleyConvoy$Bale", "from", "I", true)
  | 2 => ("GalleyConvoy$Bale", "to", "I", true)
  | 3 => ("GalleyConvoy$Bale", "kind", "I", true)
  | 4 => ("GalleyConvoy$Bale", "room", "I", true)
  | 5 => ("GalleyConvoy$Bale", "weight", "I", true)
  | 6 => ("GalleyConvoy$Bale", "worth", "I", true)
  | 7 => ("GalleyConvoy$Bale", "freight", "I", true)
  | 8 => ("GalleyConvoy$Bale", "made", "I", true)
  | 9 => ("GalleyConvoy$Bale", "state", "I", false)
  | 10 => ("GalleyConvoy$Bale", "galley", "I", false)
  | 11 => ("GalleyConvoy$Bale", "since", "I", false)
  | _ => ("GalleyConvoy$Bale", "rank", "I", false)
def tyX0 : Nat → FieldType := fun k => match k with
  | 0 => .int
  | 1 => .int
  | 2 => .int
  | 3 => .int
  | 4 => .int
  | 5 => .int
  | 6 => .int
  | 7 => .int
  | 8 => .int
  | 9 => .int
  | 10 => .int
  | 11 => .int
  | _ => .int
theorem nmX0 : ∀ a, a < 13 → ∀ b, b < 13 → a ≠ b → (TX0 a).2.1 ≠ (TX0 b).2.1 := by decide +kernel
theorem tyX0_ok : ∀ k, k < 13 → parseFieldDescriptor (TX0 k).2.2.1 = some (tyX0 k) := by decide +kernel
abbrev cX0_init : ByteArray := prog_2_method_1_code
def yX0_init : MethodName := ⟨RX0, "<init>", "(IIIII)V"⟩
abbrev cX0_isAboard : ByteArray := prog_2_method_2_code
def yX0_isAboard : MethodName := ⟨RX0, "isAboard", "(LGalleyConvoy$Galley;)Z"⟩
abbrev cX0_turn : ByteArray := prog_2_method_3_code
def yX0_turn : MethodName := ⟨RX0, "turn", "(II)V"⟩
abbrev cX0_tell : ByteArray := prog_2_method_4_code
def yX0_tell : MethodName := ⟨RX0, "tell", "(I)I"⟩
def RX1 : String := "GalleyConvoy$Galley"
def TX1 : u_T := fun k => match k with
  | 0 => ("GalleyConvoy$Galley", "number", "I", true)
  | 1 => ("GalleyConvoy$Galley", "room", "I", true)
  | 2 => ("GalleyConvoy$Galley", "bears", "I", true)
  | 3 => ("GalleyConvoy$Galley", "speed", "I", true)
  | 4 => ("GalleyConvoy$Galley", "hull", "I", true)
  | 5 => ("GalleyConvoy$Galley", "parts", "[I", true)
  | 6 => ("GalleyConvoy$Galley", "highestBid", "I", false)
  | 7 => ("GalleyConvoy$Galley", "bidder", "I", false)
  | 8 => ("GalleyConvoy$Galley", "isLet", "Z", false)
  | 9 => ("GalleyConvoy$Galley", "state", "I", false)
  | 10 => ("GalleyConvoy$Galley", "port", "I", false)
  | 11 => ("GalleyConvoy$Galley", "since", "I", false)
  | 12 => ("GalleyConvoy$Galley", "way", "I", false)
  | 13 => ("GalleyConvoy$Galley", "aboard", "I", false)
  | 14 => ("GalleyConvoy$Galley", "roomAboard", "I", false)
  | 15 => ("GalleyConvoy$Galley", "weightAboard", "I", false)
  | 16 => ("GalleyConvoy$Galley", "heavyAboard", "I", false)
  | _ => ("GalleyConvoy$Galley", "freights", "I", false)
def tyX1 : Nat → FieldType := fun k => match k with
  | 0 => .int
  | 1 => .int
  | 2 => .int
  | 3 => .int
  | 4 => .int
  | 5 => .array .int
  | 6 => .int
  | 7 => .int
  | 8 => .boolean
  | 9 => .int
  | 10 => .int
  | 11 => .int
  | 12 => .int
  | 13 => .int
  | 14 => .int
  | 15 => .int
  | 16 => .int
  | _ => .int
theorem nmX1 : ∀ a, a < 18 → ∀ b, b < 18 → a ≠ b → (TX1 a).2.1 ≠ (TX1 b).2.1 := by decide +kernel
theorem tyX1_ok : ∀ k, k < 18 → parseFieldDescriptor (TX1 k).2.2.1 = some (tyX1 k) := by decide +kernel
abbrev cX1_init : ByteArray := prog_3_method_1_code
def yX1_init : MethodName := ⟨RX1, "<init>", "(IIIII)V"⟩
abbrev cX1_letTo : ByteArray := prog_3_method_2_code
def yX1_letTo : MethodName := ⟨RX1, "letTo", "(I)V"⟩
abbrev cX1_comeTo : ByteArray := prog_3_method_3_code
def yX1_comeTo : MethodName := ⟨RX1, "comeTo", "(II)V"⟩
abbrev cX1_putToSea : ByteArray := prog_3_method_4_code
def yX1_putToSea : MethodName := ⟨RX1, "putToSea", "(I)V"⟩
abbrev cX1_canTake : ByteArray := prog_3_method_5_code
def yX1_canTake : MethodName := ⟨RX1, "canTake", "(LGalleyConvoy$Bale;)Z"⟩
abbrev cX1_load : ByteArray := prog_3_method_6_code
def yX1_load : MethodName := ⟨RX1, "load", "(LGalleyConvoy$Bale;)V"⟩
abbrev cX1_unload : ByteArray := prog_3_method_7_code
def yX1_unload : MethodName := ⟨RX1, "unload", "(LGalleyConvoy$Bale;)V"⟩
abbrev cX1_change : ByteArray := prog_3_method_8_code
def yX1_change : MethodName := ⟨RX1, "change", "(LGalleyConvoy$Bale;I)V"⟩
abbrev cX1_tell : ByteArray := prog_3_method_9_code
def yX1_tell : MethodName := ⟨RX1, "tell", "(I)I"⟩
def RX2 : String := "GalleyConvoy$Reader"
def TX2 : u_T := fun k => match k with
  | 0 => ("GalleyConvoy$Reader", "tape", "LGalleyConvoy$Tape;", true)
  | 1 => ("GalleyConvoy$Reader", "place", "I", false)
  | 2 => ("GalleyConvoy$Reader", "token", "I", false)
  | 3 => ("GalleyConvoy$Reader", "tokenStart", "I", false)
  | 4 => ("GalleyConvoy$Reader", "tokenValue", "I", false)
  | 5 => ("GalleyConvoy$Reader", "steps", "[I", true)
  | _ => ("GalleyConvoy$Reader", "stepCount", "I", false)
def tyX2 : Nat → FieldType := fun k => match k with
  | 0 => .object "GalleyConvoy$Tape"
  | 1 => .int
  | 2 => .int
  | 3 => .int
  | 4 => .int
  | 5 => .array .int
  | _ => .int
theorem nmX2 : ∀ a, a < 7 → ∀ b, b < 7 → a ≠ b → (TX2 a).2.1 ≠ (TX2 b).2.1 := by decide +kernel
theorem tyX2_ok : ∀ k, k < 7 → parseFieldDescriptor (TX2 k).2.2.1 = some (tyX2 k) := by decide +kernel
abbrev cX2_init : ByteArray := prog_4_method_1_code
def yX2_init : MethodName := ⟨RX2, "<init>", "()V"⟩
abbrev cX2_read : ByteArray := prog_4_method_2_code
def yX2_read : MethodName := ⟨RX2, "read", "()I"⟩
abbrev cX2_stepsRead : ByteArray := prog_4_method_3_code
def yX2_stepsRead : MethodName := ⟨RX2, "stepsRead", "()[I"⟩
abbrev cX2_readEither : ByteArray := prog_4_method_4_code
def yX2_readEither : MethodName := ⟨RX2, "readEither", "(I)Z"⟩
abbrev cX2_readBoth : ByteArray := prog_4_method_5_code
def yX2_readBoth : MethodName := ⟨RX2, "readBoth", "(I)Z"⟩
abbrev cX2_readDenied : ByteArray := prog_4_method_6_code
def yX2_readDenied : MethodName := ⟨RX2, "readDenied", "(I)Z"⟩
abbrev cX2_readCompared : ByteArray := prog_4_method_7_code
def yX2_readCompared : MethodName := ⟨RX2, "readCompared", "(I)Z"⟩
abbrev cX2_readSum : ByteArray := prog_4_method_8_code
def yX2_readSum : MethodName := ⟨RX2, "readSum", "(I)Z"⟩
abbrev cX2_readProduct : ByteArray := prog_4_method_9_code
def yX2_readProduct : MethodName := ⟨RX2, "readProduct", "(I)Z"⟩
abbrev cX2_readOperand : ByteArray := prog_4_method_10_code
def yX2_readOperand : MethodName := ⟨RX2, "readOperand", "(I)Z"⟩
abbrev cX2_readBracket : ByteArray := prog_4_method_11_code
def yX2_readBracket : MethodName := ⟨RX2, "readBracket", "(I)Z"⟩
abbrev cX2_readNegated : ByteArray := prog_4_method_12_code
def yX2_readNegated : MethodName := ⟨RX2, "readNegated", "(I)Z"⟩
abbrev cX2_putStep : ByteArray := prog_4_method_13_code
def yX2_putStep : MethodName := ⟨RX2, "putStep", "(I)V"⟩
abbrev cX2_nextToken : ByteArray := prog_4_method_14_code
def yX2_nextToken : MethodName := ⟨RX2, "nextToken", "()V"⟩
abbrev cX2_takeNumber : ByteArray := prog_4_method_15_code
def yX2_takeNumber : MethodName := ⟨RX2, "takeNumber", "()V"⟩
abbrev cX2_takeWord : ByteArray := prog_4_method_16_code
def yX2_takeWord : MethodName := ⟨RX2, "takeWord", "()V"⟩
abbrev cX2_isWord : ByteArray := prog_4_method_17_code
def yX2_isWord : MethodName := ⟨RX2, "isWord", "(I)Z"⟩
abbrev cX2_isDigit : ByteArray := prog_4_method_18_code
def yX2_isDigit : MethodName := ⟨RX2, "isDigit", "(I)Z"⟩
abbrev cX2_isLetter : ByteArray := prog_4_method_19_code
def yX2_isLetter : MethodName := ⟨RX2, "isLetter", "(I)Z"⟩
def RX3 : String := "GalleyConvoy$Tape"
def TX3 : u_T := fun k => match k with
  | 0 => ("GalleyConvoy$Tape", "bytes", "[I", true)
  | _ => ("GalleyConvoy$Tape", "length", "I", false)
def tyX3 : Nat → FieldType := fun k => match k with
  | 0 => .array .int
  | _ => .int
theorem nmX3 : ∀ a, a < 2 → ∀ b, b < 2 → a ≠ b → (TX3 a).2.1 ≠ (TX3 b).2.1 := by decide +kernel
theorem tyX3_ok : ∀ k, k < 2 → parseFieldDescriptor (TX3 k).2.2.1 = some (tyX3 k) := by decide +kernel
abbrev cX3_init : ByteArray := prog_5_method_1_code
def yX3_init : MethodName := ⟨RX3, "<init>", "()V"⟩
abbrev cX3_append : ByteArray := prog_5_method_2_code
def yX3_append : MethodName := ⟨RX3, "append", "(II)V"⟩
abbrev cX3_at : ByteArray := prog_5_method_3_code
def yX3_at : MethodName := ⟨RX3, "at", "(I)I"⟩
def RX4 : String := "GalleyConvoy$Teller"
def TX4 : u_T := fun k => match k with
  | 0 => ("GalleyConvoy$Teller", "names", "[I", true)
  | _ => ("GalleyConvoy$Teller", "stack", "[I", true)
def tyX4 : Nat → FieldType := fun k => match k with
  | 0 => .array .int
  | _ => .array .int
theorem nmX4 : ∀ a, a < 2 → ∀ b, b < 2 → a ≠ b → (TX4 a).2.1 ≠ (TX4 b).2.1 := by decide +kernel
theorem tyX4_ok : ∀ k, k < 2 → parseFieldDescriptor (TX4 k).2.2.1 = some (tyX4 k) := by decide +kernel
abbrev cX4_init : ByteArray := prog_6_method_1_code
def yX4_init : MethodName := ⟨RX4, "<init>", "()V"⟩
abbrev cX4_lookAtGalley : ByteArray := prog_6_method_2_code
def yX4_lookAtGalley : MethodName := ⟨RX4, "lookAtGalley", "(LGalleyConvoy$Galley;II)V"⟩
abbrev cX4_lookAtBale : ByteArray := prog_6_method_3_code
def yX4_lookAtBale : MethodName := ⟨RX4, "lookAtBale", "(LGalleyConvoy$Bale;I)V"⟩
abbrev cX4_lookAtOther : ByteArray := prog_6_method_4_code
def yX4_lookAtOther : MethodName := ⟨RX4, "lookAtOther", "(LGalleyConvoy$Galley;)V"⟩
abbrev cX4_workOut : ByteArray := prog_6_method_5_code
def yX4_workOut : MethodName := ⟨RX4, "workOut", "([I)I"⟩
abbrev cX4_turned : ByteArray := prog_6_method_6_code
def yX4_turned : MethodName := ⟨RX4, "turned", "(II)I"⟩
abbrev cX4_joined : ByteArray := prog_6_method_7_code
def yX4_joined : MethodName := ⟨RX4, "joined", "(III)I"⟩
def RX5 : String := "GalleyConvoy$Vote"
def TX5 : u_T := fun k => match k with
  | 0 => ("GalleyConvoy$Vote", "kind", "I", true)
  | 1 => ("GalleyConvoy$Vote", "told", "I", true)
  | _ => ("GalleyConvoy$Vote", "steps", "[I", true)
def tyX5 : Nat → FieldType := fun k => match k with
  | 0 => .int
  | 1 => .int
  | _ => .array .int
theorem nmX5 : ∀ a, a < 3 → ∀ b, b < 3 → a ≠ b → (TX5 a).2.1 ≠ (TX5 b).2.1 := by decide +kernel
theorem tyX5_ok : ∀ k, k < 3 → parseFieldDescriptor (TX5 k).2.2.1 = some (tyX5 k) := by decide +kernel
abbrev cX5_init : ByteArray := prog_7_method_1_code
def yX5_init : MethodName := ⟨RX5, "<init>", "(II[I)V"⟩
def RX6 : String := "GalleyConvoy"
def TX6 : u_T := fun k => match k with
  | 0 => ("GalleyConvoy", "purses", "[I", true)
  | 1 => ("GalleyConvoy", "chest", "I", false)
  | 2 => ("GalleyConvoy", "outside", "I", false)
  | 3 => ("GalleyConvoy", "legs", "[I", true)
  | 4 => ("GalleyConvoy", "fars", "[I", true)
  | 5 => ("GalleyConvoy", "portCount", "I", false)
  | 6 => ("GalleyConvoy", "winds", "[I", true)
  | 7 => ("GalleyConvoy", "galleys", "Ljava/util/ArrayList;", true)
  | 8 => ("GalleyConvoy", "bales", "Ljava/util/ArrayList;", true)
  | 9 => ("GalleyConvoy", "votes", "Ljava/util/ArrayList;", true)
  | 10 => ("GalleyConvoy", "reader", "LGalleyConvoy$Reader;", true)
  | 11 => ("GalleyConvoy", "teller", "LGalleyConvoy$Teller;", true)
  | 12 => ("GalleyConvoy", "ranked", "Ljava/util/ArrayList;", true)
  | _ => ("GalleyConvoy", "today", "I", false)
def tyX6 : Nat → FieldType := fun k => match k with
  | 0 => .array .int
  | 1 => .int
  | 2 => .int
  | 3 => .array .int
  | 4 => .array .int
  | 5 => .int
  | 6 => .array .int
  | 7 => .object "java/util/ArrayList"
  | 8 => .object "java/util/ArrayList"
  | 9 => .object "java/util/ArrayList"
  | 10 => .object "GalleyConvoy$Reader"
  | 11 => .object "GalleyConvoy$Teller"
  | 12 => .object "java/util/ArrayList"
  | _ => .int
theorem nmX6 : ∀ a, a < 14 → ∀ b, b < 14 → a ≠ b → (TX6 a).2.1 ≠ (TX6 b).2.1 := by decide +kernel
theorem tyX6_ok : ∀ k, k < 14 → parseFieldDescriptor (TX6 k).2.2.1 = some (tyX6 k) := by decide +kernel
abbrev cX6_init : ByteArray := prog_1_method_1_code
def yX6_init : MethodName := ⟨RX6, "<init>", "()V"⟩
abbrev cX6_purse : ByteArray := prog_1_method_2_code
def yX6_purse : MethodName := ⟨RX6, "purse", "(II)I"⟩
abbrev cX6_port : ByteArray := prog_1_method_3_code
def yX6_port : MethodName := ⟨RX6, "port", "(I)I"⟩
abbrev cX6_wind : ByteArray := prog_1_method_4_code
def yX6_wind : MethodName := ⟨RX6, "wind", "(II)I"⟩
abbrev cX6_galley : ByteArray := prog_1_method_5_code
def yX6_galley : MethodName := ⟨RX6, "galley", "(IIII)I"⟩
abbrev cX6_bid : ByteArray := prog_1_method_6_code
def yX6_bid : MethodName := ⟨RX6, "bid", "(III)I"⟩
abbrev cX6_let : ByteArray := prog_1_method_7_code
def yX6_let : MethodName := ⟨RX6, "let", "(I)I"⟩
abbrev cX6_part : ByteArray := prog_1_method_8_code
def yX6_part : MethodName := ⟨RX6, "part", "(IIII)I"⟩
abbrev cX6_parts : ByteArray := prog_1_method_9_code
def yX6_parts : MethodName := ⟨RX6, "parts", "(II)I"⟩
abbrev cX6_bale : ByteArray := prog_1_method_10_code
def yX6_bale : MethodName := ⟨RX6, "bale", "(IIII)I"⟩
abbrev cX6_about : ByteArray := prog_1_method_11_code
def yX6_about : MethodName := ⟨RX6, "about", "(II)I"⟩
abbrev cX6_feed : ByteArray := prog_1_method_12_code
def yX6_feed : MethodName := ⟨RX6, "feed", "(II)I"⟩
abbrev cX6_vote : ByteArray := prog_1_method_13_code
def yX6_vote : MethodName := ⟨RX6, "vote", "(I)I"⟩
abbrev cX6_known : ByteArray := prog_1_method_14_code
def yX6_known : MethodName := ⟨RX6, "known", "(II)I"⟩
abbrev cX6_says : ByteArray := prog_1_method_15_code
def yX6_says : MethodName := ⟨RX6, "says", "(III)I"⟩
abbrev cX6_start : ByteArray := prog_1_method_16_code
def yX6_start : MethodName := ⟨RX6, "start", "(I)I"⟩
abbrev cX6_day : ByteArray := prog_1_method_17_code
def yX6_day : MethodName := ⟨RX6, "day", "(I)I"⟩
abbrev cX6_toss : ByteArray := prog_1_method_18_code
def yX6_toss : MethodName := ⟨RX6, "toss", "(II)I"⟩
abbrev cX6_ship : ByteArray := prog_1_method_19_code
def yX6_ship : MethodName := ⟨RX6, "ship", "(II)I"⟩
abbrev cX6_count : ByteArray := prog_1_method_20_code
def yX6_count : MethodName := ⟨RX6, "count", "(I)I"⟩
abbrev cX6_coins : ByteArray := prog_1_method_21_code
def yX6_coins : MethodName := ⟨RX6, "coins", "(I)I"⟩
abbrev cX6_within : ByteArray := prog_1_method_22_code
def yX6_within : MethodName := ⟨RX6, "within", "(III)Z"⟩
abbrev cX6_isPerson : ByteArray := prog_1_method_23_code
def yX6_isPerson : MethodName := ⟨RX6, "isPerson", "(I)Z"⟩
abbrev cX6_isVoteKind : ByteArray := prog_1_method_24_code
def yX6_isVoteKind : MethodName := ⟨RX6, "isVoteKind", "(I)Z"⟩
abbrev cX6_isRoute : ByteArray := prog_1_method_25_code
def yX6_isRoute : MethodName := ⟨RX6, "isRoute", "(I)Z"⟩
abbrev cX6_isSize : ByteArray := prog_1_method_26_code
def yX6_isSize : MethodName := ⟨RX6, "isSize", "(I)Z"⟩
abbrev cX6_isPrice : ByteArray := prog_1_method_27_code
def yX6_isPrice : MethodName := ⟨RX6, "isPrice", "(I)Z"⟩
abbrev cX6_galleyOf : ByteArray := prog_1_method_28_code
def yX6_galleyOf : MethodName := ⟨RX6, "galleyOf", "(I)LGalleyConvoy$Galley;"⟩
abbrev cX6_baleOf : ByteArray := prog_1_method_29_code
def yX6_baleOf : MethodName := ⟨RX6, "baleOf", "(I)LGalleyConvoy$Bale;"⟩
abbrev cX6_allAreHome : ByteArray := prog_1_method_30_code
def yX6_allAreHome : MethodName := ⟨RX6, "allAreHome", "()Z"⟩
abbrev cX6_balesInState : ByteArray := prog_1_method_31_code
def yX6_balesInState : MethodName := ⟨RX6, "balesInState", "(I)I"⟩
abbrev cX6_inForce : ByteArray := prog_1_method_32_code
def yX6_inForce : MethodName := ⟨RX6, "inForce", "(II)I"⟩
abbrev cX6_workedOut : ByteArray := prog_1_method_33_code
def yX6_workedOut : MethodName := ⟨RX6, "workedOut", "(II)I"⟩
abbrev cX6_lookAt : ByteArray := prog_1_method_34_code
def yX6_lookAt : MethodName := ⟨RX6, "lookAt", "(LGalleyConvoy$Galley;)V"⟩
abbrev cX6_goByOneDay : ByteArray := prog_1_method_35_code
def yX6_goByOneDay : MethodName := ⟨RX6, "goByOneDay", "()V"⟩
abbrev cX6_sailOn : ByteArray := prog_1_method_36_code
def yX6_sailOn : MethodName := ⟨RX6, "sailOn", "(LGalleyConvoy$Galley;)V"⟩
abbrev cX6_giveOut : ByteArray := prog_1_method_37_code
def yX6_giveOut : MethodName := ⟨RX6, "giveOut", "(LGalleyConvoy$Bale;LGalleyConvoy$Galley;)V"⟩
abbrev cX6_hasStayed : ByteArray := prog_1_method_38_code
def yX6_hasStayed : MethodName := ⟨RX6, "hasStayed", "(LGalleyConvoy$Galley;)Z"⟩
abbrev cX6_waitsForAnother : ByteArray := prog_1_method_39_code
def yX6_waitsForAnother : MethodName := ⟨RX6, "waitsForAnother", "(LGalleyConvoy$Galley;)Z"⟩
abbrev cX6_leave : ByteArray := prog_1_method_40_code
def yX6_leave : MethodName := ⟨RX6, "leave", "(LGalleyConvoy$Galley;)V"⟩
abbrev cX6_rankForLading : ByteArray := prog_1_method_41_code
def yX6_rankForLading : MethodName := ⟨RX6, "rankForLading", "(LGalleyConvoy$Galley;)V"⟩
abbrev cX6_rank : ByteArray := prog_1_method_42_code
def yX6_rank : MethodName := ⟨RX6, "rank", "(LGalleyConvoy$Bale;I)V"⟩
abbrev cX6_rankAboard : ByteArray := prog_1_method_43_code
def yX6_rankAboard : MethodName := ⟨RX6, "rankAboard", "(LGalleyConvoy$Galley;)I"⟩
abbrev cX6_throwOut : ByteArray := prog_1_method_44_code
def yX6_throwOut : MethodName := ⟨RX6, "throwOut", "(LGalleyConvoy$Galley;I)I"⟩
abbrev cX6_shareLoss : ByteArray := prog_1_method_45_code
def yX6_shareLoss : MethodName := ⟨RX6, "shareLoss", "(II)V"⟩
def RX7 : String := "GalleyConvoyModel"
def TX7 : u_T := fun k => match k with
  | 0 => ("GalleyConvoyModel", "code", "I", false)
  | 1 => ("GalleyConvoyModel", "day", "I", false)
  | 2 => ("GalleyConvoyModel", "purse", "[I", true)
  | 3 => ("GalleyConvoyModel", "chest", "I", false)
  | 4 => ("GalleyConvoyModel", "outside", "I", false)
  | 5 => ("GalleyConvoyModel", "ports", "I", false)
  | 6 => ("GalleyConvoyModel", "leg", "[I", true)
  | 7 => ("GalleyConvoyModel", "far", "[I", true)
  | 8 => ("GalleyConvoyModel", "wind", "[I", true)
  | 9 => ("GalleyConvoyModel", "galleys", "I", false)
  | 10 => ("GalleyConvoyModel", "room", "[I", true)
  | 11 => ("GalleyConvoyModel", "bears", "[I", true)
  | 12 => ("GalleyConvoyModel", "speed", "[I", true)
  | 13 => ("GalleyConvoyModel", "hull", "[I", true)
  | 14 => ("GalleyConvoyModel", "state", "[I", true)
  | 15 => ("GalleyConvoyModel", "portOf", "[I", true)
  | 16 => ("GalleyConvoyModel", "since", "[I", true)
  | 17 => ("GalleyConvoyModel", "way", "[I", true)
  | 18 => ("GalleyConvoyModel", "paid", "[I", true)
  | 19 => ("GalleyConvoyModel", "best", "[I", true)
  | 20 => ("GalleyConvoyModel", "bidder", "[I", true)
  | 21 => ("GalleyConvoyModel", "isLet", "[Z", true)
  | 22 => ("GalleyConvoyModel", "parts", "[I", true)
  | 23 => ("GalleyConvoyModel", "bales", "I", false)
  | 24 => ("GalleyConvoyModel", "owner", "[I", true)
  | 25 => ("GalleyConvoyModel", "from", "[I", true)
  | 26 => ("GalleyConvoyModel", "to", "[I", true)
  | 27 => ("GalleyConvoyModel", "kind", "[I", true)
  | 28 => ("GalleyConvoyModel", "baleRoom", "[I", true)
  | 29 => ("GalleyConvoyModel", "weight", "[I", true)
  | 30 => ("GalleyConvoyModel", "worth", "[I", true)
  | 31 => ("GalleyConvoyModel", "freight", "[I", true)
  | 32 => ("GalleyConvoyModel", "made", "[I", true)
  | 33 => ("GalleyConvoyModel", "baleState", "[I", true)
  | 34 => ("GalleyConvoyModel", "galleyOf", "[I", true)
  | 35 => ("GalleyConvoyModel", "stateDay", "[I", true)
  | 36 => ("GalleyConvoyModel", "tape", "[B", true)
  | 37 => ("GalleyConvoyModel", "taped", "I", false)
  | 38 => ("GalleyConvoyModel", "votes", "I", false)
  | 39 => ("GalleyConvoyModel", "voteKind", "[I", true)
  | 40 => ("GalleyConvoyModel", "voteDay", "[I", true)
  | 41 => ("GalleyConvoyModel", "voteFrom", "[I", true)
  | 42 => ("GalleyConvoyModel", "step", "[I", true)
  | 43 => ("GalleyConvoyModel", "number", "[I", true)
  | 44 => ("GalleyConvoyModel", "laid", "I", false)
  | 45 => ("GalleyConvoyModel", "at", "I", false)
  | 46 => ("GalleyConvoyModel", "tk", "I", false)
  | 47 => ("GalleyConvoyModel", "tkAt", "I", false)
  | 48 => ("GalleyConvoyModel", "tkNumber", "I", false)
  | 49 => ("GalleyConvoyModel", "fault", "I", false)
  | 50 => ("GalleyConvoyModel", "wait", "[I", true)
  | 51 => ("GalleyConvoyModel", "waits", "I", false)
  | 52 => ("GalleyConvoyModel", "pile", "[I", true)
  | 53 => ("GalleyConvoyModel", "wish", "[I", true)
  | _ => ("GalleyConvoyModel", "tried", "[Z", true)
def tyX7 : Nat → FieldType := fun k => match k with
  | 0 => .int
  | 1 => .int
  | 2 => .array .int
  | 3 => .int
  | 4 => .int
  | 5 => .int
  | 6 => .array .int
  | 7 => .array .int
  | 8 => .array .int
  | 9 => .int
  | 10 => .array .int
  | 11 => .array .int
  | 12 => .array .int
  | 13 => .array .int
  | 14 => .array .int
  | 15 => .array .int
  | 16 => .array .int
  | 17 => .array .int
  | 18 => .array .int
  | 19 => .array .int
  | 20 => .array .int
  | 21 => .array .boolean
  | 22 => .array .int
  | 23 => .int
  | 24 => .array .int
  | 25 => .array .int
  | 26 => .array .int
  | 27 => .array .int
  | 28 => .array .int
  | 29 => .array .int
  | 30 => .array .int
  | 31 => .array .int
  | 32 => .array .int
  | 33 => .array .int
  | 34 => .array .int
  | 35 => .array .int
  | 36 => .array .byte
  | 37 => .int
  | 38 => .int
  | 39 => .array .int
  | 40 => .array .int
  | 41 => .array .int
  | 42 => .array .int
  | 43 => .array .int
  | 44 => .int
  | 45 => .int
  | 46 => .int
  | 47 => .int
  | 48 => .int
  | 49 => .int
  | 50 => .array .int
  | 51 => .int
  | 52 => .array .int
  | 53 => .array .int
  | _ => .array .boolean
theorem nmX7 : ∀ a, a < 55 → ∀ b, b < 55 → a ≠ b → (TX7 a).2.1 ≠ (TX7 b).2.1 := by decide +kernel
theorem tyX7_ok : ∀ k, k < 55 → parseFieldDescriptor (TX7 k).2.2.1 = some (tyX7 k) := by decide +kernel
abbrev cX7_init : ByteArray := prog_9_method_1_code
def yX7_init : MethodName := ⟨RX7, "<init>", "()V"⟩
abbrev cX7_in : ByteArray := prog_9_method_3_code
def yX7_in : MethodName := ⟨RX7, "in", "(III)Z"⟩
abbrev cX7_isPerson : ByteArray := prog_9_method_4_code
def yX7_isPerson : MethodName := ⟨RX7, "isPerson", "(I)Z"⟩
abbrev cX7_isPort : ByteArray := prog_9_method_5_code
def yX7_isPort : MethodName := ⟨RX7, "isPort", "(I)Z"⟩
abbrev cX7_isGalley : ByteArray := prog_9_method_6_code
def yX7_isGalley : MethodName := ⟨RX7, "isGalley", "(I)Z"⟩
abbrev cX7_isBale : ByteArray := prog_9_method_7_code
def yX7_isBale : MethodName := ⟨RX7, "isBale", "(I)Z"⟩
abbrev cX7_purse : ByteArray := prog_9_method_8_code
def yX7_purse : MethodName := ⟨RX7, "purse", "(II)I"⟩
abbrev cX7_port : ByteArray := prog_9_method_9_code
def yX7_port : MethodName := ⟨RX7, "port", "(I)I"⟩
abbrev cX7_wind : ByteArray := prog_9_method_10_code
def yX7_wind : MethodName := ⟨RX7, "wind", "(II)I"⟩
abbrev cX7_galley : ByteArray := prog_9_method_11_code
def yX7_galley : MethodName := ⟨RX7, "galley", "(IIII)I"⟩
abbrev cX7_bid : ByteArray := prog_9_method_12_code
def yX7_bid : MethodName := ⟨RX7, "bid", "(III)I"⟩
abbrev cX7_let : ByteArray := prog_9_method_13_code
def yX7_let : MethodName := ⟨RX7, "let", "(I)I"⟩
abbrev cX7_part : ByteArray := prog_9_method_14_code
def yX7_part : MethodName := ⟨RX7, "part", "(IIII)I"⟩
abbrev cX7_parts : ByteArray := prog_9_method_15_code
def yX7_parts : MethodName := ⟨RX7, "parts", "(II)I"⟩
abbrev cX7_bale : ByteArray := prog_9_method_16_code
def yX7_bale : MethodName := ⟨RX7, "bale", "(IIII)I"⟩
abbrev cX7_about : ByteArray := prog_9_method_17_code
def yX7_about : MethodName := ⟨RX7, "about", "(II)I"⟩
abbrev cX7_isOn : ByteArray := prog_9_method_18_code
def yX7_isOn : MethodName := ⟨RX7, "isOn", "(II)Z"⟩
abbrev cX7_roomOn : ByteArray := prog_9_method_19_code
def yX7_roomOn : MethodName := ⟨RX7, "roomOn", "(I)I"⟩
abbrev cX7_weightOn : ByteArray := prog_9_method_20_code
def yX7_weightOn : MethodName := ⟨RX7, "weightOn", "(IZ)I"⟩
abbrev cX7_balesOn : ByteArray := prog_9_method_21_code
def yX7_balesOn : MethodName := ⟨RX7, "balesOn", "(I)I"⟩
abbrev cX7_becomes : ByteArray := prog_9_method_22_code
def yX7_becomes : MethodName := ⟨RX7, "becomes", "(II)V"⟩
abbrev cX7_feed : ByteArray := prog_9_method_23_code
def yX7_feed : MethodName := ⟨RX7, "feed", "(II)I"⟩
abbrev cX7_isLetter : ByteArray := prog_9_method_24_code
def yX7_isLetter : MethodName := ⟨RX7, "isLetter", "(I)Z"⟩
abbrev cX7_isDigit : ByteArray := prog_9_method_25_code
def yX7_isDigit : MethodName := ⟨RX7, "isDigit", "(I)Z"⟩
abbrev cX7_advance : ByteArray := prog_9_method_26_code
def yX7_advance : MethodName := ⟨RX7, "advance", "()V"⟩
abbrev cX7_signOf : ByteArray := prog_9_method_27_code
def yX7_signOf : MethodName := ⟨RX7, "signOf", "(I)I"⟩
abbrev cX7_wordOf : ByteArray := prog_9_method_28_code
def yX7_wordOf : MethodName := ⟨RX7, "wordOf", "(J)I"⟩
abbrev cX7_tight : ByteArray := prog_9_method_29_code
def yX7_tight : MethodName := ⟨RX7, "tight", "(I)I"⟩
abbrev cX7_lay : ByteArray := prog_9_method_30_code
def yX7_lay : MethodName := ⟨RX7, "lay", "(II)V"⟩
abbrev cX7_done : ByteArray := prog_9_method_31_code
def yX7_done : MethodName := ⟨RX7, "done", "(I)V"⟩
abbrev cX7_opened : ByteArray := prog_9_method_32_code
def yX7_opened : MethodName := ⟨RX7, "opened", "()I"⟩
abbrev cX7_isWaiting : ByteArray := prog_9_method_33_code
def yX7_isWaiting : MethodName := ⟨RX7, "isWaiting", "(I)Z"⟩
abbrev cX7_read : ByteArray := prog_9_method_34_code
def yX7_read : MethodName := ⟨RX7, "read", "()I"⟩
abbrev cX7_vote : ByteArray := prog_9_method_35_code
def yX7_vote : MethodName := ⟨RX7, "vote", "(I)I"⟩
abbrev cX7_knownAt : ByteArray := prog_9_method_36_code
def yX7_knownAt : MethodName := ⟨RX7, "knownAt", "(II)I"⟩
abbrev cX7_known : ByteArray := prog_9_method_37_code
def yX7_known : MethodName := ⟨RX7, "known", "(II)I"⟩
abbrev cX7_inPort : ByteArray := prog_9_method_38_code
def yX7_inPort : MethodName := ⟨RX7, "inPort", "(I)I"⟩
abbrev cX7_value : ByteArray := prog_9_method_39_code
def yX7_value : MethodName := ⟨RX7, "value", "(IIII)I"⟩
abbrev cX7_ofBale : ByteArray := prog_9_method_40_code
def yX7_ofBale : MethodName := ⟨RX7, "ofBale", "(II)I"⟩
abbrev cX7_both : ByteArray := prog_9_method_41_code
def yX7_both : MethodName := ⟨RX7, "both", "(III)I"⟩
abbrev cX7_says0 : ByteArray := prog_9_method_42_code
def yX7_says0 : MethodName := ⟨RX7, "says0", "(III)I"⟩
abbrev cX7_says : ByteArray := prog_9_method_43_code
def yX7_says : MethodName := ⟨RX7, "says", "(III)I"⟩
abbrev cX7_start : ByteArray := prog_9_method_44_code
def yX7_start : MethodName := ⟨RX7, "start", "(I)I"⟩
abbrev cX7_day : ByteArray := prog_9_method_45_code
def yX7_day : MethodName := ⟨RX7, "day", "(I)I"⟩
abbrev cX7_sails : ByteArray := prog_9_method_46_code
def yX7_sails : MethodName := ⟨RX7, "sails", "(I)V"⟩
abbrev cX7_givesOut : ByteArray := prog_9_method_47_code
def yX7_givesOut : MethodName := ⟨RX7, "givesOut", "(II)V"⟩
abbrev cX7_leaves : ByteArray := prog_9_method_48_code
def yX7_leaves : MethodName := ⟨RX7, "leaves", "(I)Z"⟩
abbrev cX7_goes : ByteArray := prog_9_method_49_code
def yX7_goes : MethodName := ⟨RX7, "goes", "(I)V"⟩
abbrev cX7_nextBale : ByteArray := prog_9_method_50_code
def yX7_nextBale : MethodName := ⟨RX7, "nextBale", "()I"⟩
abbrev cX7_toss : ByteArray := prog_9_method_51_code
def yX7_toss : MethodName := ⟨RX7, "toss", "(II)I"⟩
abbrev cX7_heaviest : ByteArray := prog_9_method_52_code
def yX7_heaviest : MethodName := ⟨RX7, "heaviest", "(I)I"⟩
abbrev cX7_ship : ByteArray := prog_9_method_53_code
def yX7_ship : MethodName := ⟨RX7, "ship", "(II)I"⟩
abbrev cX7_balesAs : ByteArray := prog_9_method_54_code
def yX7_balesAs : MethodName := ⟨RX7, "balesAs", "(I)I"⟩
abbrev cX7_count : ByteArray := prog_9_method_55_code
def yX7_count : MethodName := ⟨RX7, "count", "(I)I"⟩
abbrev cX7_coins : ByteArray := prog_9_method_56_code
def yX7_coins : MethodName := ⟨RX7, "coins", "(I)I"⟩
def RJx145de : String := "java/io/Serializable"
def RJx8e188 : String := "java/lang/Cloneable"
def RJxab1ab : String := "java/lang/Iterable"
def RJ9 : String := "java/lang/Math"
abbrev cJ9_max_7cf53 : ByteArray := prog_13_method_65_code
def yJ9_max_7cf53 : MethodName := ⟨RJ9, "max", "(II)I"⟩
abbrev cJ9_min_7cf53 : ByteArray := prog_13_method_69_code
def yJ9_min_7cf53 : MethodName := ⟨RJ9, "min", "(II)I"⟩
def RJ0 : String := "java/lang/String"
abbrev cJ0_charAt_5068e : ByteArray := prog_14_method_56_code
def yJ0_charAt_5068e : MethodName := ⟨RJ0, "charAt", "(I)C"⟩
abbrev cJ0_isLatin1_aae02 : ByteArray := prog_14_method_154_code
def yJ0_isLatin1_aae02 : MethodName := ⟨RJ0, "isLatin1", "()Z"⟩
abbrev cJ0_checkIndex_df160 : ByteArray := prog_14_method_155_code
def yJ0_checkIndex_df160 : MethodName := ⟨RJ0, "checkIndex", "(II)V"⟩
def RJ1 : String := "java/lang/StringLatin1"
abbrev cJ1_charAt_3b067 : ByteArray := prog_15_method_2_code
def yJ1_charAt_3b067 : MethodName := ⟨RJ1, "charAt", "([BI)C"⟩
def RJ2 : String := "java/lang/StringUTF16"
abbrev cJ2_getChar_3b067 : ByteArray := prog_16_method_5_code
def yJ2_getChar_3b067 : MethodName := ⟨RJ2, "getChar", "([BI)C"⟩
abbrev cJ2_length_9d52b : ByteArray := prog_16_method_6_code
def yJ2_length_9d52b : MethodName := ⟨RJ2, "length", "([B)I"⟩
abbrev cJ2_charAt_3b067 : ByteArray := prog_16_method_83_code
def yJ2_charAt_3b067 : MethodName := ⟨RJ2, "charAt", "([BI)C"⟩
abbrev cJ2_checkIndex_2214a : ByteArray := prog_16_method_91_code
def yJ2_checkIndex_2214a : MethodName := ⟨RJ2, "checkIndex", "(I[B)V"⟩
def RJ10 : String := "java/lang/System"
def RJxa1e45 : String := "java/util/AbstractCollection"
abbrev cJxa1e45_init_da8c8 : ByteArray := prog_18_method_1_code
def yJxa1e45_init_da8c8 : MethodName := ⟨RJxa1e45, "<init>", "()V"⟩
def RJxc12de : String := "java/util/AbstractList"
abbrev cJxc12de_init_da8c8 : ByteArray := prog_19_method_1_code
def yJxc12de_init_da8c8 : MethodName := ⟨RJxc12de, "<init>", "()V"⟩
def RJx4a65c : String := "java/util/ArrayList"
def TJx4a65c : u_T := fun k => match k with
  | 0 => ("java/util/AbstractList", "modCount", "I", false)
  | 1 => ("java/util/ArrayList", "elementData", "[Ljava/lang/Object;", false)
  | _ => ("java/util/ArrayList", "size", "I", false)
def tyJx4a65c : Nat → FieldType := fun k => match k with
  | 0 => .int
  | 1 => .array (.object "java/lang/Object")
  | _ => .int
theorem nmJx4a65c : ∀ a, a < 3 → ∀ b, b < 3 → a ≠ b → (TJx4a65c a).2.1 ≠ (TJx4a65c b).2.1 := by decide +kernel
theorem tyJx4a65c_ok : ∀ k, k < 3 → parseFieldDescriptor (TJx4a65c k).2.2.1 = some (tyJx4a65c k) := by decide +kernel
abbrev cJx4a65c_init_da8c8 : ByteArray := prog_20_method_2_code
def yJx4a65c_init_da8c8 : MethodName := ⟨RJx4a65c, "<init>", "()V"⟩
abbrev cJx4a65c_grow_92f84 : ByteArray := prog_20_method_6_code
def yJx4a65c_grow_92f84 : MethodName := ⟨RJx4a65c, "grow", "(I)[Ljava/lang/Object;"⟩
abbrev cJx4a65c_grow_d5877 : ByteArray := prog_20_method_7_code
def yJx4a65c_grow_d5877 : MethodName := ⟨RJx4a65c, "grow", "()[Ljava/lang/Object;"⟩
abbrev cJx4a65c_size_8abf5 : ByteArray := prog_20_method_8_code
def yJx4a65c_size_8abf5 : MethodName := ⟨RJx4a65c, "size", "()I"⟩
abbrev cJx4a65c_elementData_915e3 : ByteArray := prog_20_method_18_code
def yJx4a65c_elementData_915e3 : MethodName := ⟨RJx4a65c, "elementData", "(I)Ljava/lang/Object;"⟩
abbrev cJx4a65c_get_915e3 : ByteArray := prog_20_method_20_code
def yJx4a65c_get_915e3 : MethodName := ⟨RJx4a65c, "get", "(I)Ljava/lang/Object;"⟩
abbrev cJx4a65c_add_72be8 : ByteArray := prog_20_method_24_code
def yJx4a65c_add_72be8 : MethodName := ⟨RJx4a65c, "add", "(Ljava/lang/Object;[Ljava/lang/Object;I)V"⟩
abbrev cJx4a65c_add_9ea2d : ByteArray := prog_20_method_25_code
def yJx4a65c_add_9ea2d : MethodName := ⟨RJx4a65c, "add", "(Ljava/lang/Object;)Z"⟩
abbrev cJx4a65c_add_7a177 : ByteArray := prog_20_method_26_code
def yJx4a65c_add_7a177 : MethodName := ⟨RJx4a65c, "add", "(ILjava/lang/Object;)V"⟩
abbrev cJx4a65c_clear_da8c8 : ByteArray := prog_20_method_40_code
def yJx4a65c_clear_da8c8 : MethodName := ⟨RJx4a65c, "clear", "()V"⟩
abbrev cJx4a65c_rangeCheckForAdd_d00df : ByteArray := prog_20_method_45_code
def yJx4a65c_rangeCheckForAdd_d00df : MethodName := ⟨RJx4a65c, "rangeCheckForAdd", "(I)V"⟩
def RJ7 : String := "java/util/Arrays"
abbrev cJ7_fill_53178 : ByteArray := prog_21_method_103_code
def yJ7_fill_53178 : MethodName := ⟨RJ7, "fill", "([II)V"⟩
abbrev cJ7_copyOf_1904c : ByteArray := prog_21_method_119_code
def yJ7_copyOf_1904c : MethodName := ⟨RJ7, "copyOf", "([Ljava/lang/Object;I)[Ljava/lang/Object;"⟩
abbrev cJ7_copyOf_6403c : ByteArray := prog_21_method_120_code
def yJ7_copyOf_6403c : MethodName := ⟨RJ7, "copyOf", "([Ljava/lang/Object;ILjava/lang/Class;)[Ljava/lang/Object;"⟩
abbrev cJ7_copyOf_59c91 : ByteArray := prog_21_method_123_code
def yJ7_copyOf_59c91 : MethodName := ⟨RJ7, "copyOf", "([II)[I"⟩
def RJx5ef63 : String := "java/util/Collection"
def RJxbd725 : String := "java/util/List"
def RJ15 : String := "java/util/Objects"
abbrev cJ15_checkIndex_7cf53 : ByteArray := prog_24_method_17_code
def yJ15_checkIndex_7cf53 : MethodName := ⟨RJ15, "checkIndex", "(II)I"⟩
def RJxf0a74 : String := "java/util/RandomAccess"
def RJxa66e6 : String := "java/util/SequencedCollection"
def RJ8 : String := "jdk/internal/util/ArraysSupport"
abbrev cJ8_newLength_cabcc : ByteArray := prog_27_method_27_code
def yJ8_newLength_cabcc : MethodName := ⟨RJ8, "newLength", "(III)I"⟩
abbrev cJ8_hugeLength_7cf53 : ByteArray := prog_27_method_28_code
def yJ8_hugeLength_7cf53 : MethodName := ⟨RJ8, "hugeLength", "(II)I"⟩
def RJ3 : String := "jdk/internal/util/Preconditions"
abbrev cJ3_checkIndex_8e157 : ByteArray := prog_28_method_11_code
def yJ3_checkIndex_8e157 : MethodName := ⟨RJ3, "checkIndex", "(IILjava/util/function/BiFunction;)I"⟩
def RL : String := "GalleyConvoyLaw"
abbrev cL_law : ByteArray := code
def yL_law : MethodName := ⟨RL, "law", "([I)Z"⟩

/-! the classes whose objects the worlds hold, by number -/
def RR : Nat → String := fun c => match c with
  | 0 => RX0 | 1 => RX1 | 2 => RX2 | 3 => RX3 | 4 => RX4 | 5 => RX5 | 6 => RX6 | 7 => RX7 | _ => RJx4a65c
def TT : Nat → u_T := fun c => match c with
  | 0 => TX0 | 1 => TX1 | 2 => TX2 | 3 => TX3 | 4 => TX4 | 5 => TX5 | 6 => TX6 | 7 => TX7 | _ => TJx4a65c
def tyT : Nat → Nat → FieldType := fun c => match c with
  | 0 => tyX0 | 1 => tyX1 | 2 => tyX2 | 3 => tyX3 | 4 => tyX4 | 5 => tyX5 | 6 => tyX6 | 7 => tyX7 | _ => tyJx4a65c
def nF : Nat → Nat := fun c => match c with
  | 0 => 13 | 1 => 18 | 2 => 7 | 3 => 2 | 4 => 2 | 5 => 3 | 6 => 14 | 7 => 55 | _ => 3
def isI (c k : Nat) : Bool := match tyT c k with
  | .int => true | .boolean => true | _ => false
def CL : List vw_C := (List.range 9).map fun c => (RR c, TT c, nF c)
theorem CL_at {c : Nat} (h : c < 9) : CL[c]? = some (RR c, TT c, nF c) := by
  unfold CL
  rw [List.getElem?_map, List.getElem?_range h]
  rfl
theorem cls9 {P : Nat → Prop} (h0 : P 0) (h1 : P 1) (h2 : P 2) (h3 : P 3) (h4 : P 4) (h5 : P 5) (h6 : P 6) (h7 : P 7) (h8 : P 8) : ∀ c, c < 9 → P c := by
  intro c hc
  rcases (show c = 0 ∨ c = 1 ∨ c = 2 ∨ c = 3 ∨ c = 4 ∨ c = 5 ∨ c = 6 ∨ c = 7 ∨ c = 8 by omega) with h | h | h | h | h | h | h | h | h <;> subst h <;> assumption
theorem cls_nm : ∀ c, c < 9 → ∀ a, a < nF c → ∀ b, b < nF c → a ≠ b → (TT c a).2.1 ≠ (TT c b).2.1 := cls9 nmX0 nmX1 nmX2 nmX3 nmX4 nmX5 nmX6 nmX7 nmJx4a65c
theorem cls_ty : ∀ c, c < 9 → ∀ k, k < nF c → parseFieldDescriptor (TT c k).2.2.1 = some (tyT c k) := cls9 tyX0_ok tyX1_ok tyX2_ok tyX3_ok tyX4_ok tyX5_ok tyX6_ok tyX7_ok tyJx4a65c_ok
set_option maxRecDepth 20000 in
theorem cls_in_0 : ∀ w ∈ u_ws (RR 0) (TT 0) (nF 0), w ∈ TBL := by
  have h : u_ws (RR 0) (TT 0) (nF 0) = ([476, 478, 480, 482, 484, 486, 488, 490, 492, 494, 496, 498, 500] : List Nat).filterMap (fun i => lw_tbl[i]?) ∧ (u_ws (RR 0) (TT 0) (nF 0)).all goodWord = true := by decide +kernel
  intro w hw
  have hg := List.all_eq_true.mp h.2 w hw
  rw [h.1] at hw
  obtain ⟨i, -, hi⟩ := List.mem_filterMap.mp hw
  exact tbl_in i hi hg
set_option maxRecDepth 20000 in
theorem cls_in_1 : ∀ w ∈ u_ws (RR 1) (TT 1) (nF 1), w ∈ TBL := by
  have h : u_ws (RR 1) (TT 1) (nF 1) = ([307, 309, 311, 313, 315, 317, 319, 321, 323, 325, 327, 329, 331, 333, 335, 337, 339, 341] : List Nat).filterMap (fun i => lw_tbl[i]?) ∧ (u_ws (RR 1) (TT 1) (nF 1)).all goodWord = true := by decide +kernel
  intro w hw
  have hg := List.all_eq_true.mp h.2 w hw
  rw [h.1] at hw
  obtain ⟨i, -, hi⟩ := List.mem_filterMap.mp hw
  exact tbl_in i hi hg
set_option maxRecDepth 20000 in
theorem cls_in_2 : ∀ w ∈ u_ws (RR 2) (TT 2) (nF 2), w ∈ TBL := by
  have h : u_ws (RR 2) (TT 2) (nF 2) = ([149, 151, 153, 155, 157, 159, 161] : List Nat).filterMap (fun i => lw_tbl[i]?) ∧ (u_ws (RR 2) (TT 2) (nF 2)).all goodWord = true := by decide +kernel
  intro w hw
  have hg := List.all_eq_true.mp h.2 w hw
  rw [h.1] at hw
  obtain ⟨i, -, hi⟩ := List.mem_filterMap.mp hw
  exact tbl_in i hi hg
set_option maxRecDepth 20000 in
theorem cls_in_3 : ∀ w ∈ u_ws (RR 3) (TT 3) (nF 3), w ∈ TBL := by
  have h : u_ws (RR 3) (TT 3) (nF 3) = ([136, 138] : List Nat).filterMap (fun i => lw_tbl[i]?) ∧ (u_ws (RR 3) (TT 3) (nF 3)).all goodWord = true := by decide +kernel
  intro w hw
  have hg := List.all_eq_true.mp h.2 w hw
  rw [h.1] at hw
  obtain ⟨i, -, hi⟩ := List.mem_filterMap.mp hw
  exact tbl_in i hi hg
set_option maxRecDepth 20000 in
theorem cls_in_4 : ∀ w ∈ u_ws (RR 4) (TT 4) (nF 4), w ∈ TBL := by
  have h : u_ws (RR 4) (TT 4) (nF 4) = ([172, 174] : List Nat).filterMap (fun i => lw_tbl[i]?) ∧ (u_ws (RR 4) (TT 4) (nF 4)).all goodWord = true := by decide +kernel
  intro w hw
  have hg := List.all_eq_true.mp h.2 w hw
  rw [h.1] at hw
  obtain ⟨i, -, hi⟩ := List.mem_filterMap.mp hw
  exact tbl_in i hi hg
set_option maxRecDepth 20000 in
theorem cls_in_5 : ∀ w ∈ u_ws (RR 5) (TT 5) (nF 5), w ∈ TBL := by
  have h : u_ws (RR 5) (TT 5) (nF 5) = ([667, 669, 671] : List Nat).filterMap (fun i => lw_tbl[i]?) ∧ (u_ws (RR 5) (TT 5) (nF 5)).all goodWord = true := by decide +kernel
  intro w hw
  have hg := List.all_eq_true.mp h.2 w hw
  rw [h.1] at hw
  obtain ⟨i, -, hi⟩ := List.mem_filterMap.mp hw
  exact tbl_in i hi hg
set_option maxRecDepth 20000 in
theorem cls_in_6 : ∀ w ∈ u_ws (RR 6) (TT 6) (nF 6), w ∈ TBL := by
  have h : u_ws (RR 6) (TT 6) (nF 6) = ([191, 193, 195, 197, 199, 201, 203, 205, 207, 209, 211, 213, 215, 217] : List Nat).filterMap (fun i => lw_tbl[i]?) ∧ (u_ws (RR 6) (TT 6) (nF 6)).all goodWord = true := by decide +kernel
  intro w hw
  have hg := List.all_eq_true.mp h.2 w hw
  rw [h.1] at hw
  obtain ⟨i, -, hi⟩ := List.mem_filterMap.mp hw
  exact tbl_in i hi hg
set_option maxRecDepth 20000 in
theorem cls_in_7 : ∀ w ∈ u_ws (RR 7) (TT 7) (nF 7), w ∈ TBL := by
  have h : u_ws (RR 7) (TT 7) (nF 7) = ([905, 907, 909, 911, 913, 915, 917, 919, 921, 923, 925, 927, 929, 931, 933, 935, 937, 939, 941, 943, 945, 947, 949, 951, 953, 955, 957, 959, 961, 963, 965, 967, 969, 971, 973, 975, 977, 979, 981, 983, 985, 987, 989, 991, 993, 995, 997, 999, 1001, 1003, 1005, 1007, 1009, 1011, 1013] : List Nat).filterMap (fun i => lw_tbl[i]?) ∧ (u_ws (RR 7) (TT 7) (nF 7)).all goodWord = true := by decide +kernel
  intro w hw
  have hg := List.all_eq_true.mp h.2 w hw
  rw [h.1] at hw
  obtain ⟨i, -, hi⟩ := List.mem_filterMap.mp hw
  exact tbl_in i hi hg
set_option maxRecDepth 20000 in
theorem cls_in_8 : ∀ w ∈ u_ws (RR 8) (TT 8) (nF 8), w ∈ TBL := by
  have h : u_ws (RR 8) (TT 8) (nF 8) = ([116, 112, 114] : List Nat).filterMap (fun i => lw_tbl[i]?) ∧ (u_ws (RR 8) (TT 8) (nF 8)).all goodWord = true := by decide +kernel
  intro w hw
  have hg := List.all_eq_true.mp h.2 w hw
  rw [h.1] at hw
  obtain ⟨i, -, hi⟩ := List.mem_filterMap.mp hw
  exact tbl_in i hi hg
theorem cls_in : ∀ c, c < 9 → ∀ w ∈ u_ws (RR c) (TT c) (nF c), w ∈ TBL := cls9 cls_in_0 cls_in_1 cls_in_2 cls_in_3 cls_in_4 cls_in_5 cls_in_6 cls_in_7 cls_in_8
end
section
theorem dX0_init_0 : decode cX0_init 0 = .ok (.aload_n 0, 1) := by decide +kernel
theorem dX0_init_1 : decode cX0_init 1 = .ok (.invokespecial 3, 3) := by decide +kernel
theorem dX0_init_4 : decode cX0_init 4 = .ok (.aload_n 0, 1) := by decide +kernel
theorem dX0_init_5 : decode cX0_init 5 = .ok (.iconst 0, 1) := by decide +kernel
theorem dX0_init_6 : decode cX0_init 6 = .ok (.putfield 9, 3) := by decide +kernel
theorem dX0_init_9 : decode cX0_init 9 = .ok (.aload_n 0, 1) := by decide +kernel
theorem dX0_init_10 : decode cX0_init 10 = .ok (.iconst (-1), 1) := by decide +kernel
theorem dX0_init_11 : decode cX0_init 11 = .ok (.putfield 15, 3) := by decide +kernel
theorem dX0_init_14 : decode cX0_init 14 = .ok (.aload_n 0, 1) := by decide +kernel
theorem dX0_init_15 : decode cX0_init 15 = .ok (.iload_n 1, 1) := by decide +kernel
theorem dX0_init_16 : decode cX0_init 16 = .ok (.putfield 18, 3) := by decide +kernel
theorem dX0_init_19 : decode cX0_init 19 = .ok (.aload_n 0, 1) := by decide +kernel
theorem dX0_init_20 : decode cX0_init 20 = .ok (.iload_n 2, 1) := by decide +kernel
theorem dX0_init_21 : decode cX0_init 21 = .ok (.bipush 100, 2) := by decide +kernel
theorem dX0_init_23 : decode cX0_init 23 = .ok (.idiv, 1) := by decide +kernel
theorem dX0_init_24 : decode cX0_init 24 = .ok (.putfield 21, 3) := by decide +kernel
theorem dX0_init_27 : decode cX0_init 27 = .ok (.aload_n 0, 1) := by decide +kernel
theorem dX0_init_28 : decode cX0_init 28 = .ok (.iload_n 2, 1) := by decide +kernel
theorem dX0_init_29 : decode cX0_init 29 = .ok (.bipush 100, 2) := by decide +kernel
theorem dX0_init_31 : decode cX0_init 31 = .ok (.irem, 1) := by decide +kernel
theorem dX0_init_32 : decode cX0_init 32 = .ok (.putfield 24, 3) := by decide +kernel
theorem dX0_init_35 : decode cX0_init 35 = .ok (.aload_n 0, 1) := by decide +kernel
theorem dX0_init_36 : decode cX0_init 36 = .ok (.iload_n 3, 1) := by decide +kernel
theorem dX0_init_37 : decode cX0_init 37 = .ok (.ldc 27, 2) := by decide +kernel
theorem dX0_init_39 : decode cX0_init 39 = .ok (.idiv, 1) := by decide +kernel
theorem dX0_init_40 : decode cX0_init 40 = .ok (.putfield 28, 3) := by decide +kernel
theorem dX0_init_43 : decode cX0_init 43 = .ok (.aload_n 0, 1) := by decide +kernel
theorem dX0_init_44 : decode cX0_init 44 = .ok (.iload_n 3, 1) := by decide +kernel
theorem dX0_init_45 : decode cX0_init 45 = .ok (.sipush 1000, 3) := by decide +kernel
theorem dX0_init_48 : decode cX0_init 48 = .ok (.idiv, 1) := by decide +kernel
theorem dX0_init_49 : decode cX0_init 49 = .ok (.sipush 1000, 3) := by decide +kernel
theorem dX0_init_52 : decode cX0_init 52 = .ok (.irem, 1) := by decide +kernel
theorem dX0_init_53 : decode cX0_init 53 = .ok (.putfield 31, 3) := by decide +kernel
theorem dX0_init_56 : decode cX0_init 56 = .ok (.aload_n 0, 1) := by decide +kernel
theorem dX0_init_57 : decode cX0_init 57 = .ok (.iload_n 3, 1) := by decide +kernel
theorem dX0_init_58 : decode cX0_init 58 = .ok (.sipush 1000, 3) := by decide +kernel
theorem dX0_init_61 : decode cX0_init 61 = .ok (.irem, 1) := by decide +kernel
theorem dX0_init_62 : decode cX0_init 62 = .ok (.putfield 34, 3) := by decide +kernel
theorem dX0_init_65 : decode cX0_init 65 = .ok (.aload_n 0, 1) := by decide +kernel
theorem dX0_init_66 : decode cX0_init 66 = .ok (.iload 4, 2) := by decide +kernel
theorem dX0_init_68 : decode cX0_init 68 = .ok (.sipush 1000, 3) := by decide +kernel
theorem dX0_init_71 : decode cX0_init 71 = .ok (.idiv, 1) := by decide +kernel
theorem dX0_init_72 : decode cX0_init 72 = .ok (.putfield 37, 3) := by decide +kernel
theorem dX0_init_75 : decode cX0_init 75 = .ok (.aload_n 0, 1) := by decide +kernel
theorem dX0_init_76 : decode cX0_init 76 = .ok (.iload 4, 2) := by decide +kernel
theorem dX0_init_78 : decode cX0_init 78 = .ok (.sipush 1000, 3) := by decide +kernel
theorem dX0_init_81 : decode cX0_init 81 = .ok (.irem, 1) := by decide +kernel
theorem dX0_init_82 : decode cX0_init 82 = .ok (.putfield 40, 3) := by decide +kernel
theorem dX0_init_85 : decode cX0_init 85 = .ok (.aload_n 0, 1) := by decide +kernel
theorem dX0_init_86 : decode cX0_init 86 = .ok (.iload 5, 2) := by decide +kernel
theorem dX0_init_88 : decode cX0_init 88 = .ok (.putfield 43, 3) := by decide +kernel
theorem dX0_init_91 : decode cX0_init 91 = .ok (.aload_n 0, 1) := by decide +kernel
theorem dX0_init_92 : decode cX0_init 92 = .ok (.iload 5, 2) := by decide +kernel
theorem dX0_init_94 : decode cX0_init 94 = .ok (.putfield 46, 3) := by decide +kernel
theorem dX0_init_97 : decode cX0_init 97 = .ok (.return_, 1) := by decide +kernel
theorem dX0_isAboard_0 : decode cX0_isAboard 0 = .ok (.aload_n 0, 1) := by decide +kernel
theorem dX0_isAboard_1 : decode cX0_isAboard 1 = .ok (.getfield 9, 3) := by decide +kernel
theorem dX0_isAboard_4 : decode cX0_isAboard 4 = .ok (.iconst 1, 1) := by decide +kernel
theorem dX0_isAboard_5 : decode cX0_isAboard 5 = .ok (.if_icmp .ne 18, 3) := by decide +kernel
theorem dX0_isAboard_8 : decode cX0_isAboard 8 = .ok (.aload_n 0, 1) := by decide +kernel
theorem dX0_isAboard_9 : decode cX0_isAboard 9 = .ok (.getfield 15, 3) := by decide +kernel
theorem dX0_isAboard_12 : decode cX0_isAboard 12 = .ok (.aload_n 1, 1) := by decide +kernel
theorem dX0_isAboard_13 : decode cX0_isAboard 13 = .ok (.getfield 49, 3) := by decide +kernel
theorem dX0_isAboard_16 : decode cX0_isAboard 16 = .ok (.if_icmp .ne 7, 3) := by decide +kernel
theorem dX0_isAboard_19 : decode cX0_isAboard 19 = .ok (.iconst 1, 1) := by decide +kernel
theorem dX0_isAboard_20 : decode cX0_isAboard 20 = .ok (.goto 4, 3) := by decide +kernel
theorem dX0_isAboard_23 : decode cX0_isAboard 23 = .ok (.iconst 0, 1) := by decide +kernel
theorem dX0_isAboard_24 : decode cX0_isAboard 24 = .ok (.ireturn, 1) := by decide +kernel
theorem dX0_turn_0 : decode cX0_turn 0 = .ok (.aload_n 0, 1) := by decide +kernel
theorem dX0_turn_1 : decode cX0_turn 1 = .ok (.iload_n 1, 1) := by decide +kernel
theorem dX0_turn_2 : decode cX0_turn 2 = .ok (.putfield 9, 3) := by decide +kernel
theorem dX0_turn_5 : decode cX0_turn 5 = .ok (.aload_n 0, 1) := by decide +kernel
theorem dX0_turn_6 : decode cX0_turn 6 = .ok (.iload_n 2, 1) := by decide +kernel
theorem dX0_turn_7 : decode cX0_turn 7 = .ok (.putfield 46, 3) := by decide +kernel
theorem dX0_turn_10 : decode cX0_turn 10 = .ok (.return_, 1) := by decide +kernel
theorem dX0_tell_0 : decode cX0_tell 0 = .ok (.iload_n 1, 1) := by decide +kernel
theorem dX0_tell_1 : decode cX0_tell 1 = .ok (.tableswitch 123 0 11 #[63, 68, 73, 78, 83, 88, 93, 98, 103, 108, 113, 118], 63) := by decide +kernel
theorem dX0_tell_64 : decode cX0_tell 64 = .ok (.aload_n 0, 1) := by decide +kernel
theorem dX0_tell_65 : decode cX0_tell 65 = .ok (.getfield 18, 3) := by decide +kernel
theorem dX0_tell_68 : decode cX0_tell 68 = .ok (.ireturn, 1) := by decide +kernel
theorem dX0_tell_69 : decode cX0_tell 69 = .ok (.aload_n 0, 1) := by decide +kernel
theorem dX0_tell_70 : decode cX0_tell 70 = .ok (.getfield 21, 3) := by decide +kernel
theorem dX0_tell_73 : decode cX0_tell 73 = .ok (.ireturn, 1) := by decide +kernel
theorem dX0_tell_74 : decode cX0_tell 74 = .ok (.aload_n 0, 1) := by decide +kernel
theorem dX0_tell_75 : decode cX0_tell 75 = .ok (.getfield 24, 3) := by decide +kernel
theorem dX0_tell_78 : decode cX0_tell 78 = .ok (.ireturn, 1) := by decide +kernel
theorem dX0_tell_79 : decode cX0_tell 79 = .ok (.aload_n 0, 1) := by decide +kernel
theorem dX0_tell_80 : decode cX0_tell 80 = .ok (.getfield 28, 3) := by decide +kernel
theorem dX0_tell_83 : decode cX0_tell 83 = .ok (.ireturn, 1) := by decide +kernel
theorem dX0_tell_84 : decode cX0_tell 84 = .ok (.aload_n 0, 1) := by decide +kernel
theorem dX0_tell_85 : decode cX0_tell 85 = .ok (.getfield 31, 3) := by decide +kernel
theorem dX0_tell_88 : decode cX0_tell 88 = .ok (.ireturn, 1) := by decide +kernel
theorem dX0_tell_89 : decode cX0_tell 89 = .ok (.aload_n 0, 1) := by decide +kernel
theorem dX0_tell_90 : decode cX0_tell 90 = .ok (.getfield 34, 3) := by decide +kernel
theorem dX0_tell_93 : decode cX0_tell 93 = .ok (.ireturn, 1) := by decide +kernel
theorem dX0_tell_94 : decode cX0_tell 94 = .ok (.aload_n 0, 1) := by decide +kernel
theorem dX0_tell_95 : decode cX0_tell 95 = .ok (.getfield 37, 3) := by decide +kernel
theorem dX0_tell_98 : decode cX0_tell 98 = .ok (.ireturn, 1) := by decide +kernel
theorem dX0_tell_99 : decode cX0_tell 99 = .ok (.aload_n 0, 1) := by decide +kernel
theorem dX0_tell_100 : decode cX0_tell 100 = .ok (.getfield 40, 3) := by decide +kernel
theorem dX0_tell_103 : decode cX0_tell 103 = .ok (.ireturn, 1) := by decide +kernel
theorem dX0_tell_104 : decode cX0_tell 104 = .ok (.aload_n 0, 1) := by decide +kernel
theorem dX0_tell_105 : decode cX0_tell 105 = .ok (.getfield 43, 3) := by decide +kernel
theorem dX0_tell_108 : decode cX0_tell 108 = .ok (.ireturn, 1) := by decide +kernel
theorem dX0_tell_109 : decode cX0_tell 109 = .ok (.aload_n 0, 1) := by decide +kernel
theorem dX0_tell_110 : decode cX0_tell 110 = .ok (.getfield 9, 3) := by decide +kernel
theorem dX0_tell_113 : decode cX0_tell 113 = .ok (.ireturn, 1) := by decide +kernel
theorem dX0_tell_114 : decode cX0_tell 114 = .ok (.aload_n 0, 1) := by decide +kernel
theorem dX0_tell_115 : decode cX0_tell 115 = .ok (.getfield 15, 3) := by decide +kernel
theorem dX0_tell_118 : decode cX0_tell 118 = .ok (.ireturn, 1) := by decide +kernel
theorem dX0_tell_119 : decode cX0_tell 119 = .ok (.aload_n 0, 1) := by decide +kernel
theorem dX0_tell_120 : decode cX0_tell 120 = .ok (.getfield 46, 3) := by decide +kernel
theorem dX0_tell_123 : decode cX0_tell 123 = .ok (.ireturn, 1) := by decide +kernel
theorem dX0_tell_124 : decode cX0_tell 124 = .ok (.iconst (-1), 1) := by decide +kernel
theorem dX0_tell_125 : decode cX0_tell 125 = .ok (.ireturn, 1) := by decide +kernel
theorem dX1_init_0 : decode cX1_init 0 = .ok (.aload_n 0, 1) := by decide +kernel
theorem dX1_init_1 : decode cX1_init 1 = .ok (.invokespecial 3, 3) := by decide +kernel
theorem dX1_init_4 : decode cX1_init 4 = .ok (.aload_n 0, 1) := by decide +kernel
theorem dX1_init_5 : decode cX1_init 5 = .ok (.bipush 11, 2) := by decide +kernel
theorem dX1_init_7 : decode cX1_init 7 = .ok (.newarray .int, 2) := by decide +kernel
theorem dX1_init_9 : decode cX1_init 9 = .ok (.putfield 9, 3) := by decide +kernel
theorem dX1_init_12 : decode cX1_init 12 = .ok (.aload_n 0, 1) := by decide +kernel
theorem dX1_init_13 : decode cX1_init 13 = .ok (.iconst 0, 1) := by decide +kernel
theorem dX1_init_14 : decode cX1_init 14 = .ok (.putfield 15, 3) := by decide +kernel
theorem dX1_init_17 : decode cX1_init 17 = .ok (.aload_n 0, 1) := by decide +kernel
theorem dX1_init_18 : decode cX1_init 18 = .ok (.iconst (-1), 1) := by decide +kernel
theorem dX1_init_19 : decode cX1_init 19 = .ok (.putfield 19, 3) := by decide +kernel
theorem dX1_init_22 : decode cX1_init 22 = .ok (.aload_n 0, 1) := by decide +kernel
theorem dX1_init_23 : decode cX1_init 23 = .ok (.iconst (-1), 1) := by decide +kernel
theorem dX1_init_24 : decode cX1_init 24 = .ok (.putfield 22, 3) := by decide +kernel
theorem dX1_init_27 : decode cX1_init 27 = .ok (.aload_n 0, 1) := by decide +kernel
theorem dX1_init_28 : decode cX1_init 28 = .ok (.iload_n 1, 1) := by decide +kernel
theorem dX1_init_29 : decode cX1_init 29 = .ok (.putfield 25, 3) := by decide +kernel
theorem dX1_init_32 : decode cX1_init 32 = .ok (.aload_n 0, 1) := by decide +kernel
theorem dX1_init_33 : decode cX1_init 33 = .ok (.iload_n 2, 1) := by decide +kernel
theorem dX1_init_34 : decode cX1_init 34 = .ok (.putfield 28, 3) := by decide +kernel
theorem dX1_init_37 : decode cX1_init 37 = .ok (.aload_n 0, 1) := by decide +kernel
theorem dX1_init_38 : decode cX1_init 38 = .ok (.iload_n 3, 1) := by decide +kernel
theorem dX1_init_39 : decode cX1_init 39 = .ok (.putfield 31, 3) := by decide +kernel
theorem dX1_init_42 : decode cX1_init 42 = .ok (.aload_n 0, 1) := by decide +kernel
theorem dX1_init_43 : decode cX1_init 43 = .ok (.iload 4, 2) := by decide +kernel
theorem dX1_init_45 : decode cX1_init 45 = .ok (.putfield 34, 3) := by decide +kernel
theorem dX1_init_48 : decode cX1_init 48 = .ok (.aload_n 0, 1) := by decide +kernel
theorem dX1_init_49 : decode cX1_init 49 = .ok (.iload 5, 2) := by decide +kernel
theorem dX1_init_51 : decode cX1_init 51 = .ok (.putfield 37, 3) := by decide +kernel
theorem dX1_init_54 : decode cX1_init 54 = .ok (.aload_n 0, 1) := by decide +kernel
theorem dX1_init_55 : decode cX1_init 55 = .ok (.getfield 9, 3) := by decide +kernel
theorem dX1_init_58 : decode cX1_init 58 = .ok (.bipush 10, 2) := by decide +kernel
theorem dX1_init_60 : decode cX1_init 60 = .ok (.bipush 24, 2) := by decide +kernel
theorem dX1_init_62 : decode cX1_init 62 = .ok (.iastore, 1) := by decide +kernel
theorem dX1_init_63 : decode cX1_init 63 = .ok (.return_, 1) := by decide +kernel
theorem dX1_letTo_0 : decode cX1_letTo 0 = .ok (.aload_n 0, 1) := by decide +kernel
theorem dX1_letTo_1 : decode cX1_letTo 1 = .ok (.getfield 9, 3) := by decide +kernel
theorem dX1_letTo_4 : decode cX1_letTo 4 = .ok (.bipush 10, 2) := by decide +kernel
theorem dX1_letTo_6 : decode cX1_letTo 6 = .ok (.iconst 0, 1) := by decide +kernel
theorem dX1_letTo_7 : decode cX1_letTo 7 = .ok (.iastore, 1) := by decide +kernel
theorem dX1_letTo_8 : decode cX1_letTo 8 = .ok (.aload_n 0, 1) := by decide +kernel
theorem dX1_letTo_9 : decode cX1_letTo 9 = .ok (.getfield 9, 3) := by decide +kernel
theorem dX1_letTo_12 : decode cX1_letTo 12 = .ok (.iload_n 1, 1) := by decide +kernel
theorem dX1_letTo_13 : decode cX1_letTo 13 = .ok (.bipush 24, 2) := by decide +kernel
theorem dX1_letTo_15 : decode cX1_letTo 15 = .ok (.iastore, 1) := by decide +kernel
theorem dX1_letTo_16 : decode cX1_letTo 16 = .ok (.aload_n 0, 1) := by decide +kernel
theorem dX1_letTo_17 : decode cX1_letTo 17 = .ok (.iconst 1, 1) := by decide +kernel
theorem dX1_letTo_18 : decode cX1_letTo 18 = .ok (.putfield 40, 3) := by decide +kernel
theorem dX1_letTo_21 : decode cX1_letTo 21 = .ok (.return_, 1) := by decide +kernel
theorem dX1_comeTo_0 : decode cX1_comeTo 0 = .ok (.aload_n 0, 1) := by decide +kernel
theorem dX1_comeTo_1 : decode cX1_comeTo 1 = .ok (.iconst 1, 1) := by decide +kernel
theorem dX1_comeTo_2 : decode cX1_comeTo 2 = .ok (.putfield 15, 3) := by decide +kernel
theorem dX1_comeTo_5 : decode cX1_comeTo 5 = .ok (.aload_n 0, 1) := by decide +kernel
theorem dX1_comeTo_6 : decode cX1_comeTo 6 = .ok (.iload_n 1, 1) := by decide +kernel
theorem dX1_comeTo_7 : decode cX1_comeTo 7 = .ok (.putfield 19, 3) := by decide +kernel
theorem dX1_comeTo_10 : decode cX1_comeTo 10 = .ok (.aload_n 0, 1) := by decide +kernel
theorem dX1_comeTo_11 : decode cX1_comeTo 11 = .ok (.iload_n 2, 1) := by decide +kernel
theorem dX1_comeTo_12 : decode cX1_comeTo 12 = .ok (.putfield 22, 3) := by decide +kernel
theorem dX1_comeTo_15 : decode cX1_comeTo 15 = .ok (.aload_n 0, 1) := by decide +kernel
theorem dX1_comeTo_16 : decode cX1_comeTo 16 = .ok (.iconst 0, 1) := by decide +kernel
theorem dX1_comeTo_17 : decode cX1_comeTo 17 = .ok (.putfield 44, 3) := by decide +kernel
theorem dX1_comeTo_20 : decode cX1_comeTo 20 = .ok (.return_, 1) := by decide +kernel
theorem dX1_putToSea_0 : decode cX1_putToSea 0 = .ok (.aload_n 0, 1) := by decide +kernel
theorem dX1_putToSea_1 : decode cX1_putToSea 1 = .ok (.iconst 2, 1) := by decide +kernel
theorem dX1_putToSea_2 : decode cX1_putToSea 2 = .ok (.putfield 15, 3) := by decide +kernel
theorem dX1_putToSea_5 : decode cX1_putToSea 5 = .ok (.aload_n 0, 1) := by decide +kernel
theorem dX1_putToSea_6 : decode cX1_putToSea 6 = .ok (.dup, 1) := by decide +kernel
theorem dX1_putToSea_7 : decode cX1_putToSea 7 = .ok (.getfield 19, 3) := by decide +kernel
theorem dX1_putToSea_10 : decode cX1_putToSea 10 = .ok (.iconst 1, 1) := by decide +kernel
theorem dX1_putToSea_11 : decode cX1_putToSea 11 = .ok (.iadd, 1) := by decide +kernel
theorem dX1_putToSea_12 : decode cX1_putToSea 12 = .ok (.putfield 19, 3) := by decide +kernel
theorem dX1_putToSea_15 : decode cX1_putToSea 15 = .ok (.aload_n 0, 1) := by decide +kernel
theorem dX1_putToSea_16 : decode cX1_putToSea 16 = .ok (.iload_n 1, 1) := by decide +kernel
theorem dX1_putToSea_17 : decode cX1_putToSea 17 = .ok (.putfield 22, 3) := by decide +kernel
theorem dX1_putToSea_20 : decode cX1_putToSea 20 = .ok (.aload_n 0, 1) := by decide +kernel
theorem dX1_putToSea_21 : decode cX1_putToSea 21 = .ok (.iconst 0, 1) := by decide +kernel
theorem dX1_putToSea_22 : decode cX1_putToSea 22 = .ok (.putfield 44, 3) := by decide +kernel
theorem dX1_putToSea_25 : decode cX1_putToSea 25 = .ok (.return_, 1) := by decide +kernel
theorem dX1_canTake_0 : decode cX1_canTake 0 = .ok (.aload_n 0, 1) := by decide +kernel
theorem dX1_canTake_1 : decode cX1_canTake 1 = .ok (.getfield 47, 3) := by decide +kernel
theorem dX1_canTake_4 : decode cX1_canTake 4 = .ok (.aload_n 1, 1) := by decide +kernel
theorem dX1_canTake_5 : decode cX1_canTake 5 = .ok (.getfield 50, 3) := by decide +kernel
theorem dX1_canTake_8 : decode cX1_canTake 8 = .ok (.iadd, 1) := by decide +kernel
theorem dX1_canTake_9 : decode cX1_canTake 9 = .ok (.aload_n 0, 1) := by decide +kernel
theorem dX1_canTake_10 : decode cX1_canTake 10 = .ok (.getfield 28, 3) := by decide +kernel
theorem dX1_canTake_13 : decode cX1_canTake 13 = .ok (.if_icmp .gt 49, 3) := by decide +kernel
theorem dX1_canTake_16 : decode cX1_canTake 16 = .ok (.aload_n 0, 1) := by decide +kernel
theorem dX1_canTake_17 : decode cX1_canTake 17 = .ok (.getfield 53, 3) := by decide +kernel
theorem dX1_canTake_20 : decode cX1_canTake 20 = .ok (.aload_n 1, 1) := by decide +kernel
theorem dX1_canTake_21 : decode cX1_canTake 21 = .ok (.getfield 56, 3) := by decide +kernel
theorem dX1_canTake_24 : decode cX1_canTake 24 = .ok (.iadd, 1) := by decide +kernel
theorem dX1_canTake_25 : decode cX1_canTake 25 = .ok (.aload_n 0, 1) := by decide +kernel
theorem dX1_canTake_26 : decode cX1_canTake 26 = .ok (.getfield 31, 3) := by decide +kernel
theorem dX1_canTake_29 : decode cX1_canTake 29 = .ok (.if_icmp .gt 33, 3) := by decide +kernel
theorem dX1_canTake_32 : decode cX1_canTake 32 = .ok (.aload_n 1, 1) := by decide +kernel
theorem dX1_canTake_33 : decode cX1_canTake 33 = .ok (.getfield 59, 3) := by decide +kernel
theorem dX1_canTake_36 : decode cX1_canTake 36 = .ok (.iconst 1, 1) := by decide +kernel
theorem dX1_canTake_37 : decode cX1_canTake 37 = .ok (.if_icmp .ne 21, 3) := by decide +kernel
theorem dX1_canTake_40 : decode cX1_canTake 40 = .ok (.aload_n 0, 1) := by decide +kernel
theorem dX1_canTake_41 : decode cX1_canTake 41 = .ok (.getfield 62, 3) := by decide +kernel
theorem dX1_canTake_44 : decode cX1_canTake 44 = .ok (.aload_n 1, 1) := by decide +kernel
theorem dX1_canTake_45 : decode cX1_canTake 45 = .ok (.getfield 56, 3) := by decide +kernel
theorem dX1_canTake_48 : decode cX1_canTake 48 = .ok (.iadd, 1) := by decide +kernel
theorem dX1_canTake_49 : decode cX1_canTake 49 = .ok (.aload_n 0, 1) := by decide +kernel
theorem dX1_canTake_50 : decode cX1_canTake 50 = .ok (.getfield 31, 3) := by decide +kernel
theorem dX1_canTake_53 : decode cX1_canTake 53 = .ok (.iconst 2, 1) := by decide +kernel
theorem dX1_canTake_54 : decode cX1_canTake 54 = .ok (.idiv, 1) := by decide +kernel
theorem dX1_canTake_55 : decode cX1_canTake 55 = .ok (.if_icmp .gt 7, 3) := by decide +kernel
theorem dX1_canTake_58 : decode cX1_canTake 58 = .ok (.iconst 1, 1) := by decide +kernel
theorem dX1_canTake_59 : decode cX1_canTake 59 = .ok (.goto 4, 3) := by decide +kernel
theorem dX1_canTake_62 : decode cX1_canTake 62 = .ok (.iconst 0, 1) := by decide +kernel
theorem dX1_canTake_63 : decode cX1_canTake 63 = .ok (.ireturn, 1) := by decide +kernel
theorem dX1_load_0 : decode cX1_load 0 = .ok (.aload_n 0, 1) := by decide +kernel
theorem dX1_load_1 : decode cX1_load 1 = .ok (.aload_n 1, 1) := by decide +kernel
theorem dX1_load_2 : decode cX1_load 2 = .ok (.iconst 1, 1) := by decide +kernel
theorem dX1_load_3 : decode cX1_load 3 = .ok (.invokevirtual 65, 3) := by decide +kernel
theorem dX1_load_6 : decode cX1_load 6 = .ok (.return_, 1) := by decide +kernel
theorem dX1_unload_0 : decode cX1_unload 0 = .ok (.aload_n 0, 1) := by decide +kernel
theorem dX1_unload_1 : decode cX1_unload 1 = .ok (.aload_n 1, 1) := by decide +kernel
theorem dX1_unload_2 : decode cX1_unload 2 = .ok (.iconst (-1), 1) := by decide +kernel
theorem dX1_unload_3 : decode cX1_unload 3 = .ok (.invokevirtual 65, 3) := by decide +kernel
theorem dX1_unload_6 : decode cX1_unload 6 = .ok (.return_, 1) := by decide +kernel
theorem dX1_change_0 : decode cX1_change 0 = .ok (.aload_n 0, 1) := by decide +kernel
theorem dX1_change_1 : decode cX1_change 1 = .ok (.dup, 1) := by decide +kernel
theorem dX1_change_2 : decode cX1_change 2 = .ok (.getfield 69, 3) := by decide +kernel
theorem dX1_change_5 : decode cX1_change 5 = .ok (.iload_n 2, 1) := by decide +kernel
theorem dX1_change_6 : decode cX1_change 6 = .ok (.iadd, 1) := by decide +kernel
theorem dX1_change_7 : decode cX1_change 7 = .ok (.putfield 69, 3) := by decide +kernel
theorem dX1_change_10 : decode cX1_change 10 = .ok (.aload_n 0, 1) := by decide +kernel
theorem dX1_change_11 : decode cX1_change 11 = .ok (.dup, 1) := by decide +kernel
theorem dX1_change_12 : decode cX1_change 12 = .ok (.getfield 47, 3) := by decide +kernel
theorem dX1_change_15 : decode cX1_change 15 = .ok (.iload_n 2, 1) := by decide +kernel
theorem dX1_change_16 : decode cX1_change 16 = .ok (.aload_n 1, 1) := by decide +kernel
theorem dX1_change_17 : decode cX1_change 17 = .ok (.getfield 50, 3) := by decide +kernel
theorem dX1_change_20 : decode cX1_change 20 = .ok (.imul, 1) := by decide +kernel
theorem dX1_change_21 : decode cX1_change 21 = .ok (.iadd, 1) := by decide +kernel
theorem dX1_change_22 : decode cX1_change 22 = .ok (.putfield 47, 3) := by decide +kernel
theorem dX1_change_25 : decode cX1_change 25 = .ok (.aload_n 0, 1) := by decide +kernel
theorem dX1_change_26 : decode cX1_change 26 = .ok (.dup, 1) := by decide +kernel
theorem dX1_change_27 : decode cX1_change 27 = .ok (.getfield 53, 3) := by decide +kernel
theorem dX1_change_30 : decode cX1_change 30 = .ok (.iload_n 2, 1) := by decide +kernel
theorem dX1_change_31 : decode cX1_change 31 = .ok (.aload_n 1, 1) := by decide +kernel
theorem dX1_change_32 : decode cX1_change 32 = .ok (.getfield 56, 3) := by decide +kernel
theorem dX1_change_35 : decode cX1_change 35 = .ok (.imul, 1) := by decide +kernel
theorem dX1_change_36 : decode cX1_change 36 = .ok (.iadd, 1) := by decide +kernel
theorem dX1_change_37 : decode cX1_change 37 = .ok (.putfield 53, 3) := by decide +kernel
theorem dX1_change_40 : decode cX1_change 40 = .ok (.aload_n 1, 1) := by decide +kernel
theorem dX1_change_41 : decode cX1_change 41 = .ok (.getfield 59, 3) := by decide +kernel
theorem dX1_change_44 : decode cX1_change 44 = .ok (.iconst 1, 1) := by decide +kernel
theorem dX1_change_45 : decode cX1_change 45 = .ok (.if_icmp .ne 18, 3) := by decide +kernel
theorem dX1_change_48 : decode cX1_change 48 = .ok (.aload_n 0, 1) := by decide +kernel
theorem dX1_change_49 : decode cX1_change 49 = .ok (.dup, 1) := by decide +kernel
theorem dX1_change_50 : decode cX1_change 50 = .ok (.getfield 62, 3) := by decide +kernel
theorem dX1_change_53 : decode cX1_change 53 = .ok (.iload_n 2, 1) := by decide +kernel
theorem dX1_change_54 : decode cX1_change 54 = .ok (.aload_n 1, 1) := by decide +kernel
theorem dX1_change_55 : decode cX1_change 55 = .ok (.getfield 56, 3) := by decide +kernel
theorem dX1_change_58 : decode cX1_change 58 = .ok (.imul, 1) := by decide +kernel
theorem dX1_change_59 : decode cX1_change 59 = .ok (.iadd, 1) := by decide +kernel
theorem dX1_change_60 : decode cX1_change 60 = .ok (.putfield 62, 3) := by decide +kernel
theorem dX1_change_63 : decode cX1_change 63 = .ok (.return_, 1) := by decide +kernel
theorem dX1_tell_0 : decode cX1_tell 0 = .ok (.iload_n 1, 1) := by decide +kernel
theorem dX1_tell_1 : decode cX1_tell 1 = .ok (.tableswitch 113 0 9 #[55, 60, 65, 70, 75, 80, 85, 90, 95, 100], 55) := by decide +kernel
theorem dX1_tell_56 : decode cX1_tell 56 = .ok (.aload_n 0, 1) := by decide +kernel
theorem dX1_tell_57 : decode cX1_tell 57 = .ok (.getfield 15, 3) := by decide +kernel
theorem dX1_tell_60 : decode cX1_tell 60 = .ok (.ireturn, 1) := by decide +kernel
theorem dX1_tell_61 : decode cX1_tell 61 = .ok (.aload_n 0, 1) := by decide +kernel
theorem dX1_tell_62 : decode cX1_tell 62 = .ok (.getfield 19, 3) := by decide +kernel
theorem dX1_tell_65 : decode cX1_tell 65 = .ok (.ireturn, 1) := by decide +kernel
theorem dX1_tell_66 : decode cX1_tell 66 = .ok (.aload_n 0, 1) := by decide +kernel
theorem dX1_tell_67 : decode cX1_tell 67 = .ok (.getfield 22, 3) := by decide +kernel
theorem dX1_tell_70 : decode cX1_tell 70 = .ok (.ireturn, 1) := by decide +kernel
theorem dX1_tell_71 : decode cX1_tell 71 = .ok (.aload_n 0, 1) := by decide +kernel
theorem dX1_tell_72 : decode cX1_tell 72 = .ok (.getfield 44, 3) := by decide +kernel
theorem dX1_tell_75 : decode cX1_tell 75 = .ok (.ireturn, 1) := by decide +kernel
theorem dX1_tell_76 : decode cX1_tell 76 = .ok (.aload_n 0, 1) := by decide +kernel
theorem dX1_tell_77 : decode cX1_tell 77 = .ok (.getfield 69, 3) := by decide +kernel
theorem dX1_tell_80 : decode cX1_tell 80 = .ok (.ireturn, 1) := by decide +kernel
theorem dX1_tell_81 : decode cX1_tell 81 = .ok (.aload_n 0, 1) := by decide +kernel
theorem dX1_tell_82 : decode cX1_tell 82 = .ok (.getfield 47, 3) := by decide +kernel
theorem dX1_tell_85 : decode cX1_tell 85 = .ok (.ireturn, 1) := by decide +kernel
theorem dX1_tell_86 : decode cX1_tell 86 = .ok (.aload_n 0, 1) := by decide +kernel
theorem dX1_tell_87 : decode cX1_tell 87 = .ok (.getfield 53, 3) := by decide +kernel
theorem dX1_tell_90 : decode cX1_tell 90 = .ok (.ireturn, 1) := by decide +kernel
theorem dX1_tell_91 : decode cX1_tell 91 = .ok (.aload_n 0, 1) := by decide +kernel
theorem dX1_tell_92 : decode cX1_tell 92 = .ok (.getfield 72, 3) := by decide +kernel
theorem dX1_tell_95 : decode cX1_tell 95 = .ok (.ireturn, 1) := by decide +kernel
theorem dX1_tell_96 : decode cX1_tell 96 = .ok (.aload_n 0, 1) := by decide +kernel
theorem dX1_tell_97 : decode cX1_tell 97 = .ok (.getfield 75, 3) := by decide +kernel
theorem dX1_tell_100 : decode cX1_tell 100 = .ok (.ireturn, 1) := by decide +kernel
theorem dX1_tell_101 : decode cX1_tell 101 = .ok (.aload_n 0, 1) := by decide +kernel
theorem dX1_tell_102 : decode cX1_tell 102 = .ok (.getfield 40, 3) := by decide +kernel
theorem dX1_tell_105 : decode cX1_tell 105 = .ok (.ifCond .eq 7, 3) := by decide +kernel
theorem dX1_tell_108 : decode cX1_tell 108 = .ok (.iconst 1, 1) := by decide +kernel
theorem dX1_tell_109 : decode cX1_tell 109 = .ok (.goto 4, 3) := by decide +kernel
theorem dX1_tell_112 : decode cX1_tell 112 = .ok (.iconst 0, 1) := by decide +kernel
theorem dX1_tell_113 : decode cX1_tell 113 = .ok (.ireturn, 1) := by decide +kernel
theorem dX1_tell_114 : decode cX1_tell 114 = .ok (.bipush (-2), 2) := by decide +kernel
theorem dX1_tell_116 : decode cX1_tell 116 = .ok (.ireturn, 1) := by decide +kernel
theorem dX2_init_0 : decode cX2_init 0 = .ok (.aload_n 0, 1) := by decide +kernel
theorem dX2_init_1 : decode cX2_init 1 = .ok (.invokespecial 3, 3) := by decide +kernel
theorem dX2_init_4 : decode cX2_init 4 = .ok (.aload_n 0, 1) := by decide +kernel
theorem dX2_init_5 : decode cX2_init 5 = .ok (.new 9, 3) := by decide +kernel
theorem dX2_init_8 : decode cX2_init 8 = .ok (.dup, 1) := by decide +kernel
theorem dX2_init_9 : decode cX2_init 9 = .ok (.invokespecial 11, 3) := by decide +kernel
theorem dX2_init_12 : decode cX2_init 12 = .ok (.putfield 12, 3) := by decide +kernel
theorem dX2_init_15 : decode cX2_init 15 = .ok (.aload_n 0, 1) := by decide +kernel
theorem dX2_init_16 : decode cX2_init 16 = .ok (.sipush 200, 3) := by decide +kernel
theorem dX2_init_19 : decode cX2_init 19 = .ok (.newarray .int, 2) := by decide +kernel
theorem dX2_init_21 : decode cX2_init 21 = .ok (.putfield 18, 3) := by decide +kernel
theorem dX2_init_24 : decode cX2_init 24 = .ok (.return_, 1) := by decide +kernel
theorem dX2_read_0 : decode cX2_read 0 = .ok (.aload_n 0, 1) := by decide +kernel
theorem dX2_read_1 : decode cX2_read 1 = .ok (.iconst 0, 1) := by decide +kernel
theorem dX2_read_2 : decode cX2_read 2 = .ok (.putfield 22, 3) := by decide +kernel
theorem dX2_read_5 : decode cX2_read 5 = .ok (.aload_n 0, 1) := by decide +kernel
theorem dX2_read_6 : decode cX2_read 6 = .ok (.iconst 0, 1) := by decide +kernel
theorem dX2_read_7 : decode cX2_read 7 = .ok (.putfield 26, 3) := by decide +kernel
theorem dX2_read_10 : decode cX2_read 10 = .ok (.aload_n 0, 1) := by decide +kernel
theorem dX2_read_11 : decode cX2_read 11 = .ok (.invokevirtual 29, 3) := by decide +kernel
theorem dX2_read_14 : decode cX2_read 14 = .ok (.aload_n 0, 1) := by decide +kernel
theorem dX2_read_15 : decode cX2_read 15 = .ok (.iconst 0, 1) := by decide +kernel
theorem dX2_read_16 : decode cX2_read 16 = .ok (.invokevirtual 32, 3) := by decide +kernel
theorem dX2_read_19 : decode cX2_read 19 = .ok (.ifCond .eq 17, 3) := by decide +kernel
theorem dX2_read_22 : decode cX2_read 22 = .ok (.aload_n 0, 1) := by decide +kernel
theorem dX2_read_23 : decode cX2_read 23 = .ok (.getfield 36, 3) := by decide +kernel
theorem dX2_read_26 : decode cX2_read 26 = .ok (.sipush 256, 3) := by decide +kernel
theorem dX2_read_29 : decode cX2_read 29 = .ok (.if_icmp .ne 7, 3) := by decide +kernel
theorem dX2_read_32 : decode cX2_read 32 = .ok (.iconst (-1), 1) := by decide +kernel
theorem dX2_read_33 : decode cX2_read 33 = .ok (.goto 7, 3) := by decide +kernel
theorem dX2_read_36 : decode cX2_read 36 = .ok (.aload_n 0, 1) := by decide +kernel
theorem dX2_read_37 : decode cX2_read 37 = .ok (.getfield 39, 3) := by decide +kernel
theorem dX2_read_40 : decode cX2_read 40 = .ok (.ireturn, 1) := by decide +kernel
theorem dX2_stepsRead_0 : decode cX2_stepsRead 0 = .ok (.aload_n 0, 1) := by decide +kernel
theorem dX2_stepsRead_1 : decode cX2_stepsRead 1 = .ok (.getfield 18, 3) := by decide +kernel
theorem dX2_stepsRead_4 : decode cX2_stepsRead 4 = .ok (.aload_n 0, 1) := by decide +kernel
theorem dX2_stepsRead_5 : decode cX2_stepsRead 5 = .ok (.getfield 26, 3) := by decide +kernel
theorem dX2_stepsRead_8 : decode cX2_stepsRead 8 = .ok (.invokestatic 42, 3) := by decide +kernel
theorem dX2_stepsRead_11 : decode cX2_stepsRead 11 = .ok (.areturn, 1) := by decide +kernel
theorem dX2_readEither_0 : decode cX2_readEither 0 = .ok (.aload_n 0, 1) := by decide +kernel
theorem dX2_readEither_1 : decode cX2_readEither 1 = .ok (.iload_n 1, 1) := by decide +kernel
theorem dX2_readEither_2 : decode cX2_readEither 2 = .ok (.invokevirtual 48, 3) := by decide +kernel
theorem dX2_readEither_5 : decode cX2_readEither 5 = .ok (.ifCond .ne 5, 3) := by decide +kernel
theorem dX2_readEither_8 : decode cX2_readEither 8 = .ok (.iconst 0, 1) := by decide +kernel
theorem dX2_readEither_9 : decode cX2_readEither 9 = .ok (.ireturn, 1) := by decide +kernel
theorem dX2_readEither_10 : decode cX2_readEither 10 = .ok (.iconst 0, 1) := by decide +kernel
theorem dX2_readEither_11 : decode cX2_readEither 11 = .ok (.istore_n 2, 1) := by decide +kernel
theorem dX2_readEither_12 : decode cX2_readEither 12 = .ok (.iload_n 2, 1) := by decide +kernel
theorem dX2_readEither_13 : decode cX2_readEither 13 = .ok (.sipush 200, 3) := by decide +kernel
theorem dX2_readEither_16 : decode cX2_readEither 16 = .ok (.if_icmp .ge 40, 3) := by decide +kernel
theorem dX2_readEither_19 : decode cX2_readEither 19 = .ok (.aload_n 0, 1) := by decide +kernel
theorem dX2_readEither_20 : decode cX2_readEither 20 = .ok (.getfield 36, 3) := by decide +kernel
theorem dX2_readEither_23 : decode cX2_readEither 23 = .ok (.sipush 261, 3) := by decide +kernel
theorem dX2_readEither_26 : decode cX2_readEither 26 = .ok (.if_icmp .ne 30, 3) := by decide +kernel
theorem dX2_readEither_29 : decode cX2_readEither 29 = .ok (.aload_n 0, 1) := by decide +kernel
theorem dX2_readEither_30 : decode cX2_readEither 30 = .ok (.invokevirtual 29, 3) := by decide +kernel
theorem dX2_readEither_33 : decode cX2_readEither 33 = .ok (.aload_n 0, 1) := by decide +kernel
theorem dX2_readEither_34 : decode cX2_readEither 34 = .ok (.iload_n 1, 1) := by decide +kernel
theorem dX2_readEither_35 : decode cX2_readEither 35 = .ok (.invokevirtual 48, 3) := by decide +kernel
theorem dX2_readEither_38 : decode cX2_readEither 38 = .ok (.ifCond .ne 5, 3) := by decide +kernel
theorem dX2_readEither_41 : decode cX2_readEither 41 = .ok (.iconst 0, 1) := by decide +kernel
theorem dX2_readEither_42 : decode cX2_readEither 42 = .ok (.ireturn, 1) := by decide +kernel
theorem dX2_readEither_43 : decode cX2_readEither 43 = .ok (.aload_n 0, 1) := by decide +kernel
theorem dX2_readEither_44 : decode cX2_readEither 44 = .ok (.sipush (-261), 3) := by decide +kernel
theorem dX2_readEither_47 : decode cX2_readEither 47 = .ok (.invokevirtual 51, 3) := by decide +kernel
theorem dX2_readEither_50 : decode cX2_readEither 50 = .ok (.iinc 2 1, 3) := by decide +kernel
theorem dX2_readEither_53 : decode cX2_readEither 53 = .ok (.goto (-41), 3) := by decide +kernel
theorem dX2_readEither_56 : decode cX2_readEither 56 = .ok (.iconst 1, 1) := by decide +kernel
theorem dX2_readEither_57 : decode cX2_readEither 57 = .ok (.ireturn, 1) := by decide +kernel
theorem dX2_readBoth_0 : decode cX2_readBoth 0 = .ok (.aload_n 0, 1) := by decide +kernel
theorem dX2_readBoth_1 : decode cX2_readBoth 1 = .ok (.iload_n 1, 1) := by decide +kernel
theorem dX2_readBoth_2 : decode cX2_readBoth 2 = .ok (.invokevirtual 55, 3) := by decide +kernel
theorem dX2_readBoth_5 : decode cX2_readBoth 5 = .ok (.ifCond .ne 5, 3) := by decide +kernel
theorem dX2_readBoth_8 : decode cX2_readBoth 8 = .ok (.iconst 0, 1) := by decide +kernel
theorem dX2_readBoth_9 : decode cX2_readBoth 9 = .ok (.ireturn, 1) := by decide +kernel
theorem dX2_readBoth_10 : decode cX2_readBoth 10 = .ok (.iconst 0, 1) := by decide +kernel
theorem dX2_readBoth_11 : decode cX2_readBoth 11 = .ok (.istore_n 2, 1) := by decide +kernel
theorem dX2_readBoth_12 : decode cX2_readBoth 12 = .ok (.iload_n 2, 1) := by decide +kernel
theorem dX2_readBoth_13 : decode cX2_readBoth 13 = .ok (.sipush 200, 3) := by decide +kernel
theorem dX2_readBoth_16 : decode cX2_readBoth 16 = .ok (.if_icmp .ge 40, 3) := by decide +kernel
theorem dX2_readBoth_19 : decode cX2_readBoth 19 = .ok (.aload_n 0, 1) := by decide +kernel
theorem dX2_readBoth_20 : decode cX2_readBoth 20 = .ok (.getfield 36, 3) := by decide +kernel
theorem dX2_readBoth_23 : decode cX2_readBoth 23 = .ok (.sipush 260, 3) := by decide +kernel
theorem dX2_readBoth_26 : decode cX2_readBoth 26 = .ok (.if_icmp .ne 30, 3) := by decide +kernel
theorem dX2_readBoth_29 : decode cX2_readBoth 29 = .ok (.aload_n 0, 1) := by decide +kernel
theorem dX2_readBoth_30 : decode cX2_readBoth 30 = .ok (.invokevirtual 29, 3) := by decide +kernel
theorem dX2_readBoth_33 : decode cX2_readBoth 33 = .ok (.aload_n 0, 1) := by decide +kernel
theorem dX2_readBoth_34 : decode cX2_readBoth 34 = .ok (.iload_n 1, 1) := by decide +kernel
theorem dX2_readBoth_35 : decode cX2_readBoth 35 = .ok (.invokevirtual 55, 3) := by decide +kernel
theorem dX2_readBoth_38 : decode cX2_readBoth 38 = .ok (.ifCond .ne 5, 3) := by decide +kernel
theorem dX2_readBoth_41 : decode cX2_readBoth 41 = .ok (.iconst 0, 1) := by decide +kernel
theorem dX2_readBoth_42 : decode cX2_readBoth 42 = .ok (.ireturn, 1) := by decide +kernel
theorem dX2_readBoth_43 : decode cX2_readBoth 43 = .ok (.aload_n 0, 1) := by decide +kernel
theorem dX2_readBoth_44 : decode cX2_readBoth 44 = .ok (.sipush (-260), 3) := by decide +kernel
theorem dX2_readBoth_47 : decode cX2_readBoth 47 = .ok (.invokevirtual 51, 3) := by decide +kernel
theorem dX2_readBoth_50 : decode cX2_readBoth 50 = .ok (.iinc 2 1, 3) := by decide +kernel
theorem dX2_readBoth_53 : decode cX2_readBoth 53 = .ok (.goto (-41), 3) := by decide +kernel
theorem dX2_readBoth_56 : decode cX2_readBoth 56 = .ok (.iconst 1, 1) := by decide +kernel
theorem dX2_readBoth_57 : decode cX2_readBoth 57 = .ok (.ireturn, 1) := by decide +kernel
theorem dX2_readDenied_0 : decode cX2_readDenied 0 = .ok (.aload_n 0, 1) := by decide +kernel
theorem dX2_readDenied_1 : decode cX2_readDenied 1 = .ok (.getfield 36, 3) := by decide +kernel
theorem dX2_readDenied_4 : decode cX2_readDenied 4 = .ok (.sipush 262, 3) := by decide +kernel
theorem dX2_readDenied_7 : decode cX2_readDenied 7 = .ok (.if_icmp .eq 9, 3) := by decide +kernel
theorem dX2_readDenied_10 : decode cX2_readDenied 10 = .ok (.aload_n 0, 1) := by decide +kernel
theorem dX2_readDenied_11 : decode cX2_readDenied 11 = .ok (.iload_n 1, 1) := by decide +kernel
theorem dX2_readDenied_12 : decode cX2_readDenied 12 = .ok (.invokevirtual 58, 3) := by decide +kernel
theorem dX2_readDenied_15 : decode cX2_readDenied 15 = .ok (.ireturn, 1) := by decide +kernel
theorem dX2_readDenied_16 : decode cX2_readDenied 16 = .ok (.iload_n 1, 1) := by decide +kernel
theorem dX2_readDenied_17 : decode cX2_readDenied 17 = .ok (.bipush 12, 2) := by decide +kernel
theorem dX2_readDenied_19 : decode cX2_readDenied 19 = .ok (.if_icmp .lt 5, 3) := by decide +kernel
theorem dX2_readDenied_22 : decode cX2_readDenied 22 = .ok (.iconst 0, 1) := by decide +kernel
theorem dX2_readDenied_23 : decode cX2_readDenied 23 = .ok (.ireturn, 1) := by decide +kernel
theorem dX2_readDenied_24 : decode cX2_readDenied 24 = .ok (.aload_n 0, 1) := by decide +kernel
theorem dX2_readDenied_25 : decode cX2_readDenied 25 = .ok (.invokevirtual 29, 3) := by decide +kernel
theorem dX2_readDenied_28 : decode cX2_readDenied 28 = .ok (.aload_n 0, 1) := by decide +kernel
theorem dX2_readDenied_29 : decode cX2_readDenied 29 = .ok (.iload_n 1, 1) := by decide +kernel
theorem dX2_readDenied_30 : decode cX2_readDenied 30 = .ok (.iconst 1, 1) := by decide +kernel
theorem dX2_readDenied_31 : decode cX2_readDenied 31 = .ok (.iadd, 1) := by decide +kernel
theorem dX2_readDenied_32 : decode cX2_readDenied 32 = .ok (.invokevirtual 55, 3) := by decide +kernel
theorem dX2_readDenied_35 : decode cX2_readDenied 35 = .ok (.ifCond .ne 5, 3) := by decide +kernel
theorem dX2_readDenied_38 : decode cX2_readDenied 38 = .ok (.iconst 0, 1) := by decide +kernel
theorem dX2_readDenied_39 : decode cX2_readDenied 39 = .ok (.ireturn, 1) := by decide +kernel
theorem dX2_readDenied_40 : decode cX2_readDenied 40 = .ok (.aload_n 0, 1) := by decide +kernel
theorem dX2_readDenied_41 : decode cX2_readDenied 41 = .ok (.sipush (-262), 3) := by decide +kernel
theorem dX2_readDenied_44 : decode cX2_readDenied 44 = .ok (.invokevirtual 51, 3) := by decide +kernel
theorem dX2_readDenied_47 : decode cX2_readDenied 47 = .ok (.iconst 1, 1) := by decide +kernel
theorem dX2_readDenied_48 : decode cX2_readDenied 48 = .ok (.ireturn, 1) := by decide +kernel
theorem dX2_readCompared_0 : decode cX2_readCompared 0 = .ok (.aload_n 0, 1) := by decide +kernel
theorem dX2_readCompared_1 : decode cX2_readCompared 1 = .ok (.iload_n 1, 1) := by decide +kernel
theorem dX2_readCompared_2 : decode cX2_readCompared 2 = .ok (.invokevirtual 61, 3) := by decide +kernel
theorem dX2_readCompared_5 : decode cX2_readCompared 5 = .ok (.ifCond .ne 5, 3) := by decide +kernel
theorem dX2_readCompared_8 : decode cX2_readCompared 8 = .ok (.iconst 0, 1) := by decide +kernel
theorem dX2_readCompared_9 : decode cX2_readCompared 9 = .ok (.ireturn, 1) := by decide +kernel
theorem dX2_readCompared_10 : decode cX2_readCompared 10 = .ok (.aload_n 0, 1) := by decide +kernel
theorem dX2_readCompared_11 : decode cX2_readCompared 11 = .ok (.getfield 36, 3) := by decide +kernel
theorem dX2_readCompared_14 : decode cX2_readCompared 14 = .ok (.istore_n 2, 1) := by decide +kernel
theorem dX2_readCompared_15 : decode cX2_readCompared 15 = .ok (.iload_n 2, 1) := by decide +kernel
theorem dX2_readCompared_16 : decode cX2_readCompared 16 = .ok (.bipush 60, 2) := by decide +kernel
theorem dX2_readCompared_18 : decode cX2_readCompared 18 = .ok (.if_icmp .eq 17, 3) := by decide +kernel
theorem dX2_readCompared_21 : decode cX2_readCompared 21 = .ok (.iload_n 2, 1) := by decide +kernel
theorem dX2_readCompared_22 : decode cX2_readCompared 22 = .ok (.bipush 61, 2) := by decide +kernel
theorem dX2_readCompared_24 : decode cX2_readCompared 24 = .ok (.if_icmp .eq 11, 3) := by decide +kernel
theorem dX2_readCompared_27 : decode cX2_readCompared 27 = .ok (.iload_n 2, 1) := by decide +kernel
theorem dX2_readCompared_28 : decode cX2_readCompared 28 = .ok (.bipush 62, 2) := by decide +kernel
theorem dX2_readCompared_30 : decode cX2_readCompared 30 = .ok (.if_icmp .eq 5, 3) := by decide +kernel
theorem dX2_readCompared_33 : decode cX2_readCompared 33 = .ok (.iconst 1, 1) := by decide +kernel
theorem dX2_readCompared_34 : decode cX2_readCompared 34 = .ok (.ireturn, 1) := by decide +kernel
theorem dX2_readCompared_35 : decode cX2_readCompared 35 = .ok (.aload_n 0, 1) := by decide +kernel
theorem dX2_readCompared_36 : decode cX2_readCompared 36 = .ok (.invokevirtual 29, 3) := by decide +kernel
theorem dX2_readCompared_39 : decode cX2_readCompared 39 = .ok (.aload_n 0, 1) := by decide +kernel
theorem dX2_readCompared_40 : decode cX2_readCompared 40 = .ok (.iload_n 1, 1) := by decide +kernel
theorem dX2_readCompared_41 : decode cX2_readCompared 41 = .ok (.invokevirtual 61, 3) := by decide +kernel
theorem dX2_readCompared_44 : decode cX2_readCompared 44 = .ok (.ifCond .ne 5, 3) := by decide +kernel
theorem dX2_readCompared_47 : decode cX2_readCompared 47 = .ok (.iconst 0, 1) := by decide +kernel
theorem dX2_readCompared_48 : decode cX2_readCompared 48 = .ok (.ireturn, 1) := by decide +kernel
theorem dX2_readCompared_49 : decode cX2_readCompared 49 = .ok (.aload_n 0, 1) := by decide +kernel
theorem dX2_readCompared_50 : decode cX2_readCompared 50 = .ok (.iload_n 2, 1) := by decide +kernel
theorem dX2_readCompared_51 : decode cX2_readCompared 51 = .ok (.ineg, 1) := by decide +kernel
theorem dX2_readCompared_52 : decode cX2_readCompared 52 = .ok (.invokevirtual 51, 3) := by decide +kernel
theorem dX2_readCompared_55 : decode cX2_readCompared 55 = .ok (.iconst 1, 1) := by decide +kernel
theorem dX2_readCompared_56 : decode cX2_readCompared 56 = .ok (.ireturn, 1) := by decide +kernel
theorem dX2_readSum_0 : decode cX2_readSum 0 = .ok (.aload_n 0, 1) := by decide +kernel
theorem dX2_readSum_1 : decode cX2_readSum 1 = .ok (.iload_n 1, 1) := by decide +kernel
theorem dX2_readSum_2 : decode cX2_readSum 2 = .ok (.invokevirtual 64, 3) := by decide +kernel
theorem dX2_readSum_5 : decode cX2_readSum 5 = .ok (.ifCond .ne 5, 3) := by decide +kernel
theorem dX2_readSum_8 : decode cX2_readSum 8 = .ok (.iconst 0, 1) := by decide +kernel
theorem dX2_readSum_9 : decode cX2_readSum 9 = .ok (.ireturn, 1) := by decide +kernel
theorem dX2_readSum_10 : decode cX2_readSum 10 = .ok (.iconst 0, 1) := by decide +kernel
theorem dX2_readSum_11 : decode cX2_readSum 11 = .ok (.istore_n 2, 1) := by decide +kernel
theorem dX2_readSum_12 : decode cX2_readSum 12 = .ok (.iload_n 2, 1) := by decide +kernel
theorem dX2_readSum_13 : decode cX2_readSum 13 = .ok (.sipush 200, 3) := by decide +kernel
theorem dX2_readSum_16 : decode cX2_readSum 16 = .ok (.if_icmp .ge 52, 3) := by decide +kernel
theorem dX2_readSum_19 : decode cX2_readSum 19 = .ok (.aload_n 0, 1) := by decide +kernel
theorem dX2_readSum_20 : decode cX2_readSum 20 = .ok (.getfield 36, 3) := by decide +kernel
theorem dX2_readSum_23 : decode cX2_readSum 23 = .ok (.bipush 43, 2) := by decide +kernel
theorem dX2_readSum_25 : decode cX2_readSum 25 = .ok (.if_icmp .eq 12, 3) := by decide +kernel
theorem dX2_readSum_28 : decode cX2_readSum 28 = .ok (.aload_n 0, 1) := by decide +kernel
theorem dX2_readSum_29 : decode cX2_readSum 29 = .ok (.getfield 36, 3) := by decide +kernel
theorem dX2_readSum_32 : decode cX2_readSum 32 = .ok (.bipush 45, 2) := by decide +kernel
theorem dX2_readSum_34 : decode cX2_readSum 34 = .ok (.if_icmp .ne 34, 3) := by decide +kernel
theorem dX2_readSum_37 : decode cX2_readSum 37 = .ok (.aload_n 0, 1) := by decide +kernel
theorem dX2_readSum_38 : decode cX2_readSum 38 = .ok (.getfield 36, 3) := by decide +kernel
theorem dX2_readSum_41 : decode cX2_readSum 41 = .ok (.istore_n 3, 1) := by decide +kernel
theorem dX2_readSum_42 : decode cX2_readSum 42 = .ok (.aload_n 0, 1) := by decide +kernel
theorem dX2_readSum_43 : decode cX2_readSum 43 = .ok (.invokevirtual 29, 3) := by decide +kernel
theorem dX2_readSum_46 : decode cX2_readSum 46 = .ok (.aload_n 0, 1) := by decide +kernel
theorem dX2_readSum_47 : decode cX2_readSum 47 = .ok (.iload_n 1, 1) := by decide +kernel
theorem dX2_readSum_48 : decode cX2_readSum 48 = .ok (.invokevirtual 64, 3) := by decide +kernel
theorem dX2_readSum_51 : decode cX2_readSum 51 = .ok (.ifCond .ne 5, 3) := by decide +kernel
theorem dX2_readSum_54 : decode cX2_readSum 54 = .ok (.iconst 0, 1) := by decide +kernel
theorem dX2_readSum_55 : decode cX2_readSum 55 = .ok (.ireturn, 1) := by decide +kernel
theorem dX2_readSum_56 : decode cX2_readSum 56 = .ok (.aload_n 0, 1) := by decide +kernel
theorem dX2_readSum_57 : decode cX2_readSum 57 = .ok (.iload_n 3, 1) := by decide +kernel
theorem dX2_readSum_58 : decode cX2_readSum 58 = .ok (.ineg, 1) := by decide +kernel
theorem dX2_readSum_59 : decode cX2_readSum 59 = .ok (.invokevirtual 51, 3) := by decide +kernel
theorem dX2_readSum_62 : decode cX2_readSum 62 = .ok (.iinc 2 1, 3) := by decide +kernel
theorem dX2_readSum_65 : decode cX2_readSum 65 = .ok (.goto (-53), 3) := by decide +kernel
theorem dX2_readSum_68 : decode cX2_readSum 68 = .ok (.iconst 1, 1) := by decide +kernel
theorem dX2_readSum_69 : decode cX2_readSum 69 = .ok (.ireturn, 1) := by decide +kernel
theorem dX2_readProduct_0 : decode cX2_readProduct 0 = .ok (.aload_n 0, 1) := by decide +kernel
theorem dX2_readProduct_1 : decode cX2_readProduct 1 = .ok (.iload_n 1, 1) := by decide +kernel
theorem dX2_readProduct_2 : decode cX2_readProduct 2 = .ok (.invokevirtual 67, 3) := by decide +kernel
theorem dX2_readProduct_5 : decode cX2_readProduct 5 = .ok (.ifCond .ne 5, 3) := by decide +kernel
theorem dX2_readProduct_8 : decode cX2_readProduct 8 = .ok (.iconst 0, 1) := by decide +kernel
theorem dX2_readProduct_9 : decode cX2_readProduct 9 = .ok (.ireturn, 1) := by decide +kernel
theorem dX2_readProduct_10 : decode cX2_readProduct 10 = .ok (.iconst 0, 1) := by decide +kernel
theorem dX2_readProduct_11 : decode cX2_readProduct 11 = .ok (.istore_n 2, 1) := by decide +kernel
theorem dX2_readProduct_12 : decode cX2_readProduct 12 = .ok (.iload_n 2, 1) := by decide +kernel
theorem dX2_readProduct_13 : decode cX2_readProduct 13 = .ok (.sipush 200, 3) := by decide +kernel
theorem dX2_readProduct_16 : decode cX2_readProduct 16 = .ok (.if_icmp .ge 38, 3) := by decide +kernel
theorem dX2_readProduct_19 : decode cX2_readProduct 19 = .ok (.aload_n 0, 1) := by decide +kernel
theorem dX2_readProduct_20 : decode cX2_readProduct 20 = .ok (.getfield 36, 3) := by decide +kernel
theorem dX2_readProduct_23 : decode cX2_readProduct 23 = .ok (.bipush 42, 2) := by decide +kernel
theorem dX2_readProduct_25 : decode cX2_readProduct 25 = .ok (.if_icmp .ne 29, 3) := by decide +kernel
theorem dX2_readProduct_28 : decode cX2_readProduct 28 = .ok (.aload_n 0, 1) := by decide +kernel
theorem dX2_readProduct_29 : decode cX2_readProduct 29 = .ok (.invokevirtual 29, 3) := by decide +kernel
theorem dX2_readProduct_32 : decode cX2_readProduct 32 = .ok (.aload_n 0, 1) := by decide +kernel
theorem dX2_readProduct_33 : decode cX2_readProduct 33 = .ok (.iload_n 1, 1) := by decide +kernel
theorem dX2_readProduct_34 : decode cX2_readProduct 34 = .ok (.invokevirtual 67, 3) := by decide +kernel
theorem dX2_readProduct_37 : decode cX2_readProduct 37 = .ok (.ifCond .ne 5, 3) := by decide +kernel
theorem dX2_readProduct_40 : decode cX2_readProduct 40 = .ok (.iconst 0, 1) := by decide +kernel
theorem dX2_readProduct_41 : decode cX2_readProduct 41 = .ok (.ireturn, 1) := by decide +kernel
theorem dX2_readProduct_42 : decode cX2_readProduct 42 = .ok (.aload_n 0, 1) := by decide +kernel
theorem dX2_readProduct_43 : decode cX2_readProduct 43 = .ok (.bipush (-42), 2) := by decide +kernel
theorem dX2_readProduct_45 : decode cX2_readProduct 45 = .ok (.invokevirtual 51, 3) := by decide +kernel
theorem dX2_readProduct_48 : decode cX2_readProduct 48 = .ok (.iinc 2 1, 3) := by decide +kernel
theorem dX2_readProduct_51 : decode cX2_readProduct 51 = .ok (.goto (-39), 3) := by decide +kernel
theorem dX2_readProduct_54 : decode cX2_readProduct 54 = .ok (.iconst 1, 1) := by decide +kernel
theorem dX2_readProduct_55 : decode cX2_readProduct 55 = .ok (.ireturn, 1) := by decide +kernel
theorem dX2_readOperand_0 : decode cX2_readOperand 0 = .ok (.aload_n 0, 1) := by decide +kernel
theorem dX2_readOperand_1 : decode cX2_readOperand 1 = .ok (.getfield 36, 3) := by decide +kernel
theorem dX2_readOperand_4 : decode cX2_readOperand 4 = .ok (.sipush 257, 3) := by decide +kernel
theorem dX2_readOperand_7 : decode cX2_readOperand 7 = .ok (.if_icmp .eq 13, 3) := by decide +kernel
theorem dX2_readOperand_10 : decode cX2_readOperand 10 = .ok (.aload_n 0, 1) := by decide +kernel
theorem dX2_readOperand_11 : decode cX2_readOperand 11 = .ok (.getfield 36, 3) := by decide +kernel
theorem dX2_readOperand_14 : decode cX2_readOperand 14 = .ok (.sipush 258, 3) := by decide +kernel
theorem dX2_readOperand_17 : decode cX2_readOperand 17 = .ok (.if_icmp .ne 36, 3) := by decide +kernel
theorem dX2_readOperand_20 : decode cX2_readOperand 20 = .ok (.aload_n 0, 1) := by decide +kernel
theorem dX2_readOperand_21 : decode cX2_readOperand 21 = .ok (.aload_n 0, 1) := by decide +kernel
theorem dX2_readOperand_22 : decode cX2_readOperand 22 = .ok (.getfield 36, 3) := by decide +kernel
theorem dX2_readOperand_25 : decode cX2_readOperand 25 = .ok (.sipush 257, 3) := by decide +kernel
theorem dX2_readOperand_28 : decode cX2_readOperand 28 = .ok (.if_icmp .ne 10, 3) := by decide +kernel
theorem dX2_readOperand_31 : decode cX2_readOperand 31 = .ok (.aload_n 0, 1) := by decide +kernel
theorem dX2_readOperand_32 : decode cX2_readOperand 32 = .ok (.getfield 70, 3) := by decide +kernel
theorem dX2_readOperand_35 : decode cX2_readOperand 35 = .ok (.goto 9, 3) := by decide +kernel
theorem dX2_readOperand_38 : decode cX2_readOperand 38 = .ok (.iconst (-1), 1) := by decide +kernel
theorem dX2_readOperand_39 : decode cX2_readOperand 39 = .ok (.aload_n 0, 1) := by decide +kernel
theorem dX2_readOperand_40 : decode cX2_readOperand 40 = .ok (.getfield 70, 3) := by decide +kernel
theorem dX2_readOperand_43 : decode cX2_readOperand 43 = .ok (.isub, 1) := by decide +kernel
theorem dX2_readOperand_44 : decode cX2_readOperand 44 = .ok (.invokevirtual 51, 3) := by decide +kernel
theorem dX2_readOperand_47 : decode cX2_readOperand 47 = .ok (.aload_n 0, 1) := by decide +kernel
theorem dX2_readOperand_48 : decode cX2_readOperand 48 = .ok (.invokevirtual 29, 3) := by decide +kernel
theorem dX2_readOperand_51 : decode cX2_readOperand 51 = .ok (.iconst 1, 1) := by decide +kernel
theorem dX2_readOperand_52 : decode cX2_readOperand 52 = .ok (.ireturn, 1) := by decide +kernel
theorem dX2_readOperand_53 : decode cX2_readOperand 53 = .ok (.aload_n 0, 1) := by decide +kernel
theorem dX2_readOperand_54 : decode cX2_readOperand 54 = .ok (.getfield 36, 3) := by decide +kernel
theorem dX2_readOperand_57 : decode cX2_readOperand 57 = .ok (.bipush 45, 2) := by decide +kernel
theorem dX2_readOperand_59 : decode cX2_readOperand 59 = .ok (.if_icmp .eq 12, 3) := by decide +kernel
theorem dX2_readOperand_62 : decode cX2_readOperand 62 = .ok (.aload_n 0, 1) := by decide +kernel
theorem dX2_readOperand_63 : decode cX2_readOperand 63 = .ok (.getfield 36, 3) := by decide +kernel
theorem dX2_readOperand_66 : decode cX2_readOperand 66 = .ok (.bipush 40, 2) := by decide +kernel
theorem dX2_readOperand_68 : decode cX2_readOperand 68 = .ok (.if_icmp .ne 9, 3) := by decide +kernel
theorem dX2_readOperand_71 : decode cX2_readOperand 71 = .ok (.iload_n 1, 1) := by decide +kernel
theorem dX2_readOperand_72 : decode cX2_readOperand 72 = .ok (.bipush 12, 2) := by decide +kernel
theorem dX2_readOperand_74 : decode cX2_readOperand 74 = .ok (.if_icmp .lt 5, 3) := by decide +kernel
theorem dX2_readOperand_77 : decode cX2_readOperand 77 = .ok (.iconst 0, 1) := by decide +kernel
theorem dX2_readOperand_78 : decode cX2_readOperand 78 = .ok (.ireturn, 1) := by decide +kernel
theorem dX2_readOperand_79 : decode cX2_readOperand 79 = .ok (.aload_n 0, 1) := by decide +kernel
theorem dX2_readOperand_80 : decode cX2_readOperand 80 = .ok (.getfield 36, 3) := by decide +kernel
theorem dX2_readOperand_83 : decode cX2_readOperand 83 = .ok (.bipush 40, 2) := by decide +kernel
theorem dX2_readOperand_85 : decode cX2_readOperand 85 = .ok (.if_icmp .ne 7, 3) := by decide +kernel
theorem dX2_readOperand_88 : decode cX2_readOperand 88 = .ok (.iconst 1, 1) := by decide +kernel
theorem dX2_readOperand_89 : decode cX2_readOperand 89 = .ok (.goto 4, 3) := by decide +kernel
theorem dX2_readOperand_92 : decode cX2_readOperand 92 = .ok (.iconst 0, 1) := by decide +kernel
theorem dX2_readOperand_93 : decode cX2_readOperand 93 = .ok (.istore_n 2, 1) := by decide +kernel
theorem dX2_readOperand_94 : decode cX2_readOperand 94 = .ok (.aload_n 0, 1) := by decide +kernel
theorem dX2_readOperand_95 : decode cX2_readOperand 95 = .ok (.invokevirtual 29, 3) := by decide +kernel
theorem dX2_readOperand_98 : decode cX2_readOperand 98 = .ok (.iload_n 2, 1) := by decide +kernel
theorem dX2_readOperand_99 : decode cX2_readOperand 99 = .ok (.ifCond .eq 13, 3) := by decide +kernel
theorem dX2_readOperand_102 : decode cX2_readOperand 102 = .ok (.aload_n 0, 1) := by decide +kernel
theorem dX2_readOperand_103 : decode cX2_readOperand 103 = .ok (.iload_n 1, 1) := by decide +kernel
theorem dX2_readOperand_104 : decode cX2_readOperand 104 = .ok (.iconst 1, 1) := by decide +kernel
theorem dX2_readOperand_105 : decode cX2_readOperand 105 = .ok (.iadd, 1) := by decide +kernel
theorem dX2_readOperand_106 : decode cX2_readOperand 106 = .ok (.invokevirtual 73, 3) := by decide +kernel
theorem dX2_readOperand_109 : decode cX2_readOperand 109 = .ok (.goto 10, 3) := by decide +kernel
theorem dX2_readOperand_112 : decode cX2_readOperand 112 = .ok (.aload_n 0, 1) := by decide +kernel
theorem dX2_readOperand_113 : decode cX2_readOperand 113 = .ok (.iload_n 1, 1) := by decide +kernel
theorem dX2_readOperand_114 : decode cX2_readOperand 114 = .ok (.iconst 1, 1) := by decide +kernel
theorem dX2_readOperand_115 : decode cX2_readOperand 115 = .ok (.iadd, 1) := by decide +kernel
theorem dX2_readOperand_116 : decode cX2_readOperand 116 = .ok (.invokevirtual 76, 3) := by decide +kernel
theorem dX2_readOperand_119 : decode cX2_readOperand 119 = .ok (.ireturn, 1) := by decide +kernel
theorem dX2_readBracket_0 : decode cX2_readBracket 0 = .ok (.aload_n 0, 1) := by decide +kernel
theorem dX2_readBracket_1 : decode cX2_readBracket 1 = .ok (.iload_n 1, 1) := by decide +kernel
theorem dX2_readBracket_2 : decode cX2_readBracket 2 = .ok (.invokevirtual 32, 3) := by decide +kernel
theorem dX2_readBracket_5 : decode cX2_readBracket 5 = .ok (.ifCond .eq 12, 3) := by decide +kernel
theorem dX2_readBracket_8 : decode cX2_readBracket 8 = .ok (.aload_n 0, 1) := by decide +kernel
theorem dX2_readBracket_9 : decode cX2_readBracket 9 = .ok (.getfield 36, 3) := by decide +kernel
theorem dX2_readBracket_12 : decode cX2_readBracket 12 = .ok (.bipush 41, 2) := by decide +kernel
theorem dX2_readBracket_14 : decode cX2_readBracket 14 = .ok (.if_icmp .eq 5, 3) := by decide +kernel
theorem dX2_readBracket_17 : decode cX2_readBracket 17 = .ok (.iconst 0, 1) := by decide +kernel
theorem dX2_readBracket_18 : decode cX2_readBracket 18 = .ok (.ireturn, 1) := by decide +kernel
theorem dX2_readBracket_19 : decode cX2_readBracket 19 = .ok (.aload_n 0, 1) := by decide +kernel
theorem dX2_readBracket_20 : decode cX2_readBracket 20 = .ok (.invokevirtual 29, 3) := by decide +kernel
theorem dX2_readBracket_23 : decode cX2_readBracket 23 = .ok (.iconst 1, 1) := by decide +kernel
theorem dX2_readBracket_24 : decode cX2_readBracket 24 = .ok (.ireturn, 1) := by decide +kernel
theorem dX2_readNegated_0 : decode cX2_readNegated 0 = .ok (.aload_n 0, 1) := by decide +kernel
theorem dX2_readNegated_1 : decode cX2_readNegated 1 = .ok (.iload_n 1, 1) := by decide +kernel
theorem dX2_readNegated_2 : decode cX2_readNegated 2 = .ok (.invokevirtual 67, 3) := by decide +kernel
theorem dX2_readNegated_5 : decode cX2_readNegated 5 = .ok (.ifCond .ne 5, 3) := by decide +kernel
theorem dX2_readNegated_8 : decode cX2_readNegated 8 = .ok (.iconst 0, 1) := by decide +kernel
theorem dX2_readNegated_9 : decode cX2_readNegated 9 = .ok (.ireturn, 1) := by decide +kernel
theorem dX2_readNegated_10 : decode cX2_readNegated 10 = .ok (.aload_n 0, 1) := by decide +kernel
theorem dX2_readNegated_11 : decode cX2_readNegated 11 = .ok (.sipush (-263), 3) := by decide +kernel
theorem dX2_readNegated_14 : decode cX2_readNegated 14 = .ok (.invokevirtual 51, 3) := by decide +kernel
theorem dX2_readNegated_17 : decode cX2_readNegated 17 = .ok (.iconst 1, 1) := by decide +kernel
theorem dX2_readNegated_18 : decode cX2_readNegated 18 = .ok (.ireturn, 1) := by decide +kernel
theorem dX2_putStep_0 : decode cX2_putStep 0 = .ok (.aload_n 0, 1) := by decide +kernel
theorem dX2_putStep_1 : decode cX2_putStep 1 = .ok (.getfield 26, 3) := by decide +kernel
theorem dX2_putStep_4 : decode cX2_putStep 4 = .ok (.aload_n 0, 1) := by decide +kernel
theorem dX2_putStep_5 : decode cX2_putStep 5 = .ok (.getfield 18, 3) := by decide +kernel
theorem dX2_putStep_8 : decode cX2_putStep 8 = .ok (.arraylength, 1) := by decide +kernel
theorem dX2_putStep_9 : decode cX2_putStep 9 = .ok (.if_icmp .ge 23, 3) := by decide +kernel
theorem dX2_putStep_12 : decode cX2_putStep 12 = .ok (.aload_n 0, 1) := by decide +kernel
theorem dX2_putStep_13 : decode cX2_putStep 13 = .ok (.getfield 18, 3) := by decide +kernel
theorem dX2_putStep_16 : decode cX2_putStep 16 = .ok (.aload_n 0, 1) := by decide +kernel
theorem dX2_putStep_17 : decode cX2_putStep 17 = .ok (.getfield 26, 3) := by decide +kernel
theorem dX2_putStep_20 : decode cX2_putStep 20 = .ok (.iload_n 1, 1) := by decide +kernel
theorem dX2_putStep_21 : decode cX2_putStep 21 = .ok (.iastore, 1) := by decide +kernel
theorem dX2_putStep_22 : decode cX2_putStep 22 = .ok (.aload_n 0, 1) := by decide +kernel
theorem dX2_putStep_23 : decode cX2_putStep 23 = .ok (.dup, 1) := by decide +kernel
theorem dX2_putStep_24 : decode cX2_putStep 24 = .ok (.getfield 26, 3) := by decide +kernel
theorem dX2_putStep_27 : decode cX2_putStep 27 = .ok (.iconst 1, 1) := by decide +kernel
theorem dX2_putStep_28 : decode cX2_putStep 28 = .ok (.iadd, 1) := by decide +kernel
theorem dX2_putStep_29 : decode cX2_putStep 29 = .ok (.putfield 26, 3) := by decide +kernel
theorem dX2_putStep_32 : decode cX2_putStep 32 = .ok (.return_, 1) := by decide +kernel
theorem dX2_nextToken_0 : decode cX2_nextToken 0 = .ok (.iconst 0, 1) := by decide +kernel
theorem dX2_nextToken_1 : decode cX2_nextToken 1 = .ok (.istore_n 1, 1) := by decide +kernel
theorem dX2_nextToken_2 : decode cX2_nextToken 2 = .ok (.iload_n 1, 1) := by decide +kernel
theorem dX2_nextToken_3 : decode cX2_nextToken 3 = .ok (.sipush 200, 3) := by decide +kernel
theorem dX2_nextToken_6 : decode cX2_nextToken 6 = .ok (.if_icmp .ge 49, 3) := by decide +kernel
theorem dX2_nextToken_9 : decode cX2_nextToken 9 = .ok (.aload_n 0, 1) := by decide +kernel
theorem dX2_nextToken_10 : decode cX2_nextToken 10 = .ok (.getfield 22, 3) := by decide +kernel
theorem dX2_nextToken_13 : decode cX2_nextToken 13 = .ok (.aload_n 0, 1) := by decide +kernel
theorem dX2_nextToken_14 : decode cX2_nextToken 14 = .ok (.getfield 12, 3) := by decide +kernel
theorem dX2_nextToken_17 : decode cX2_nextToken 17 = .ok (.getfield 79, 3) := by decide +kernel
theorem dX2_nextToken_20 : decode cX2_nextToken 20 = .ok (.if_icmp .ge 35, 3) := by decide +kernel
theorem dX2_nextToken_23 : decode cX2_nextToken 23 = .ok (.aload_n 0, 1) := by decide +kernel
theorem dX2_nextToken_24 : decode cX2_nextToken 24 = .ok (.getfield 12, 3) := by decide +kernel
theorem dX2_nextToken_27 : decode cX2_nextToken 27 = .ok (.aload_n 0, 1) := by decide +kernel
theorem dX2_nextToken_28 : decode cX2_nextToken 28 = .ok (.getfield 22, 3) := by decide +kernel
theorem dX2_nextToken_31 : decode cX2_nextToken 31 = .ok (.invokevirtual 82, 3) := by decide +kernel
theorem dX2_nextToken_34 : decode cX2_nextToken 34 = .ok (.bipush 32, 2) := by decide +kernel
theorem dX2_nextToken_36 : decode cX2_nextToken 36 = .ok (.if_icmp .ne 19, 3) := by decide +kernel
theorem dX2_nextToken_39 : decode cX2_nextToken 39 = .ok (.aload_n 0, 1) := by decide +kernel
theorem dX2_nextToken_40 : decode cX2_nextToken 40 = .ok (.dup, 1) := by decide +kernel
theorem dX2_nextToken_41 : decode cX2_nextToken 41 = .ok (.getfield 22, 3) := by decide +kernel
theorem dX2_nextToken_44 : decode cX2_nextToken 44 = .ok (.iconst 1, 1) := by decide +kernel
theorem dX2_nextToken_45 : decode cX2_nextToken 45 = .ok (.iadd, 1) := by decide +kernel
theorem dX2_nextToken_46 : decode cX2_nextToken 46 = .ok (.putfield 22, 3) := by decide +kernel
theorem dX2_nextToken_49 : decode cX2_nextToken 49 = .ok (.iinc 1 1, 3) := by decide +kernel
theorem dX2_nextToken_52 : decode cX2_nextToken 52 = .ok (.goto (-50), 3) := by decide +kernel
theorem dX2_nextToken_55 : decode cX2_nextToken 55 = .ok (.aload_n 0, 1) := by decide +kernel
theorem dX2_nextToken_56 : decode cX2_nextToken 56 = .ok (.aload_n 0, 1) := by decide +kernel
theorem dX2_nextToken_57 : decode cX2_nextToken 57 = .ok (.getfield 22, 3) := by decide +kernel
theorem dX2_nextToken_60 : decode cX2_nextToken 60 = .ok (.putfield 39, 3) := by decide +kernel
theorem dX2_nextToken_63 : decode cX2_nextToken 63 = .ok (.aload_n 0, 1) := by decide +kernel
theorem dX2_nextToken_64 : decode cX2_nextToken 64 = .ok (.getfield 22, 3) := by decide +kernel
theorem dX2_nextToken_67 : decode cX2_nextToken 67 = .ok (.aload_n 0, 1) := by decide +kernel
theorem dX2_nextToken_68 : decode cX2_nextToken 68 = .ok (.getfield 12, 3) := by decide +kernel
theorem dX2_nextToken_71 : decode cX2_nextToken 71 = .ok (.getfield 79, 3) := by decide +kernel
theorem dX2_nextToken_74 : decode cX2_nextToken 74 = .ok (.if_icmp .lt 13, 3) := by decide +kernel
theorem dX2_nextToken_77 : decode cX2_nextToken 77 = .ok (.aload_n 0, 1) := by decide +kernel
theorem dX2_nextToken_78 : decode cX2_nextToken 78 = .ok (.sipush 256, 3) := by decide +kernel
theorem dX2_nextToken_81 : decode cX2_nextToken 81 = .ok (.putfield 36, 3) := by decide +kernel
theorem dX2_nextToken_84 : decode cX2_nextToken 84 = .ok (.goto 76, 3) := by decide +kernel
theorem dX2_nextToken_87 : decode cX2_nextToken 87 = .ok (.aload_n 0, 1) := by decide +kernel
theorem dX2_nextToken_88 : decode cX2_nextToken 88 = .ok (.getfield 12, 3) := by decide +kernel
theorem dX2_nextToken_91 : decode cX2_nextToken 91 = .ok (.aload_n 0, 1) := by decide +kernel
theorem dX2_nextToken_92 : decode cX2_nextToken 92 = .ok (.getfield 22, 3) := by decide +kernel
theorem dX2_nextToken_95 : decode cX2_nextToken 95 = .ok (.invokevirtual 82, 3) := by decide +kernel
theorem dX2_nextToken_98 : decode cX2_nextToken 98 = .ok (.invokestatic 86, 3) := by decide +kernel
theorem dX2_nextToken_101 : decode cX2_nextToken 101 = .ok (.ifCond .eq 10, 3) := by decide +kernel
theorem dX2_nextToken_104 : decode cX2_nextToken 104 = .ok (.aload_n 0, 1) := by decide +kernel
theorem dX2_nextToken_105 : decode cX2_nextToken 105 = .ok (.invokevirtual 89, 3) := by decide +kernel
theorem dX2_nextToken_108 : decode cX2_nextToken 108 = .ok (.goto 52, 3) := by decide +kernel
theorem dX2_nextToken_111 : decode cX2_nextToken 111 = .ok (.aload_n 0, 1) := by decide +kernel
theorem dX2_nextToken_112 : decode cX2_nextToken 112 = .ok (.getfield 12, 3) := by decide +kernel
theorem dX2_nextToken_115 : decode cX2_nextToken 115 = .ok (.aload_n 0, 1) := by decide +kernel
theorem dX2_nextToken_116 : decode cX2_nextToken 116 = .ok (.getfield 22, 3) := by decide +kernel
theorem dX2_nextToken_119 : decode cX2_nextToken 119 = .ok (.invokevirtual 82, 3) := by decide +kernel
theorem dX2_nextToken_122 : decode cX2_nextToken 122 = .ok (.invokestatic 92, 3) := by decide +kernel
theorem dX2_nextToken_125 : decode cX2_nextToken 125 = .ok (.ifCond .eq 10, 3) := by decide +kernel
theorem dX2_nextToken_128 : decode cX2_nextToken 128 = .ok (.aload_n 0, 1) := by decide +kernel
theorem dX2_nextToken_129 : decode cX2_nextToken 129 = .ok (.invokevirtual 95, 3) := by decide +kernel
theorem dX2_nextToken_132 : decode cX2_nextToken 132 = .ok (.goto 28, 3) := by decide +kernel
theorem dX2_nextToken_135 : decode cX2_nextToken 135 = .ok (.aload_n 0, 1) := by decide +kernel
theorem dX2_nextToken_136 : decode cX2_nextToken 136 = .ok (.aload_n 0, 1) := by decide +kernel
theorem dX2_nextToken_137 : decode cX2_nextToken 137 = .ok (.getfield 12, 3) := by decide +kernel
theorem dX2_nextToken_140 : decode cX2_nextToken 140 = .ok (.aload_n 0, 1) := by decide +kernel
theorem dX2_nextToken_141 : decode cX2_nextToken 141 = .ok (.getfield 22, 3) := by decide +kernel
theorem dX2_nextToken_144 : decode cX2_nextToken 144 = .ok (.invokevirtual 82, 3) := by decide +kernel
theorem dX2_nextToken_147 : decode cX2_nextToken 147 = .ok (.putfield 36, 3) := by decide +kernel
theorem dX2_nextToken_150 : decode cX2_nextToken 150 = .ok (.aload_n 0, 1) := by decide +kernel
theorem dX2_nextToken_151 : decode cX2_nextToken 151 = .ok (.dup, 1) := by decide +kernel
theorem dX2_nextToken_152 : decode cX2_nextToken 152 = .ok (.getfield 22, 3) := by decide +kernel
theorem dX2_nextToken_155 : decode cX2_nextToken 155 = .ok (.iconst 1, 1) := by decide +kernel
theorem dX2_nextToken_156 : decode cX2_nextToken 156 = .ok (.iadd, 1) := by decide +kernel
theorem dX2_nextToken_157 : decode cX2_nextToken 157 = .ok (.putfield 22, 3) := by decide +kernel
theorem dX2_nextToken_160 : decode cX2_nextToken 160 = .ok (.return_, 1) := by decide +kernel
theorem dX2_takeNumber_0 : decode cX2_takeNumber 0 = .ok (.aload_n 0, 1) := by decide +kernel
theorem dX2_takeNumber_1 : decode cX2_takeNumber 1 = .ok (.iconst 0, 1) := by decide +kernel
theorem dX2_takeNumber_2 : decode cX2_takeNumber 2 = .ok (.putfield 70, 3) := by decide +kernel
theorem dX2_takeNumber_5 : decode cX2_takeNumber 5 = .ok (.iconst 0, 1) := by decide +kernel
theorem dX2_takeNumber_6 : decode cX2_takeNumber 6 = .ok (.istore_n 1, 1) := by decide +kernel
theorem dX2_takeNumber_7 : decode cX2_takeNumber 7 = .ok (.iload_n 1, 1) := by decide +kernel
theorem dX2_takeNumber_8 : decode cX2_takeNumber 8 = .ok (.sipush 200, 3) := by decide +kernel
theorem dX2_takeNumber_11 : decode cX2_takeNumber 11 = .ok (.if_icmp .ge 62, 3) := by decide +kernel
theorem dX2_takeNumber_14 : decode cX2_takeNumber 14 = .ok (.aload_n 0, 1) := by decide +kernel
theorem dX2_takeNumber_15 : decode cX2_takeNumber 15 = .ok (.getfield 12, 3) := by decide +kernel
theorem dX2_takeNumber_18 : decode cX2_takeNumber 18 = .ok (.aload_n 0, 1) := by decide +kernel
theorem dX2_takeNumber_19 : decode cX2_takeNumber 19 = .ok (.getfield 22, 3) := by decide +kernel
theorem dX2_takeNumber_22 : decode cX2_takeNumber 22 = .ok (.invokevirtual 82, 3) := by decide +kernel
theorem dX2_takeNumber_25 : decode cX2_takeNumber 25 = .ok (.invokestatic 86, 3) := by decide +kernel
theorem dX2_takeNumber_28 : decode cX2_takeNumber 28 = .ok (.ifCond .eq 45, 3) := by decide +kernel
theorem dX2_takeNumber_31 : decode cX2_takeNumber 31 = .ok (.aload_n 0, 1) := by decide +kernel
theorem dX2_takeNumber_32 : decode cX2_takeNumber 32 = .ok (.aload_n 0, 1) := by decide +kernel
theorem dX2_takeNumber_33 : decode cX2_takeNumber 33 = .ok (.getfield 70, 3) := by decide +kernel
theorem dX2_takeNumber_36 : decode cX2_takeNumber 36 = .ok (.bipush 10, 2) := by decide +kernel
theorem dX2_takeNumber_38 : decode cX2_takeNumber 38 = .ok (.imul, 1) := by decide +kernel
theorem dX2_takeNumber_39 : decode cX2_takeNumber 39 = .ok (.aload_n 0, 1) := by decide +kernel
theorem dX2_takeNumber_40 : decode cX2_takeNumber 40 = .ok (.getfield 12, 3) := by decide +kernel
theorem dX2_takeNumber_43 : decode cX2_takeNumber 43 = .ok (.aload_n 0, 1) := by decide +kernel
theorem dX2_takeNumber_44 : decode cX2_takeNumber 44 = .ok (.getfield 22, 3) := by decide +kernel
theorem dX2_takeNumber_47 : decode cX2_takeNumber 47 = .ok (.invokevirtual 82, 3) := by decide +kernel
theorem dX2_takeNumber_50 : decode cX2_takeNumber 50 = .ok (.iadd, 1) := by decide +kernel
theorem dX2_takeNumber_51 : decode cX2_takeNumber 51 = .ok (.bipush 48, 2) := by decide +kernel
theorem dX2_takeNumber_53 : decode cX2_takeNumber 53 = .ok (.isub, 1) := by decide +kernel
theorem dX2_takeNumber_54 : decode cX2_takeNumber 54 = .ok (.putfield 70, 3) := by decide +kernel
theorem dX2_takeNumber_57 : decode cX2_takeNumber 57 = .ok (.aload_n 0, 1) := by decide +kernel
theorem dX2_takeNumber_58 : decode cX2_takeNumber 58 = .ok (.dup, 1) := by decide +kernel
theorem dX2_takeNumber_59 : decode cX2_takeNumber 59 = .ok (.getfield 22, 3) := by decide +kernel
theorem dX2_takeNumber_62 : decode cX2_takeNumber 62 = .ok (.iconst 1, 1) := by decide +kernel
theorem dX2_takeNumber_63 : decode cX2_takeNumber 63 = .ok (.iadd, 1) := by decide +kernel
theorem dX2_takeNumber_64 : decode cX2_takeNumber 64 = .ok (.putfield 22, 3) := by decide +kernel
theorem dX2_takeNumber_67 : decode cX2_takeNumber 67 = .ok (.iinc 1 1, 3) := by decide +kernel
theorem dX2_takeNumber_70 : decode cX2_takeNumber 70 = .ok (.goto (-63), 3) := by decide +kernel
theorem dX2_takeNumber_73 : decode cX2_takeNumber 73 = .ok (.aload_n 0, 1) := by decide +kernel
theorem dX2_takeNumber_74 : decode cX2_takeNumber 74 = .ok (.aload_n 0, 1) := by decide +kernel
theorem dX2_takeNumber_75 : decode cX2_takeNumber 75 = .ok (.getfield 22, 3) := by decide +kernel
theorem dX2_takeNumber_78 : decode cX2_takeNumber 78 = .ok (.aload_n 0, 1) := by decide +kernel
theorem dX2_takeNumber_79 : decode cX2_takeNumber 79 = .ok (.getfield 39, 3) := by decide +kernel
theorem dX2_takeNumber_82 : decode cX2_takeNumber 82 = .ok (.isub, 1) := by decide +kernel
theorem dX2_takeNumber_83 : decode cX2_takeNumber 83 = .ok (.iconst 5, 1) := by decide +kernel
theorem dX2_takeNumber_84 : decode cX2_takeNumber 84 = .ok (.if_icmp .gt 9, 3) := by decide +kernel
theorem dX2_takeNumber_87 : decode cX2_takeNumber 87 = .ok (.sipush 257, 3) := by decide +kernel
theorem dX2_takeNumber_90 : decode cX2_takeNumber 90 = .ok (.goto 6, 3) := by decide +kernel
theorem dX2_takeNumber_93 : decode cX2_takeNumber 93 = .ok (.sipush 259, 3) := by decide +kernel
theorem dX2_takeNumber_96 : decode cX2_takeNumber 96 = .ok (.putfield 36, 3) := by decide +kernel
theorem dX2_takeNumber_99 : decode cX2_takeNumber 99 = .ok (.return_, 1) := by decide +kernel
theorem dX2_takeWord_0 : decode cX2_takeWord 0 = .ok (.iconst 0, 1) := by decide +kernel
theorem dX2_takeWord_1 : decode cX2_takeWord 1 = .ok (.istore_n 1, 1) := by decide +kernel
theorem dX2_takeWord_2 : decode cX2_takeWord 2 = .ok (.iload_n 1, 1) := by decide +kernel
theorem dX2_takeWord_3 : decode cX2_takeWord 3 = .ok (.sipush 200, 3) := by decide +kernel
theorem dX2_takeWord_6 : decode cX2_takeWord 6 = .ok (.if_icmp .ge 36, 3) := by decide +kernel
theorem dX2_takeWord_9 : decode cX2_takeWord 9 = .ok (.aload_n 0, 1) := by decide +kernel
theorem dX2_takeWord_10 : decode cX2_takeWord 10 = .ok (.getfield 12, 3) := by decide +kernel
theorem dX2_takeWord_13 : decode cX2_takeWord 13 = .ok (.aload_n 0, 1) := by decide +kernel
theorem dX2_takeWord_14 : decode cX2_takeWord 14 = .ok (.getfield 22, 3) := by decide +kernel
theorem dX2_takeWord_17 : decode cX2_takeWord 17 = .ok (.invokevirtual 82, 3) := by decide +kernel
theorem dX2_takeWord_20 : decode cX2_takeWord 20 = .ok (.invokestatic 92, 3) := by decide +kernel
theorem dX2_takeWord_23 : decode cX2_takeWord 23 = .ok (.ifCond .eq 19, 3) := by decide +kernel
theorem dX2_takeWord_26 : decode cX2_takeWord 26 = .ok (.aload_n 0, 1) := by decide +kernel
theorem dX2_takeWord_27 : decode cX2_takeWord 27 = .ok (.dup, 1) := by decide +kernel
theorem dX2_takeWord_28 : decode cX2_takeWord 28 = .ok (.getfield 22, 3) := by decide +kernel
theorem dX2_takeWord_31 : decode cX2_takeWord 31 = .ok (.iconst 1, 1) := by decide +kernel
theorem dX2_takeWord_32 : decode cX2_takeWord 32 = .ok (.iadd, 1) := by decide +kernel
theorem dX2_takeWord_33 : decode cX2_takeWord 33 = .ok (.putfield 22, 3) := by decide +kernel
theorem dX2_takeWord_36 : decode cX2_takeWord 36 = .ok (.iinc 1 1, 3) := by decide +kernel
theorem dX2_takeWord_39 : decode cX2_takeWord 39 = .ok (.goto (-37), 3) := by decide +kernel
theorem dX2_takeWord_42 : decode cX2_takeWord 42 = .ok (.aload_n 0, 1) := by decide +kernel
theorem dX2_takeWord_43 : decode cX2_takeWord 43 = .ok (.sipush 259, 3) := by decide +kernel
theorem dX2_takeWord_46 : decode cX2_takeWord 46 = .ok (.putfield 36, 3) := by decide +kernel
theorem dX2_takeWord_49 : decode cX2_takeWord 49 = .ok (.iconst 0, 1) := by decide +kernel
theorem dX2_takeWord_50 : decode cX2_takeWord 50 = .ok (.istore_n 1, 1) := by decide +kernel
theorem dX2_takeWord_51 : decode cX2_takeWord 51 = .ok (.iload_n 1, 1) := by decide +kernel
theorem dX2_takeWord_52 : decode cX2_takeWord 52 = .ok (.bipush 16, 2) := by decide +kernel
theorem dX2_takeWord_54 : decode cX2_takeWord 54 = .ok (.if_icmp .ge 56, 3) := by decide +kernel
theorem dX2_takeWord_57 : decode cX2_takeWord 57 = .ok (.aload_n 0, 1) := by decide +kernel
theorem dX2_takeWord_58 : decode cX2_takeWord 58 = .ok (.getfield 36, 3) := by decide +kernel
theorem dX2_takeWord_61 : decode cX2_takeWord 61 = .ok (.sipush 259, 3) := by decide +kernel
theorem dX2_takeWord_64 : decode cX2_takeWord 64 = .ok (.if_icmp .ne 46, 3) := by decide +kernel
theorem dX2_takeWord_67 : decode cX2_takeWord 67 = .ok (.aload_n 0, 1) := by decide +kernel
theorem dX2_takeWord_68 : decode cX2_takeWord 68 = .ok (.iload_n 1, 1) := by decide +kernel
theorem dX2_takeWord_69 : decode cX2_takeWord 69 = .ok (.invokevirtual 98, 3) := by decide +kernel
theorem dX2_takeWord_72 : decode cX2_takeWord 72 = .ok (.ifCond .eq 32, 3) := by decide +kernel
theorem dX2_takeWord_75 : decode cX2_takeWord 75 = .ok (.aload_n 0, 1) := by decide +kernel
theorem dX2_takeWord_76 : decode cX2_takeWord 76 = .ok (.iload_n 1, 1) := by decide +kernel
theorem dX2_takeWord_77 : decode cX2_takeWord 77 = .ok (.putfield 70, 3) := by decide +kernel
theorem dX2_takeWord_80 : decode cX2_takeWord 80 = .ok (.aload_n 0, 1) := by decide +kernel
theorem dX2_takeWord_81 : decode cX2_takeWord 81 = .ok (.iload_n 1, 1) := by decide +kernel
theorem dX2_takeWord_82 : decode cX2_takeWord 82 = .ok (.bipush 13, 2) := by decide +kernel
theorem dX2_takeWord_84 : decode cX2_takeWord 84 = .ok (.if_icmp .ge 9, 3) := by decide +kernel
theorem dX2_takeWord_87 : decode cX2_takeWord 87 = .ok (.sipush 258, 3) := by decide +kernel
theorem dX2_takeWord_90 : decode cX2_takeWord 90 = .ok (.goto 11, 3) := by decide +kernel
theorem dX2_takeWord_93 : decode cX2_takeWord 93 = .ok (.sipush 260, 3) := by decide +kernel
theorem dX2_takeWord_96 : decode cX2_takeWord 96 = .ok (.iload_n 1, 1) := by decide +kernel
theorem dX2_takeWord_97 : decode cX2_takeWord 97 = .ok (.iadd, 1) := by decide +kernel
theorem dX2_takeWord_98 : decode cX2_takeWord 98 = .ok (.bipush 13, 2) := by decide +kernel
theorem dX2_takeWord_100 : decode cX2_takeWord 100 = .ok (.isub, 1) := by decide +kernel
theorem dX2_takeWord_101 : decode cX2_takeWord 101 = .ok (.putfield 36, 3) := by decide +kernel
theorem dX2_takeWord_104 : decode cX2_takeWord 104 = .ok (.iinc 1 1, 3) := by decide +kernel
theorem dX2_takeWord_107 : decode cX2_takeWord 107 = .ok (.goto (-56), 3) := by decide +kernel
theorem dX2_takeWord_110 : decode cX2_takeWord 110 = .ok (.return_, 1) := by decide +kernel
theorem dX2_isWord_0 : decode cX2_isWord 0 = .ok (.iconst 0, 1) := by decide +kernel
theorem dX2_isWord_1 : decode cX2_isWord 1 = .ok (.istore_n 2, 1) := by decide +kernel
theorem dX2_isWord_2 : decode cX2_isWord 2 = .ok (.iload_n 2, 1) := by decide +kernel
theorem dX2_isWord_3 : decode cX2_isWord 3 = .ok (.bipush 8, 2) := by decide +kernel
theorem dX2_isWord_5 : decode cX2_isWord 5 = .ok (.if_icmp .ge 58, 3) := by decide +kernel
theorem dX2_isWord_8 : decode cX2_isWord 8 = .ok (.aload_n 0, 1) := by decide +kernel
theorem dX2_isWord_9 : decode cX2_isWord 9 = .ok (.getfield 39, 3) := by decide +kernel
theorem dX2_isWord_12 : decode cX2_isWord 12 = .ok (.iload_n 2, 1) := by decide +kernel
theorem dX2_isWord_13 : decode cX2_isWord 13 = .ok (.iadd, 1) := by decide +kernel
theorem dX2_isWord_14 : decode cX2_isWord 14 = .ok (.aload_n 0, 1) := by decide +kernel
theorem dX2_isWord_15 : decode cX2_isWord 15 = .ok (.getfield 22, 3) := by decide +kernel
theorem dX2_isWord_18 : decode cX2_isWord 18 = .ok (.if_icmp .ge 19, 3) := by decide +kernel
theorem dX2_isWord_21 : decode cX2_isWord 21 = .ok (.aload_n 0, 1) := by decide +kernel
theorem dX2_isWord_22 : decode cX2_isWord 22 = .ok (.getfield 12, 3) := by decide +kernel
theorem dX2_isWord_25 : decode cX2_isWord 25 = .ok (.aload_n 0, 1) := by decide +kernel
theorem dX2_isWord_26 : decode cX2_isWord 26 = .ok (.getfield 39, 3) := by decide +kernel
theorem dX2_isWord_29 : decode cX2_isWord 29 = .ok (.iload_n 2, 1) := by decide +kernel
theorem dX2_isWord_30 : decode cX2_isWord 30 = .ok (.iadd, 1) := by decide +kernel
theorem dX2_isWord_31 : decode cX2_isWord 31 = .ok (.invokevirtual 82, 3) := by decide +kernel
theorem dX2_isWord_34 : decode cX2_isWord 34 = .ok (.goto 5, 3) := by decide +kernel
theorem dX2_isWord_37 : decode cX2_isWord 37 = .ok (.bipush 32, 2) := by decide +kernel
theorem dX2_isWord_39 : decode cX2_isWord 39 = .ok (.istore_n 3, 1) := by decide +kernel
theorem dX2_isWord_40 : decode cX2_isWord 40 = .ok (.iload_n 3, 1) := by decide +kernel
theorem dX2_isWord_41 : decode cX2_isWord 41 = .ok (.ldc 103, 2) := by decide +kernel
theorem dX2_isWord_43 : decode cX2_isWord 43 = .ok (.iload_n 1, 1) := by decide +kernel
theorem dX2_isWord_44 : decode cX2_isWord 44 = .ok (.bipush 8, 2) := by decide +kernel
theorem dX2_isWord_46 : decode cX2_isWord 46 = .ok (.imul, 1) := by decide +kernel
theorem dX2_isWord_47 : decode cX2_isWord 47 = .ok (.iload_n 2, 1) := by decide +kernel
theorem dX2_isWord_48 : decode cX2_isWord 48 = .ok (.iadd, 1) := by decide +kernel
theorem dX2_isWord_49 : decode cX2_isWord 49 = .ok (.invokevirtual 105, 3) := by decide +kernel
theorem dX2_isWord_52 : decode cX2_isWord 52 = .ok (.if_icmp .eq 5, 3) := by decide +kernel
theorem dX2_isWord_55 : decode cX2_isWord 55 = .ok (.iconst 0, 1) := by decide +kernel
theorem dX2_isWord_56 : decode cX2_isWord 56 = .ok (.ireturn, 1) := by decide +kernel
theorem dX2_isWord_57 : decode cX2_isWord 57 = .ok (.iinc 2 1, 3) := by decide +kernel
theorem dX2_isWord_60 : decode cX2_isWord 60 = .ok (.goto (-58), 3) := by decide +kernel
theorem dX2_isWord_63 : decode cX2_isWord 63 = .ok (.iconst 1, 1) := by decide +kernel
theorem dX2_isWord_64 : decode cX2_isWord 64 = .ok (.ireturn, 1) := by decide +kernel
theorem dX2_isDigit_0 : decode cX2_isDigit 0 = .ok (.iload_n 0, 1) := by decide +kernel
theorem dX2_isDigit_1 : decode cX2_isDigit 1 = .ok (.bipush 48, 2) := by decide +kernel
theorem dX2_isDigit_3 : decode cX2_isDigit 3 = .ok (.bipush 57, 2) := by decide +kernel
theorem dX2_isDigit_5 : decode cX2_isDigit 5 = .ok (.invokestatic 111, 3) := by decide +kernel
theorem dX2_isDigit_8 : decode cX2_isDigit 8 = .ok (.ireturn, 1) := by decide +kernel
theorem dX2_isLetter_0 : decode cX2_isLetter 0 = .ok (.iload_n 0, 1) := by decide +kernel
theorem dX2_isLetter_1 : decode cX2_isLetter 1 = .ok (.bipush 97, 2) := by decide +kernel
theorem dX2_isLetter_3 : decode cX2_isLetter 3 = .ok (.bipush 122, 2) := by decide +kernel
theorem dX2_isLetter_5 : decode cX2_isLetter 5 = .ok (.invokestatic 111, 3) := by decide +kernel
theorem dX2_isLetter_8 : decode cX2_isLetter 8 = .ok (.ireturn, 1) := by decide +kernel
theorem dX3_init_0 : decode cX3_init 0 = .ok (.aload_n 0, 1) := by decide +kernel
theorem dX3_init_1 : decode cX3_init 1 = .ok (.invokespecial 3, 3) := by decide +kernel
theorem dX3_init_4 : decode cX3_init 4 = .ok (.aload_n 0, 1) := by decide +kernel
theorem dX3_init_5 : decode cX3_init 5 = .ok (.sipush 200, 3) := by decide +kernel
theorem dX3_init_8 : decode cX3_init 8 = .ok (.newarray .int, 2) := by decide +kernel
theorem dX3_init_10 : decode cX3_init 10 = .ok (.putfield 9, 3) := by decide +kernel
theorem dX3_init_13 : decode cX3_init 13 = .ok (.return_, 1) := by decide +kernel
theorem dX3_append_0 : decode cX3_append 0 = .ok (.iconst 0, 1) := by decide +kernel
theorem dX3_append_1 : decode cX3_append 1 = .ok (.istore_n 3, 1) := by decide +kernel
theorem dX3_append_2 : decode cX3_append 2 = .ok (.iload_n 3, 1) := by decide +kernel
theorem dX3_append_3 : decode cX3_append 3 = .ok (.iload_n 1, 1) := by decide +kernel
theorem dX3_append_4 : decode cX3_append 4 = .ok (.if_icmp .ge 48, 3) := by decide +kernel
theorem dX3_append_7 : decode cX3_append 7 = .ok (.aload_n 0, 1) := by decide +kernel
theorem dX3_append_8 : decode cX3_append 8 = .ok (.getfield 15, 3) := by decide +kernel
theorem dX3_append_11 : decode cX3_append 11 = .ok (.sipush 200, 3) := by decide +kernel
theorem dX3_append_14 : decode cX3_append 14 = .ok (.if_icmp .ge 38, 3) := by decide +kernel
theorem dX3_append_17 : decode cX3_append 17 = .ok (.aload_n 0, 1) := by decide +kernel
theorem dX3_append_18 : decode cX3_append 18 = .ok (.getfield 9, 3) := by decide +kernel
theorem dX3_append_21 : decode cX3_append 21 = .ok (.aload_n 0, 1) := by decide +kernel
theorem dX3_append_22 : decode cX3_append 22 = .ok (.getfield 15, 3) := by decide +kernel
theorem dX3_append_25 : decode cX3_append 25 = .ok (.iload_n 2, 1) := by decide +kernel
theorem dX3_append_26 : decode cX3_append 26 = .ok (.bipush 8, 2) := by decide +kernel
theorem dX3_append_28 : decode cX3_append 28 = .ok (.iload_n 3, 1) := by decide +kernel
theorem dX3_append_29 : decode cX3_append 29 = .ok (.imul, 1) := by decide +kernel
theorem dX3_append_30 : decode cX3_append 30 = .ok (.iushr, 1) := by decide +kernel
theorem dX3_append_31 : decode cX3_append 31 = .ok (.sipush 255, 3) := by decide +kernel
theorem dX3_append_34 : decode cX3_append 34 = .ok (.iand, 1) := by decide +kernel
theorem dX3_append_35 : decode cX3_append 35 = .ok (.iastore, 1) := by decide +kernel
theorem dX3_append_36 : decode cX3_append 36 = .ok (.aload_n 0, 1) := by decide +kernel
theorem dX3_append_37 : decode cX3_append 37 = .ok (.dup, 1) := by decide +kernel
theorem dX3_append_38 : decode cX3_append 38 = .ok (.getfield 15, 3) := by decide +kernel
theorem dX3_append_41 : decode cX3_append 41 = .ok (.iconst 1, 1) := by decide +kernel
theorem dX3_append_42 : decode cX3_append 42 = .ok (.iadd, 1) := by decide +kernel
theorem dX3_append_43 : decode cX3_append 43 = .ok (.putfield 15, 3) := by decide +kernel
theorem dX3_append_46 : decode cX3_append 46 = .ok (.iinc 3 1, 3) := by decide +kernel
theorem dX3_append_49 : decode cX3_append 49 = .ok (.goto (-47), 3) := by decide +kernel
theorem dX3_append_52 : decode cX3_append 52 = .ok (.return_, 1) := by decide +kernel
theorem dX3_at_0 : decode cX3_at 0 = .ok (.iload_n 1, 1) := by decide +kernel
theorem dX3_at_1 : decode cX3_at 1 = .ok (.iconst 0, 1) := by decide +kernel
theorem dX3_at_2 : decode cX3_at 2 = .ok (.aload_n 0, 1) := by decide +kernel
theorem dX3_at_3 : decode cX3_at 3 = .ok (.getfield 15, 3) := by decide +kernel
theorem dX3_at_6 : decode cX3_at 6 = .ok (.iconst 1, 1) := by decide +kernel
theorem dX3_at_7 : decode cX3_at 7 = .ok (.isub, 1) := by decide +kernel
theorem dX3_at_8 : decode cX3_at 8 = .ok (.invokestatic 19, 3) := by decide +kernel
theorem dX3_at_11 : decode cX3_at 11 = .ok (.ifCond .eq 12, 3) := by decide +kernel
theorem dX3_at_14 : decode cX3_at 14 = .ok (.aload_n 0, 1) := by decide +kernel
theorem dX3_at_15 : decode cX3_at 15 = .ok (.getfield 9, 3) := by decide +kernel
theorem dX3_at_18 : decode cX3_at 18 = .ok (.iload_n 1, 1) := by decide +kernel
theorem dX3_at_19 : decode cX3_at 19 = .ok (.iaload, 1) := by decide +kernel
theorem dX3_at_20 : decode cX3_at 20 = .ok (.goto 5, 3) := by decide +kernel
theorem dX3_at_23 : decode cX3_at 23 = .ok (.bipush 32, 2) := by decide +kernel
theorem dX3_at_25 : decode cX3_at 25 = .ok (.ireturn, 1) := by decide +kernel
theorem dX4_init_0 : decode cX4_init 0 = .ok (.aload_n 0, 1) := by decide +kernel
theorem dX4_init_1 : decode cX4_init 1 = .ok (.invokespecial 3, 3) := by decide +kernel
theorem dX4_init_4 : decode cX4_init 4 = .ok (.aload_n 0, 1) := by decide +kernel
theorem dX4_init_5 : decode cX4_init 5 = .ok (.bipush 13, 2) := by decide +kernel
theorem dX4_init_7 : decode cX4_init 7 = .ok (.newarray .int, 2) := by decide +kernel
theorem dX4_init_9 : decode cX4_init 9 = .ok (.putfield 11, 3) := by decide +kernel
theorem dX4_init_12 : decode cX4_init 12 = .ok (.aload_n 0, 1) := by decide +kernel
theorem dX4_init_13 : decode cX4_init 13 = .ok (.sipush 200, 3) := by decide +kernel
theorem dX4_init_16 : decode cX4_init 16 = .ok (.newarray .int, 2) := by decide +kernel
theorem dX4_init_18 : decode cX4_init 18 = .ok (.putfield 15, 3) := by decide +kernel
theorem dX4_init_21 : decode cX4_init 21 = .ok (.return_, 1) := by decide +kernel
theorem dX4_lookAtGalley_0 : decode cX4_lookAtGalley 0 = .ok (.aload_n 0, 1) := by decide +kernel
theorem dX4_lookAtGalley_1 : decode cX4_lookAtGalley 1 = .ok (.getfield 11, 3) := by decide +kernel
theorem dX4_lookAtGalley_4 : decode cX4_lookAtGalley 4 = .ok (.iconst 0, 1) := by decide +kernel
theorem dX4_lookAtGalley_5 : decode cX4_lookAtGalley 5 = .ok (.invokestatic 18, 3) := by decide +kernel
theorem dX4_lookAtGalley_8 : decode cX4_lookAtGalley 8 = .ok (.aload_n 0, 1) := by decide +kernel
theorem dX4_lookAtGalley_9 : decode cX4_lookAtGalley 9 = .ok (.getfield 11, 3) := by decide +kernel
theorem dX4_lookAtGalley_12 : decode cX4_lookAtGalley 12 = .ok (.iconst 0, 1) := by decide +kernel
theorem dX4_lookAtGalley_13 : decode cX4_lookAtGalley 13 = .ok (.aload_n 1, 1) := by decide +kernel
theorem dX4_lookAtGalley_14 : decode cX4_lookAtGalley 14 = .ok (.getfield 24, 3) := by decide +kernel
theorem dX4_lookAtGalley_17 : decode cX4_lookAtGalley 17 = .ok (.iastore, 1) := by decide +kernel
theorem dX4_lookAtGalley_18 : decode cX4_lookAtGalley 18 = .ok (.aload_n 0, 1) := by decide +kernel
theorem dX4_lookAtGalley_19 : decode cX4_lookAtGalley 19 = .ok (.getfield 11, 3) := by decide +kernel
theorem dX4_lookAtGalley_22 : decode cX4_lookAtGalley 22 = .ok (.iconst 1, 1) := by decide +kernel
theorem dX4_lookAtGalley_23 : decode cX4_lookAtGalley 23 = .ok (.iload_n 2, 1) := by decide +kernel
theorem dX4_lookAtGalley_24 : decode cX4_lookAtGalley 24 = .ok (.iastore, 1) := by decide +kernel
theorem dX4_lookAtGalley_25 : decode cX4_lookAtGalley 25 = .ok (.aload_n 0, 1) := by decide +kernel
theorem dX4_lookAtGalley_26 : decode cX4_lookAtGalley 26 = .ok (.getfield 11, 3) := by decide +kernel
theorem dX4_lookAtGalley_29 : decode cX4_lookAtGalley 29 = .ok (.iconst 2, 1) := by decide +kernel
theorem dX4_lookAtGalley_30 : decode cX4_lookAtGalley 30 = .ok (.aload_n 1, 1) := by decide +kernel
theorem dX4_lookAtGalley_31 : decode cX4_lookAtGalley 31 = .ok (.getfield 30, 3) := by decide +kernel
theorem dX4_lookAtGalley_34 : decode cX4_lookAtGalley 34 = .ok (.iastore, 1) := by decide +kernel
theorem dX4_lookAtGalley_35 : decode cX4_lookAtGalley 35 = .ok (.aload_n 0, 1) := by decide +kernel
theorem dX4_lookAtGalley_36 : decode cX4_lookAtGalley 36 = .ok (.getfield 11, 3) := by decide +kernel
theorem dX4_lookAtGalley_39 : decode cX4_lookAtGalley 39 = .ok (.iconst 3, 1) := by decide +kernel
theorem dX4_lookAtGalley_40 : decode cX4_lookAtGalley 40 = .ok (.iload_n 3, 1) := by decide +kernel
theorem dX4_lookAtGalley_41 : decode cX4_lookAtGalley 41 = .ok (.iastore, 1) := by decide +kernel
theorem dX4_lookAtGalley_42 : decode cX4_lookAtGalley 42 = .ok (.aload_n 0, 1) := by decide +kernel
theorem dX4_lookAtGalley_43 : decode cX4_lookAtGalley 43 = .ok (.getfield 11, 3) := by decide +kernel
theorem dX4_lookAtGalley_46 : decode cX4_lookAtGalley 46 = .ok (.iconst 5, 1) := by decide +kernel
theorem dX4_lookAtGalley_47 : decode cX4_lookAtGalley 47 = .ok (.iload_n 2, 1) := by decide +kernel
theorem dX4_lookAtGalley_48 : decode cX4_lookAtGalley 48 = .ok (.aload_n 1, 1) := by decide +kernel
theorem dX4_lookAtGalley_49 : decode cX4_lookAtGalley 49 = .ok (.getfield 33, 3) := by decide +kernel
theorem dX4_lookAtGalley_52 : decode cX4_lookAtGalley 52 = .ok (.isub, 1) := by decide +kernel
theorem dX4_lookAtGalley_53 : decode cX4_lookAtGalley 53 = .ok (.iastore, 1) := by decide +kernel
theorem dX4_lookAtGalley_54 : decode cX4_lookAtGalley 54 = .ok (.aload_n 0, 1) := by decide +kernel
theorem dX4_lookAtGalley_55 : decode cX4_lookAtGalley 55 = .ok (.getfield 11, 3) := by decide +kernel
theorem dX4_lookAtGalley_58 : decode cX4_lookAtGalley 58 = .ok (.bipush 6, 2) := by decide +kernel
theorem dX4_lookAtGalley_60 : decode cX4_lookAtGalley 60 = .ok (.aload_n 1, 1) := by decide +kernel
theorem dX4_lookAtGalley_61 : decode cX4_lookAtGalley 61 = .ok (.getfield 36, 3) := by decide +kernel
theorem dX4_lookAtGalley_64 : decode cX4_lookAtGalley 64 = .ok (.iastore, 1) := by decide +kernel
theorem dX4_lookAtGalley_65 : decode cX4_lookAtGalley 65 = .ok (.return_, 1) := by decide +kernel
theorem dX4_lookAtBale_0 : decode cX4_lookAtBale 0 = .ok (.aload_n 0, 1) := by decide +kernel
theorem dX4_lookAtBale_1 : decode cX4_lookAtBale 1 = .ok (.getfield 11, 3) := by decide +kernel
theorem dX4_lookAtBale_4 : decode cX4_lookAtBale 4 = .ok (.bipush 7, 2) := by decide +kernel
theorem dX4_lookAtBale_6 : decode cX4_lookAtBale 6 = .ok (.aload_n 1, 1) := by decide +kernel
theorem dX4_lookAtBale_7 : decode cX4_lookAtBale 7 = .ok (.getfield 39, 3) := by decide +kernel
theorem dX4_lookAtBale_10 : decode cX4_lookAtBale 10 = .ok (.iastore, 1) := by decide +kernel
theorem dX4_lookAtBale_11 : decode cX4_lookAtBale 11 = .ok (.aload_n 0, 1) := by decide +kernel
theorem dX4_lookAtBale_12 : decode cX4_lookAtBale 12 = .ok (.getfield 11, 3) := by decide +kernel
theorem dX4_lookAtBale_15 : decode cX4_lookAtBale 15 = .ok (.bipush 8, 2) := by decide +kernel
theorem dX4_lookAtBale_17 : decode cX4_lookAtBale 17 = .ok (.aload_n 1, 1) := by decide +kernel
theorem dX4_lookAtBale_18 : decode cX4_lookAtBale 18 = .ok (.getfield 44, 3) := by decide +kernel
theorem dX4_lookAtBale_21 : decode cX4_lookAtBale 21 = .ok (.iastore, 1) := by decide +kernel
theorem dX4_lookAtBale_22 : decode cX4_lookAtBale 22 = .ok (.aload_n 0, 1) := by decide +kernel
theorem dX4_lookAtBale_23 : decode cX4_lookAtBale 23 = .ok (.getfield 11, 3) := by decide +kernel
theorem dX4_lookAtBale_26 : decode cX4_lookAtBale 26 = .ok (.bipush 9, 2) := by decide +kernel
theorem dX4_lookAtBale_28 : decode cX4_lookAtBale 28 = .ok (.aload_n 1, 1) := by decide +kernel
theorem dX4_lookAtBale_29 : decode cX4_lookAtBale 29 = .ok (.getfield 47, 3) := by decide +kernel
theorem dX4_lookAtBale_32 : decode cX4_lookAtBale 32 = .ok (.iastore, 1) := by decide +kernel
theorem dX4_lookAtBale_33 : decode cX4_lookAtBale 33 = .ok (.aload_n 0, 1) := by decide +kernel
theorem dX4_lookAtBale_34 : decode cX4_lookAtBale 34 = .ok (.getfield 11, 3) := by decide +kernel
theorem dX4_lookAtBale_37 : decode cX4_lookAtBale 37 = .ok (.bipush 10, 2) := by decide +kernel
theorem dX4_lookAtBale_39 : decode cX4_lookAtBale 39 = .ok (.aload_n 1, 1) := by decide +kernel
theorem dX4_lookAtBale_40 : decode cX4_lookAtBale 40 = .ok (.getfield 50, 3) := by decide +kernel
theorem dX4_lookAtBale_43 : decode cX4_lookAtBale 43 = .ok (.iastore, 1) := by decide +kernel
theorem dX4_lookAtBale_44 : decode cX4_lookAtBale 44 = .ok (.aload_n 0, 1) := by decide +kernel
theorem dX4_lookAtBale_45 : decode cX4_lookAtBale 45 = .ok (.getfield 11, 3) := by decide +kernel
theorem dX4_lookAtBale_48 : decode cX4_lookAtBale 48 = .ok (.bipush 11, 2) := by decide +kernel
theorem dX4_lookAtBale_50 : decode cX4_lookAtBale 50 = .ok (.aload_n 1, 1) := by decide +kernel
theorem dX4_lookAtBale_51 : decode cX4_lookAtBale 51 = .ok (.getfield 53, 3) := by decide +kernel
theorem dX4_lookAtBale_54 : decode cX4_lookAtBale 54 = .ok (.iastore, 1) := by decide +kernel
theorem dX4_lookAtBale_55 : decode cX4_lookAtBale 55 = .ok (.aload_n 0, 1) := by decide +kernel
theorem dX4_lookAtBale_56 : decode cX4_lookAtBale 56 = .ok (.getfield 11, 3) := by decide +kernel
theorem dX4_lookAtBale_59 : decode cX4_lookAtBale 59 = .ok (.bipush 12, 2) := by decide +kernel
theorem dX4_lookAtBale_61 : decode cX4_lookAtBale 61 = .ok (.iload_n 2, 1) := by decide +kernel
theorem dX4_lookAtBale_62 : decode cX4_lookAtBale 62 = .ok (.aload_n 1, 1) := by decide +kernel
theorem dX4_lookAtBale_63 : decode cX4_lookAtBale 63 = .ok (.getfield 56, 3) := by decide +kernel
theorem dX4_lookAtBale_66 : decode cX4_lookAtBale 66 = .ok (.isub, 1) := by decide +kernel
theorem dX4_lookAtBale_67 : decode cX4_lookAtBale 67 = .ok (.iastore, 1) := by decide +kernel
theorem dX4_lookAtBale_68 : decode cX4_lookAtBale 68 = .ok (.return_, 1) := by decide +kernel
theorem dX4_lookAtOther_0 : decode cX4_lookAtOther 0 = .ok (.aload_n 0, 1) := by decide +kernel
theorem dX4_lookAtOther_1 : decode cX4_lookAtOther 1 = .ok (.getfield 11, 3) := by decide +kernel
theorem dX4_lookAtOther_4 : decode cX4_lookAtOther 4 = .ok (.iconst 2, 1) := by decide +kernel
theorem dX4_lookAtOther_5 : decode cX4_lookAtOther 5 = .ok (.aload_n 1, 1) := by decide +kernel
theorem dX4_lookAtOther_6 : decode cX4_lookAtOther 6 = .ok (.getfield 30, 3) := by decide +kernel
theorem dX4_lookAtOther_9 : decode cX4_lookAtOther 9 = .ok (.iastore, 1) := by decide +kernel
theorem dX4_lookAtOther_10 : decode cX4_lookAtOther 10 = .ok (.aload_n 0, 1) := by decide +kernel
theorem dX4_lookAtOther_11 : decode cX4_lookAtOther 11 = .ok (.getfield 11, 3) := by decide +kernel
theorem dX4_lookAtOther_14 : decode cX4_lookAtOther 14 = .ok (.iconst 4, 1) := by decide +kernel
theorem dX4_lookAtOther_15 : decode cX4_lookAtOther 15 = .ok (.aload_n 0, 1) := by decide +kernel
theorem dX4_lookAtOther_16 : decode cX4_lookAtOther 16 = .ok (.getfield 11, 3) := by decide +kernel
theorem dX4_lookAtOther_19 : decode cX4_lookAtOther 19 = .ok (.iconst 5, 1) := by decide +kernel
theorem dX4_lookAtOther_20 : decode cX4_lookAtOther 20 = .ok (.iaload, 1) := by decide +kernel
theorem dX4_lookAtOther_21 : decode cX4_lookAtOther 21 = .ok (.iastore, 1) := by decide +kernel
theorem dX4_lookAtOther_22 : decode cX4_lookAtOther 22 = .ok (.return_, 1) := by decide +kernel
theorem dX4_workOut_0 : decode cX4_workOut 0 = .ok (.iconst 0, 1) := by decide +kernel
theorem dX4_workOut_1 : decode cX4_workOut 1 = .ok (.istore_n 2, 1) := by decide +kernel
theorem dX4_workOut_2 : decode cX4_workOut 2 = .ok (.iconst 0, 1) := by decide +kernel
theorem dX4_workOut_3 : decode cX4_workOut 3 = .ok (.istore_n 3, 1) := by decide +kernel
theorem dX4_workOut_4 : decode cX4_workOut 4 = .ok (.iload_n 3, 1) := by decide +kernel
theorem dX4_workOut_5 : decode cX4_workOut 5 = .ok (.aload_n 1, 1) := by decide +kernel
theorem dX4_workOut_6 : decode cX4_workOut 6 = .ok (.arraylength, 1) := by decide +kernel
theorem dX4_workOut_7 : decode cX4_workOut 7 = .ok (.if_icmp .ge 142, 3) := by decide +kernel
theorem dX4_workOut_10 : decode cX4_workOut 10 = .ok (.aload_n 1, 1) := by decide +kernel
theorem dX4_workOut_11 : decode cX4_workOut 11 = .ok (.iload_n 3, 1) := by decide +kernel
theorem dX4_workOut_12 : decode cX4_workOut 12 = .ok (.iaload, 1) := by decide +kernel
theorem dX4_workOut_13 : decode cX4_workOut 13 = .ok (.istore 4, 2) := by decide +kernel
theorem dX4_workOut_15 : decode cX4_workOut 15 = .ok (.iload 4, 2) := by decide +kernel
theorem dX4_workOut_17 : decode cX4_workOut 17 = .ok (.bipush (-13), 2) := by decide +kernel
theorem dX4_workOut_19 : decode cX4_workOut 19 = .ok (.if_icmp .lt 43, 3) := by decide +kernel
theorem dX4_workOut_22 : decode cX4_workOut 22 = .ok (.iload_n 2, 1) := by decide +kernel
theorem dX4_workOut_23 : decode cX4_workOut 23 = .ok (.aload_n 0, 1) := by decide +kernel
theorem dX4_workOut_24 : decode cX4_workOut 24 = .ok (.getfield 15, 3) := by decide +kernel
theorem dX4_workOut_27 : decode cX4_workOut 27 = .ok (.arraylength, 1) := by decide +kernel
theorem dX4_workOut_28 : decode cX4_workOut 28 = .ok (.if_icmp .ge 115, 3) := by decide +kernel
theorem dX4_workOut_31 : decode cX4_workOut 31 = .ok (.aload_n 0, 1) := by decide +kernel
theorem dX4_workOut_32 : decode cX4_workOut 32 = .ok (.getfield 15, 3) := by decide +kernel
theorem dX4_workOut_35 : decode cX4_workOut 35 = .ok (.iload_n 2, 1) := by decide +kernel
theorem dX4_workOut_36 : decode cX4_workOut 36 = .ok (.iload 4, 2) := by decide +kernel
theorem dX4_workOut_38 : decode cX4_workOut 38 = .ok (.ifCond .lt 8, 3) := by decide +kernel
theorem dX4_workOut_41 : decode cX4_workOut 41 = .ok (.iload 4, 2) := by decide +kernel
theorem dX4_workOut_43 : decode cX4_workOut 43 = .ok (.goto 12, 3) := by decide +kernel
theorem dX4_workOut_46 : decode cX4_workOut 46 = .ok (.aload_n 0, 1) := by decide +kernel
theorem dX4_workOut_47 : decode cX4_workOut 47 = .ok (.getfield 11, 3) := by decide +kernel
theorem dX4_workOut_50 : decode cX4_workOut 50 = .ok (.iconst (-1), 1) := by decide +kernel
theorem dX4_workOut_51 : decode cX4_workOut 51 = .ok (.iload 4, 2) := by decide +kernel
theorem dX4_workOut_53 : decode cX4_workOut 53 = .ok (.isub, 1) := by decide +kernel
theorem dX4_workOut_54 : decode cX4_workOut 54 = .ok (.iaload, 1) := by decide +kernel
theorem dX4_workOut_55 : decode cX4_workOut 55 = .ok (.iastore, 1) := by decide +kernel
theorem dX4_workOut_56 : decode cX4_workOut 56 = .ok (.iinc 2 1, 3) := by decide +kernel
theorem dX4_workOut_59 : decode cX4_workOut 59 = .ok (.goto 84, 3) := by decide +kernel
theorem dX4_workOut_62 : decode cX4_workOut 62 = .ok (.iload 4, 2) := by decide +kernel
theorem dX4_workOut_64 : decode cX4_workOut 64 = .ok (.sipush (-263), 3) := by decide +kernel
theorem dX4_workOut_67 : decode cX4_workOut 67 = .ok (.if_icmp .eq 11, 3) := by decide +kernel
theorem dX4_workOut_70 : decode cX4_workOut 70 = .ok (.iload 4, 2) := by decide +kernel
theorem dX4_workOut_72 : decode cX4_workOut 72 = .ok (.sipush (-262), 3) := by decide +kernel
theorem dX4_workOut_75 : decode cX4_workOut 75 = .ok (.if_icmp .ne 32, 3) := by decide +kernel
theorem dX4_workOut_78 : decode cX4_workOut 78 = .ok (.iload_n 2, 1) := by decide +kernel
theorem dX4_workOut_79 : decode cX4_workOut 79 = .ok (.iconst 1, 1) := by decide +kernel
theorem dX4_workOut_80 : decode cX4_workOut 80 = .ok (.if_icmp .lt 63, 3) := by decide +kernel
theorem dX4_workOut_83 : decode cX4_workOut 83 = .ok (.aload_n 0, 1) := by decide +kernel
theorem dX4_workOut_84 : decode cX4_workOut 84 = .ok (.getfield 15, 3) := by decide +kernel
theorem dX4_workOut_87 : decode cX4_workOut 87 = .ok (.iload_n 2, 1) := by decide +kernel
theorem dX4_workOut_88 : decode cX4_workOut 88 = .ok (.iconst 1, 1) := by decide +kernel
theorem dX4_workOut_89 : decode cX4_workOut 89 = .ok (.isub, 1) := by decide +kernel
theorem dX4_workOut_90 : decode cX4_workOut 90 = .ok (.iload 4, 2) := by decide +kernel
theorem dX4_workOut_92 : decode cX4_workOut 92 = .ok (.aload_n 0, 1) := by decide +kernel
theorem dX4_workOut_93 : decode cX4_workOut 93 = .ok (.getfield 15, 3) := by decide +kernel
theorem dX4_workOut_96 : decode cX4_workOut 96 = .ok (.iload_n 2, 1) := by decide +kernel
theorem dX4_workOut_97 : decode cX4_workOut 97 = .ok (.iconst 1, 1) := by decide +kernel
theorem dX4_workOut_98 : decode cX4_workOut 98 = .ok (.isub, 1) := by decide +kernel
theorem dX4_workOut_99 : decode cX4_workOut 99 = .ok (.iaload, 1) := by decide +kernel
theorem dX4_workOut_100 : decode cX4_workOut 100 = .ok (.invokestatic 61, 3) := by decide +kernel
theorem dX4_workOut_103 : decode cX4_workOut 103 = .ok (.iastore, 1) := by decide +kernel
theorem dX4_workOut_104 : decode cX4_workOut 104 = .ok (.goto 39, 3) := by decide +kernel
theorem dX4_workOut_107 : decode cX4_workOut 107 = .ok (.iload_n 2, 1) := by decide +kernel
theorem dX4_workOut_108 : decode cX4_workOut 108 = .ok (.iconst 2, 1) := by decide +kernel
theorem dX4_workOut_109 : decode cX4_workOut 109 = .ok (.if_icmp .lt 34, 3) := by decide +kernel
theorem dX4_workOut_112 : decode cX4_workOut 112 = .ok (.iinc 2 (-1), 3) := by decide +kernel
theorem dX4_workOut_115 : decode cX4_workOut 115 = .ok (.aload_n 0, 1) := by decide +kernel
theorem dX4_workOut_116 : decode cX4_workOut 116 = .ok (.getfield 15, 3) := by decide +kernel
theorem dX4_workOut_119 : decode cX4_workOut 119 = .ok (.iload_n 2, 1) := by decide +kernel
theorem dX4_workOut_120 : decode cX4_workOut 120 = .ok (.iconst 1, 1) := by decide +kernel
theorem dX4_workOut_121 : decode cX4_workOut 121 = .ok (.isub, 1) := by decide +kernel
theorem dX4_workOut_122 : decode cX4_workOut 122 = .ok (.iload 4, 2) := by decide +kernel
theorem dX4_workOut_124 : decode cX4_workOut 124 = .ok (.ineg, 1) := by decide +kernel
theorem dX4_workOut_125 : decode cX4_workOut 125 = .ok (.aload_n 0, 1) := by decide +kernel
theorem dX4_workOut_126 : decode cX4_workOut 126 = .ok (.getfield 15, 3) := by decide +kernel
theorem dX4_workOut_129 : decode cX4_workOut 129 = .ok (.iload_n 2, 1) := by decide +kernel
theorem dX4_workOut_130 : decode cX4_workOut 130 = .ok (.iconst 1, 1) := by decide +kernel
theorem dX4_workOut_131 : decode cX4_workOut 131 = .ok (.isub, 1) := by decide +kernel
theorem dX4_workOut_132 : decode cX4_workOut 132 = .ok (.iaload, 1) := by decide +kernel
theorem dX4_workOut_133 : decode cX4_workOut 133 = .ok (.aload_n 0, 1) := by decide +kernel
theorem dX4_workOut_134 : decode cX4_workOut 134 = .ok (.getfield 15, 3) := by decide +kernel
theorem dX4_workOut_137 : decode cX4_workOut 137 = .ok (.iload_n 2, 1) := by decide +kernel
theorem dX4_workOut_138 : decode cX4_workOut 138 = .ok (.iaload, 1) := by decide +kernel
theorem dX4_workOut_139 : decode cX4_workOut 139 = .ok (.invokestatic 65, 3) := by decide +kernel
theorem dX4_workOut_142 : decode cX4_workOut 142 = .ok (.iastore, 1) := by decide +kernel
theorem dX4_workOut_143 : decode cX4_workOut 143 = .ok (.iinc 3 1, 3) := by decide +kernel
theorem dX4_workOut_146 : decode cX4_workOut 146 = .ok (.goto (-142), 3) := by decide +kernel
theorem dX4_workOut_149 : decode cX4_workOut 149 = .ok (.aload_n 0, 1) := by decide +kernel
theorem dX4_workOut_150 : decode cX4_workOut 150 = .ok (.getfield 15, 3) := by decide +kernel
theorem dX4_workOut_153 : decode cX4_workOut 153 = .ok (.iconst 0, 1) := by decide +kernel
theorem dX4_workOut_154 : decode cX4_workOut 154 = .ok (.iaload, 1) := by decide +kernel
theorem dX4_workOut_155 : decode cX4_workOut 155 = .ok (.ireturn, 1) := by decide +kernel
theorem dX4_turned_0 : decode cX4_turned 0 = .ok (.iload_n 0, 1) := by decide +kernel
theorem dX4_turned_1 : decode cX4_turned 1 = .ok (.sipush (-263), 3) := by decide +kernel
theorem dX4_turned_4 : decode cX4_turned 4 = .ok (.if_icmp .ne 6, 3) := by decide +kernel
theorem dX4_turned_7 : decode cX4_turned 7 = .ok (.iload_n 1, 1) := by decide +kernel
theorem dX4_turned_8 : decode cX4_turned 8 = .ok (.ineg, 1) := by decide +kernel
theorem dX4_turned_9 : decode cX4_turned 9 = .ok (.ireturn, 1) := by decide +kernel
theorem dX4_turned_10 : decode cX4_turned 10 = .ok (.iload_n 1, 1) := by decide +kernel
theorem dX4_turned_11 : decode cX4_turned 11 = .ok (.ifCond .ne 7, 3) := by decide +kernel
theorem dX4_turned_14 : decode cX4_turned 14 = .ok (.iconst 1, 1) := by decide +kernel
theorem dX4_turned_15 : decode cX4_turned 15 = .ok (.goto 4, 3) := by decide +kernel
theorem dX4_turned_18 : decode cX4_turned 18 = .ok (.iconst 0, 1) := by decide +kernel
theorem dX4_turned_19 : decode cX4_turned 19 = .ok (.ireturn, 1) := by decide +kernel
theorem dX4_joined_0 : decode cX4_joined 0 = .ok (.iload_n 0, 1) := by decide +kernel
theorem dX4_joined_1 : decode cX4_joined 1 = .ok (.lookupswitch 148 #[(42, 83), (43, 75), (45, 79), (60, 87), (61, 98), (62, 109), (260, 120), (261, 134)], 75) := by decide +kernel
theorem dX4_joined_76 : decode cX4_joined 76 = .ok (.iload_n 1, 1) := by decide +kernel
theorem dX4_joined_77 : decode cX4_joined 77 = .ok (.iload_n 2, 1) := by decide +kernel
theorem dX4_joined_78 : decode cX4_joined 78 = .ok (.iadd, 1) := by decide +kernel
theorem dX4_joined_79 : decode cX4_joined 79 = .ok (.ireturn, 1) := by decide +kernel
theorem dX4_joined_80 : decode cX4_joined 80 = .ok (.iload_n 1, 1) := by decide +kernel
theorem dX4_joined_81 : decode cX4_joined 81 = .ok (.iload_n 2, 1) := by decide +kernel
theorem dX4_joined_82 : decode cX4_joined 82 = .ok (.isub, 1) := by decide +kernel
theorem dX4_joined_83 : decode cX4_joined 83 = .ok (.ireturn, 1) := by decide +kernel
theorem dX4_joined_84 : decode cX4_joined 84 = .ok (.iload_n 1, 1) := by decide +kernel
theorem dX4_joined_85 : decode cX4_joined 85 = .ok (.iload_n 2, 1) := by decide +kernel
theorem dX4_joined_86 : decode cX4_joined 86 = .ok (.imul, 1) := by decide +kernel
theorem dX4_joined_87 : decode cX4_joined 87 = .ok (.ireturn, 1) := by decide +kernel
theorem dX4_joined_88 : decode cX4_joined 88 = .ok (.iload_n 1, 1) := by decide +kernel
theorem dX4_joined_89 : decode cX4_joined 89 = .ok (.iload_n 2, 1) := by decide +kernel
theorem dX4_joined_90 : decode cX4_joined 90 = .ok (.if_icmp .ge 7, 3) := by decide +kernel
theorem dX4_joined_93 : decode cX4_joined 93 = .ok (.iconst 1, 1) := by decide +kernel
theorem dX4_joined_94 : decode cX4_joined 94 = .ok (.goto 4, 3) := by decide +kernel
theorem dX4_joined_97 : decode cX4_joined 97 = .ok (.iconst 0, 1) := by decide +kernel
theorem dX4_joined_98 : decode cX4_joined 98 = .ok (.ireturn, 1) := by decide +kernel
theorem dX4_joined_99 : decode cX4_joined 99 = .ok (.iload_n 1, 1) := by decide +kernel
theorem dX4_joined_100 : decode cX4_joined 100 = .ok (.iload_n 2, 1) := by decide +kernel
theorem dX4_joined_101 : decode cX4_joined 101 = .ok (.if_icmp .ne 7, 3) := by decide +kernel
theorem dX4_joined_104 : decode cX4_joined 104 = .ok (.iconst 1, 1) := by decide +kernel
theorem dX4_joined_105 : decode cX4_joined 105 = .ok (.goto 4, 3) := by decide +kernel
theorem dX4_joined_108 : decode cX4_joined 108 = .ok (.iconst 0, 1) := by decide +kernel
theorem dX4_joined_109 : decode cX4_joined 109 = .ok (.ireturn, 1) := by decide +kernel
theorem dX4_joined_110 : decode cX4_joined 110 = .ok (.iload_n 1, 1) := by decide +kernel
theorem dX4_joined_111 : decode cX4_joined 111 = .ok (.iload_n 2, 1) := by decide +kernel
theorem dX4_joined_112 : decode cX4_joined 112 = .ok (.if_icmp .le 7, 3) := by decide +kernel
theorem dX4_joined_115 : decode cX4_joined 115 = .ok (.iconst 1, 1) := by decide +kernel
theorem dX4_joined_116 : decode cX4_joined 116 = .ok (.goto 4, 3) := by decide +kernel
theorem dX4_joined_119 : decode cX4_joined 119 = .ok (.iconst 0, 1) := by decide +kernel
theorem dX4_joined_120 : decode cX4_joined 120 = .ok (.ireturn, 1) := by decide +kernel
theorem dX4_joined_121 : decode cX4_joined 121 = .ok (.iload_n 1, 1) := by decide +kernel
theorem dX4_joined_122 : decode cX4_joined 122 = .ok (.ifCond .eq 11, 3) := by decide +kernel
theorem dX4_joined_125 : decode cX4_joined 125 = .ok (.iload_n 2, 1) := by decide +kernel
theorem dX4_joined_126 : decode cX4_joined 126 = .ok (.ifCond .eq 7, 3) := by decide +kernel
theorem dX4_joined_129 : decode cX4_joined 129 = .ok (.iconst 1, 1) := by decide +kernel
theorem dX4_joined_130 : decode cX4_joined 130 = .ok (.goto 4, 3) := by decide +kernel
theorem dX4_joined_133 : decode cX4_joined 133 = .ok (.iconst 0, 1) := by decide +kernel
theorem dX4_joined_134 : decode cX4_joined 134 = .ok (.ireturn, 1) := by decide +kernel
theorem dX4_joined_135 : decode cX4_joined 135 = .ok (.iload_n 1, 1) := by decide +kernel
theorem dX4_joined_136 : decode cX4_joined 136 = .ok (.ifCond .ne 7, 3) := by decide +kernel
theorem dX4_joined_139 : decode cX4_joined 139 = .ok (.iload_n 2, 1) := by decide +kernel
theorem dX4_joined_140 : decode cX4_joined 140 = .ok (.ifCond .eq 7, 3) := by decide +kernel
theorem dX4_joined_143 : decode cX4_joined 143 = .ok (.iconst 1, 1) := by decide +kernel
theorem dX4_joined_144 : decode cX4_joined 144 = .ok (.goto 4, 3) := by decide +kernel
theorem dX4_joined_147 : decode cX4_joined 147 = .ok (.iconst 0, 1) := by decide +kernel
theorem dX4_joined_148 : decode cX4_joined 148 = .ok (.ireturn, 1) := by decide +kernel
theorem dX4_joined_149 : decode cX4_joined 149 = .ok (.iconst 0, 1) := by decide +kernel
theorem dX4_joined_150 : decode cX4_joined 150 = .ok (.ireturn, 1) := by decide +kernel
theorem dX5_init_0 : decode cX5_init 0 = .ok (.aload_n 0, 1) := by decide +kernel
theorem dX5_init_1 : decode cX5_init 1 = .ok (.invokespecial 1, 3) := by decide +kernel
theorem dX5_init_4 : decode cX5_init 4 = .ok (.aload_n 0, 1) := by decide +kernel
theorem dX5_init_5 : decode cX5_init 5 = .ok (.iload_n 1, 1) := by decide +kernel
theorem dX5_init_6 : decode cX5_init 6 = .ok (.putfield 7, 3) := by decide +kernel
theorem dX5_init_9 : decode cX5_init 9 = .ok (.aload_n 0, 1) := by decide +kernel
theorem dX5_init_10 : decode cX5_init 10 = .ok (.iload_n 2, 1) := by decide +kernel
theorem dX5_init_11 : decode cX5_init 11 = .ok (.putfield 13, 3) := by decide +kernel
theorem dX5_init_14 : decode cX5_init 14 = .ok (.aload_n 0, 1) := by decide +kernel
theorem dX5_init_15 : decode cX5_init 15 = .ok (.aload_n 3, 1) := by decide +kernel
theorem dX5_init_16 : decode cX5_init 16 = .ok (.putfield 16, 3) := by decide +kernel
theorem dX5_init_19 : decode cX5_init 19 = .ok (.return_, 1) := by decide +kernel
theorem dJ9_max_7cf53_0 : decode cJ9_max_7cf53 0 = .ok (.iload_n 0, 1) := by decide +kernel
theorem dJ9_max_7cf53_1 : decode cJ9_max_7cf53 1 = .ok (.iload_n 1, 1) := by decide +kernel
theorem dJ9_max_7cf53_2 : decode cJ9_max_7cf53 2 = .ok (.if_icmp .lt 7, 3) := by decide +kernel
theorem dJ9_max_7cf53_5 : decode cJ9_max_7cf53 5 = .ok (.iload_n 0, 1) := by decide +kernel
theorem dJ9_max_7cf53_6 : decode cJ9_max_7cf53 6 = .ok (.goto 4, 3) := by decide +kernel
theorem dJ9_max_7cf53_9 : decode cJ9_max_7cf53 9 = .ok (.iload_n 1, 1) := by decide +kernel
theorem dJ9_max_7cf53_10 : decode cJ9_max_7cf53 10 = .ok (.ireturn, 1) := by decide +kernel
theorem dJ9_min_7cf53_0 : decode cJ9_min_7cf53 0 = .ok (.iload_n 0, 1) := by decide +kernel
theorem dJ9_min_7cf53_1 : decode cJ9_min_7cf53 1 = .ok (.iload_n 1, 1) := by decide +kernel
theorem dJ9_min_7cf53_2 : decode cJ9_min_7cf53 2 = .ok (.if_icmp .gt 7, 3) := by decide +kernel
theorem dJ9_min_7cf53_5 : decode cJ9_min_7cf53 5 = .ok (.iload_n 0, 1) := by decide +kernel
theorem dJ9_min_7cf53_6 : decode cJ9_min_7cf53 6 = .ok (.goto 4, 3) := by decide +kernel
theorem dJ9_min_7cf53_9 : decode cJ9_min_7cf53 9 = .ok (.iload_n 1, 1) := by decide +kernel
theorem dJ9_min_7cf53_10 : decode cJ9_min_7cf53 10 = .ok (.ireturn, 1) := by decide +kernel
theorem dJ0_charAt_5068e_0 : decode cJ0_charAt_5068e 0 = .ok (.aload_n 0, 1) := by decide +kernel
theorem dJ0_charAt_5068e_1 : decode cJ0_charAt_5068e 1 = .ok (.invokevirtual 492, 3) := by decide +kernel
theorem dJ0_charAt_5068e_4 : decode cJ0_charAt_5068e 4 = .ok (.ifCond .eq 12, 3) := by decide +kernel
theorem dJ0_charAt_5068e_7 : decode cJ0_charAt_5068e 7 = .ok (.aload_n 0, 1) := by decide +kernel
theorem dJ0_charAt_5068e_8 : decode cJ0_charAt_5068e 8 = .ok (.getfield 9, 3) := by decide +kernel
theorem dJ0_charAt_5068e_11 : decode cJ0_charAt_5068e 11 = .ok (.iload_n 1, 1) := by decide +kernel
theorem dJ0_charAt_5068e_12 : decode cJ0_charAt_5068e 12 = .ok (.invokestatic 495, 3) := by decide +kernel
theorem dJ0_charAt_5068e_15 : decode cJ0_charAt_5068e 15 = .ok (.ireturn, 1) := by decide +kernel
theorem dJ0_charAt_5068e_16 : decode cJ0_charAt_5068e 16 = .ok (.aload_n 0, 1) := by decide +kernel
theorem dJ0_charAt_5068e_17 : decode cJ0_charAt_5068e 17 = .ok (.getfield 9, 3) := by decide +kernel
theorem dJ0_charAt_5068e_20 : decode cJ0_charAt_5068e 20 = .ok (.iload_n 1, 1) := by decide +kernel
theorem dJ0_charAt_5068e_21 : decode cJ0_charAt_5068e 21 = .ok (.invokestatic 498, 3) := by decide +kernel
theorem dJ0_charAt_5068e_24 : decode cJ0_charAt_5068e 24 = .ok (.ireturn, 1) := by decide +kernel
theorem dJ0_isLatin1_aae02_0 : decode cJ0_isLatin1_aae02 0 = .ok (.getstatic 38, 3) := by decide +kernel
theorem dJ0_isLatin1_aae02_3 : decode cJ0_isLatin1_aae02 3 = .ok (.ifCond .eq 14, 3) := by decide +kernel
theorem dJ0_isLatin1_aae02_6 : decode cJ0_isLatin1_aae02 6 = .ok (.aload_n 0, 1) := by decide +kernel
theorem dJ0_isLatin1_aae02_7 : decode cJ0_isLatin1_aae02 7 = .ok (.getfield 15, 3) := by decide +kernel
theorem dJ0_isLatin1_aae02_10 : decode cJ0_isLatin1_aae02 10 = .ok (.ifCond .ne 7, 3) := by decide +kernel
theorem dJ0_isLatin1_aae02_13 : decode cJ0_isLatin1_aae02 13 = .ok (.iconst 1, 1) := by decide +kernel
theorem dJ0_isLatin1_aae02_14 : decode cJ0_isLatin1_aae02 14 = .ok (.goto 4, 3) := by decide +kernel
theorem dJ0_isLatin1_aae02_17 : decode cJ0_isLatin1_aae02 17 = .ok (.iconst 0, 1) := by decide +kernel
theorem dJ0_isLatin1_aae02_18 : decode cJ0_isLatin1_aae02 18 = .ok (.ireturn, 1) := by decide +kernel
theorem dJ0_checkIndex_df160_0 : decode cJ0_checkIndex_df160 0 = .ok (.iload_n 0, 1) := by decide +kernel
theorem dJ0_checkIndex_df160_1 : decode cJ0_checkIndex_df160 1 = .ok (.iload_n 1, 1) := by decide +kernel
theorem dJ0_checkIndex_df160_2 : decode cJ0_checkIndex_df160 2 = .ok (.getstatic 1053, 3) := by decide +kernel
theorem dJ0_checkIndex_df160_5 : decode cJ0_checkIndex_df160 5 = .ok (.invokestatic 1059, 3) := by decide +kernel
theorem dJ0_checkIndex_df160_8 : decode cJ0_checkIndex_df160 8 = .ok (.pop, 1) := by decide +kernel
theorem dJ0_checkIndex_df160_9 : decode cJ0_checkIndex_df160 9 = .ok (.return_, 1) := by decide +kernel
theorem dJ1_charAt_3b067_0 : decode cJ1_charAt_3b067 0 = .ok (.iload_n 1, 1) := by decide +kernel
theorem dJ1_charAt_3b067_1 : decode cJ1_charAt_3b067 1 = .ok (.aload_n 0, 1) := by decide +kernel
theorem dJ1_charAt_3b067_2 : decode cJ1_charAt_3b067 2 = .ok (.arraylength, 1) := by decide +kernel
theorem dJ1_charAt_3b067_3 : decode cJ1_charAt_3b067 3 = .ok (.invokestatic 9, 3) := by decide +kernel
theorem dJ1_charAt_3b067_6 : decode cJ1_charAt_3b067 6 = .ok (.aload_n 0, 1) := by decide +kernel
theorem dJ1_charAt_3b067_7 : decode cJ1_charAt_3b067 7 = .ok (.iload_n 1, 1) := by decide +kernel
theorem dJ1_charAt_3b067_8 : decode cJ1_charAt_3b067 8 = .ok (.baload, 1) := by decide +kernel
theorem dJ1_charAt_3b067_9 : decode cJ1_charAt_3b067 9 = .ok (.sipush 255, 3) := by decide +kernel
theorem dJ1_charAt_3b067_12 : decode cJ1_charAt_3b067 12 = .ok (.iand, 1) := by decide +kernel
theorem dJ1_charAt_3b067_13 : decode cJ1_charAt_3b067 13 = .ok (.i2c, 1) := by decide +kernel
theorem dJ1_charAt_3b067_14 : decode cJ1_charAt_3b067 14 = .ok (.ireturn, 1) := by decide +kernel
theorem dJ2_getChar_3b067_0 : decode cJ2_getChar_3b067 0 = .ok (.getstatic 44, 3) := by decide +kernel
theorem dJ2_getChar_3b067_3 : decode cJ2_getChar_3b067 3 = .ok (.ifCond .ne 25, 3) := by decide +kernel
theorem dJ2_getChar_3b067_6 : decode cJ2_getChar_3b067 6 = .ok (.iload_n 1, 1) := by decide +kernel
theorem dJ2_getChar_3b067_7 : decode cJ2_getChar_3b067 7 = .ok (.ifCond .lt 11, 3) := by decide +kernel
theorem dJ2_getChar_3b067_10 : decode cJ2_getChar_3b067 10 = .ok (.iload_n 1, 1) := by decide +kernel
theorem dJ2_getChar_3b067_11 : decode cJ2_getChar_3b067 11 = .ok (.aload_n 0, 1) := by decide +kernel
theorem dJ2_getChar_3b067_12 : decode cJ2_getChar_3b067 12 = .ok (.invokestatic 48, 3) := by decide +kernel
theorem dJ2_getChar_3b067_15 : decode cJ2_getChar_3b067 15 = .ok (.if_icmp .lt 13, 3) := by decide +kernel
theorem dJ2_getChar_3b067_18 : decode cJ2_getChar_3b067 18 = .ok (.new 52, 3) := by decide +kernel
theorem dJ2_getChar_3b067_21 : decode cJ2_getChar_3b067 21 = .ok (.dup, 1) := by decide +kernel
theorem dJ2_getChar_3b067_22 : decode cJ2_getChar_3b067 22 = .ok (.ldc 54, 2) := by decide +kernel
theorem dJ2_getChar_3b067_24 : decode cJ2_getChar_3b067 24 = .ok (.invokespecial 56, 3) := by decide +kernel
theorem dJ2_getChar_3b067_27 : decode cJ2_getChar_3b067 27 = .ok (.athrow, 1) := by decide +kernel
theorem dJ2_getChar_3b067_28 : decode cJ2_getChar_3b067 28 = .ok (.iload_n 1, 1) := by decide +kernel
theorem dJ2_getChar_3b067_29 : decode cJ2_getChar_3b067 29 = .ok (.iconst 1, 1) := by decide +kernel
theorem dJ2_getChar_3b067_30 : decode cJ2_getChar_3b067 30 = .ok (.ishl, 1) := by decide +kernel
theorem dJ2_getChar_3b067_31 : decode cJ2_getChar_3b067 31 = .ok (.istore_n 1, 1) := by decide +kernel
theorem dJ2_getChar_3b067_32 : decode cJ2_getChar_3b067 32 = .ok (.aload_n 0, 1) := by decide +kernel
theorem dJ2_getChar_3b067_33 : decode cJ2_getChar_3b067 33 = .ok (.iload_n 1, 1) := by decide +kernel
theorem dJ2_getChar_3b067_34 : decode cJ2_getChar_3b067 34 = .ok (.iinc 1 1, 3) := by decide +kernel
theorem dJ2_getChar_3b067_37 : decode cJ2_getChar_3b067 37 = .ok (.baload, 1) := by decide +kernel
theorem dJ2_getChar_3b067_38 : decode cJ2_getChar_3b067 38 = .ok (.sipush 255, 3) := by decide +kernel
theorem dJ2_getChar_3b067_41 : decode cJ2_getChar_3b067 41 = .ok (.iand, 1) := by decide +kernel
theorem dJ2_getChar_3b067_42 : decode cJ2_getChar_3b067 42 = .ok (.getstatic 59, 3) := by decide +kernel
theorem dJ2_getChar_3b067_45 : decode cJ2_getChar_3b067 45 = .ok (.ishl, 1) := by decide +kernel
theorem dJ2_getChar_3b067_46 : decode cJ2_getChar_3b067 46 = .ok (.aload_n 0, 1) := by decide +kernel
theorem dJ2_getChar_3b067_47 : decode cJ2_getChar_3b067 47 = .ok (.iload_n 1, 1) := by decide +kernel
theorem dJ2_getChar_3b067_48 : decode cJ2_getChar_3b067 48 = .ok (.baload, 1) := by decide +kernel
theorem dJ2_getChar_3b067_49 : decode cJ2_getChar_3b067 49 = .ok (.sipush 255, 3) := by decide +kernel
theorem dJ2_getChar_3b067_52 : decode cJ2_getChar_3b067 52 = .ok (.iand, 1) := by decide +kernel
theorem dJ2_getChar_3b067_53 : decode cJ2_getChar_3b067 53 = .ok (.getstatic 63, 3) := by decide +kernel
theorem dJ2_getChar_3b067_56 : decode cJ2_getChar_3b067 56 = .ok (.ishl, 1) := by decide +kernel
theorem dJ2_getChar_3b067_57 : decode cJ2_getChar_3b067 57 = .ok (.ior, 1) := by decide +kernel
theorem dJ2_getChar_3b067_58 : decode cJ2_getChar_3b067 58 = .ok (.i2c, 1) := by decide +kernel
theorem dJ2_getChar_3b067_59 : decode cJ2_getChar_3b067 59 = .ok (.ireturn, 1) := by decide +kernel
theorem dJ2_length_9d52b_0 : decode cJ2_length_9d52b 0 = .ok (.aload_n 0, 1) := by decide +kernel
theorem dJ2_length_9d52b_1 : decode cJ2_length_9d52b 1 = .ok (.arraylength, 1) := by decide +kernel
theorem dJ2_length_9d52b_2 : decode cJ2_length_9d52b 2 = .ok (.iconst 1, 1) := by decide +kernel
theorem dJ2_length_9d52b_3 : decode cJ2_length_9d52b 3 = .ok (.ishr, 1) := by decide +kernel
theorem dJ2_length_9d52b_4 : decode cJ2_length_9d52b 4 = .ok (.ireturn, 1) := by decide +kernel
theorem dJ2_charAt_3b067_0 : decode cJ2_charAt_3b067 0 = .ok (.iload_n 1, 1) := by decide +kernel
theorem dJ2_charAt_3b067_1 : decode cJ2_charAt_3b067 1 = .ok (.aload_n 0, 1) := by decide +kernel
theorem dJ2_charAt_3b067_2 : decode cJ2_charAt_3b067 2 = .ok (.invokestatic 67, 3) := by decide +kernel
theorem dJ2_charAt_3b067_5 : decode cJ2_charAt_3b067 5 = .ok (.aload_n 0, 1) := by decide +kernel
theorem dJ2_charAt_3b067_6 : decode cJ2_charAt_3b067 6 = .ok (.iload_n 1, 1) := by decide +kernel
theorem dJ2_charAt_3b067_7 : decode cJ2_charAt_3b067 7 = .ok (.invokestatic 71, 3) := by decide +kernel
theorem dJ2_charAt_3b067_10 : decode cJ2_charAt_3b067 10 = .ok (.ireturn, 1) := by decide +kernel
theorem dJ2_checkIndex_2214a_0 : decode cJ2_checkIndex_2214a 0 = .ok (.iload_n 0, 1) := by decide +kernel
theorem dJ2_checkIndex_2214a_1 : decode cJ2_checkIndex_2214a 1 = .ok (.aload_n 1, 1) := by decide +kernel
theorem dJ2_checkIndex_2214a_2 : decode cJ2_checkIndex_2214a 2 = .ok (.invokestatic 48, 3) := by decide +kernel
theorem dJ2_checkIndex_2214a_5 : decode cJ2_checkIndex_2214a 5 = .ok (.invokestatic 414, 3) := by decide +kernel
theorem dJ2_checkIndex_2214a_8 : decode cJ2_checkIndex_2214a 8 = .ok (.return_, 1) := by decide +kernel
theorem dJxa1e45_init_da8c8_0 : decode cJxa1e45_init_da8c8 0 = .ok (.aload_n 0, 1) := by decide +kernel
theorem dJxa1e45_init_da8c8_1 : decode cJxa1e45_init_da8c8 1 = .ok (.invokespecial 1, 3) := by decide +kernel
theorem dJxa1e45_init_da8c8_4 : decode cJxa1e45_init_da8c8 4 = .ok (.return_, 1) := by decide +kernel
theorem dJxc12de_init_da8c8_0 : decode cJxc12de_init_da8c8 0 = .ok (.aload_n 0, 1) := by decide +kernel
theorem dJxc12de_init_da8c8_1 : decode cJxc12de_init_da8c8 1 = .ok (.invokespecial 1, 3) := by decide +kernel
theorem dJxc12de_init_da8c8_4 : decode cJxc12de_init_da8c8 4 = .ok (.aload_n 0, 1) := by decide +kernel
theorem dJxc12de_init_da8c8_5 : decode cJxc12de_init_da8c8 5 = .ok (.iconst 0, 1) := by decide +kernel
theorem dJxc12de_init_da8c8_6 : decode cJxc12de_init_da8c8 6 = .ok (.putfield 7, 3) := by decide +kernel
theorem dJxc12de_init_da8c8_9 : decode cJxc12de_init_da8c8 9 = .ok (.return_, 1) := by decide +kernel
theorem dJx4a65c_init_da8c8_0 : decode cJx4a65c_init_da8c8 0 = .ok (.aload_n 0, 1) := by decide +kernel
theorem dJx4a65c_init_da8c8_1 : decode cJx4a65c_init_da8c8 1 = .ok (.invokespecial 1, 3) := by decide +kernel
theorem dJx4a65c_init_da8c8_4 : decode cJx4a65c_init_da8c8 4 = .ok (.aload_n 0, 1) := by decide +kernel
theorem dJx4a65c_init_da8c8_5 : decode cJx4a65c_init_da8c8 5 = .ok (.getstatic 39, 3) := by decide +kernel
theorem dJx4a65c_init_da8c8_8 : decode cJx4a65c_init_da8c8 8 = .ok (.putfield 9, 3) := by decide +kernel
theorem dJx4a65c_init_da8c8_11 : decode cJx4a65c_init_da8c8 11 = .ok (.return_, 1) := by decide +kernel
theorem dJx4a65c_grow_92f84_0 : decode cJx4a65c_grow_92f84 0 = .ok (.aload_n 0, 1) := by decide +kernel
theorem dJx4a65c_grow_92f84_1 : decode cJx4a65c_grow_92f84 1 = .ok (.getfield 9, 3) := by decide +kernel
theorem dJx4a65c_grow_92f84_4 : decode cJx4a65c_grow_92f84 4 = .ok (.arraylength, 1) := by decide +kernel
theorem dJx4a65c_grow_92f84_5 : decode cJx4a65c_grow_92f84 5 = .ok (.istore_n 2, 1) := by decide +kernel
theorem dJx4a65c_grow_92f84_6 : decode cJx4a65c_grow_92f84 6 = .ok (.iload_n 2, 1) := by decide +kernel
theorem dJx4a65c_grow_92f84_7 : decode cJx4a65c_grow_92f84 7 = .ok (.ifCond .gt 13, 3) := by decide +kernel
theorem dJx4a65c_grow_92f84_10 : decode cJx4a65c_grow_92f84 10 = .ok (.aload_n 0, 1) := by decide +kernel
theorem dJx4a65c_grow_92f84_11 : decode cJx4a65c_grow_92f84 11 = .ok (.getfield 9, 3) := by decide +kernel
theorem dJx4a65c_grow_92f84_14 : decode cJx4a65c_grow_92f84 14 = .ok (.getstatic 39, 3) := by decide +kernel
theorem dJx4a65c_grow_92f84_17 : decode cJx4a65c_grow_92f84 17 = .ok (.if_acmp .eq 28, 3) := by decide +kernel
theorem dJx4a65c_grow_92f84_20 : decode cJx4a65c_grow_92f84 20 = .ok (.iload_n 2, 1) := by decide +kernel
theorem dJx4a65c_grow_92f84_21 : decode cJx4a65c_grow_92f84 21 = .ok (.iload_n 1, 1) := by decide +kernel
theorem dJx4a65c_grow_92f84_22 : decode cJx4a65c_grow_92f84 22 = .ok (.iload_n 2, 1) := by decide +kernel
theorem dJx4a65c_grow_92f84_23 : decode cJx4a65c_grow_92f84 23 = .ok (.isub, 1) := by decide +kernel
theorem dJx4a65c_grow_92f84_24 : decode cJx4a65c_grow_92f84 24 = .ok (.iload_n 2, 1) := by decide +kernel
theorem dJx4a65c_grow_92f84_25 : decode cJx4a65c_grow_92f84 25 = .ok (.iconst 1, 1) := by decide +kernel
theorem dJx4a65c_grow_92f84_26 : decode cJx4a65c_grow_92f84 26 = .ok (.ishr, 1) := by decide +kernel
theorem dJx4a65c_grow_92f84_27 : decode cJx4a65c_grow_92f84 27 = .ok (.invokestatic 73, 3) := by decide +kernel
theorem dJx4a65c_grow_92f84_30 : decode cJx4a65c_grow_92f84 30 = .ok (.istore_n 3, 1) := by decide +kernel
theorem dJx4a65c_grow_92f84_31 : decode cJx4a65c_grow_92f84 31 = .ok (.aload_n 0, 1) := by decide +kernel
theorem dJx4a65c_grow_92f84_32 : decode cJx4a65c_grow_92f84 32 = .ok (.aload_n 0, 1) := by decide +kernel
theorem dJx4a65c_grow_92f84_33 : decode cJx4a65c_grow_92f84 33 = .ok (.getfield 9, 3) := by decide +kernel
theorem dJx4a65c_grow_92f84_36 : decode cJx4a65c_grow_92f84 36 = .ok (.iload_n 3, 1) := by decide +kernel
theorem dJx4a65c_grow_92f84_37 : decode cJx4a65c_grow_92f84 37 = .ok (.invokestatic 66, 3) := by decide +kernel
theorem dJx4a65c_grow_92f84_40 : decode cJx4a65c_grow_92f84 40 = .ok (.dup_x1, 1) := by decide +kernel
theorem dJx4a65c_grow_92f84_41 : decode cJx4a65c_grow_92f84 41 = .ok (.putfield 9, 3) := by decide +kernel
theorem dJx4a65c_grow_92f84_44 : decode cJx4a65c_grow_92f84 44 = .ok (.areturn, 1) := by decide +kernel
theorem dJx4a65c_grow_92f84_45 : decode cJx4a65c_grow_92f84 45 = .ok (.aload_n 0, 1) := by decide +kernel
theorem dJx4a65c_grow_92f84_46 : decode cJx4a65c_grow_92f84 46 = .ok (.bipush 10, 2) := by decide +kernel
theorem dJx4a65c_grow_92f84_48 : decode cJx4a65c_grow_92f84 48 = .ok (.iload_n 1, 1) := by decide +kernel
theorem dJx4a65c_grow_92f84_49 : decode cJx4a65c_grow_92f84 49 = .ok (.invokestatic 79, 3) := by decide +kernel
theorem dJx4a65c_grow_92f84_52 : decode cJx4a65c_grow_92f84 52 = .ok (.anewarray 7, 3) := by decide +kernel
theorem dJx4a65c_grow_92f84_55 : decode cJx4a65c_grow_92f84 55 = .ok (.dup_x1, 1) := by decide +kernel
theorem dJx4a65c_grow_92f84_56 : decode cJx4a65c_grow_92f84 56 = .ok (.putfield 9, 3) := by decide +kernel
theorem dJx4a65c_grow_92f84_59 : decode cJx4a65c_grow_92f84 59 = .ok (.areturn, 1) := by decide +kernel
theorem dJx4a65c_grow_d5877_0 : decode cJx4a65c_grow_d5877 0 = .ok (.aload_n 0, 1) := by decide +kernel
theorem dJx4a65c_grow_d5877_1 : decode cJx4a65c_grow_d5877 1 = .ok (.aload_n 0, 1) := by decide +kernel
theorem dJx4a65c_grow_d5877_2 : decode cJx4a65c_grow_d5877 2 = .ok (.getfield 48, 3) := by decide +kernel
theorem dJx4a65c_grow_d5877_5 : decode cJx4a65c_grow_d5877 5 = .ok (.iconst 1, 1) := by decide +kernel
theorem dJx4a65c_grow_d5877_6 : decode cJx4a65c_grow_d5877 6 = .ok (.iadd, 1) := by decide +kernel
theorem dJx4a65c_grow_d5877_7 : decode cJx4a65c_grow_d5877 7 = .ok (.invokevirtual 69, 3) := by decide +kernel
theorem dJx4a65c_grow_d5877_10 : decode cJx4a65c_grow_d5877 10 = .ok (.areturn, 1) := by decide +kernel
theorem dJx4a65c_size_8abf5_0 : decode cJx4a65c_size_8abf5 0 = .ok (.aload_n 0, 1) := by decide +kernel
theorem dJx4a65c_size_8abf5_1 : decode cJx4a65c_size_8abf5 1 = .ok (.getfield 48, 3) := by decide +kernel
theorem dJx4a65c_size_8abf5_4 : decode cJx4a65c_size_8abf5 4 = .ok (.ireturn, 1) := by decide +kernel
theorem dJx4a65c_elementData_915e3_0 : decode cJx4a65c_elementData_915e3 0 = .ok (.aload_n 0, 1) := by decide +kernel
theorem dJx4a65c_elementData_915e3_1 : decode cJx4a65c_elementData_915e3 1 = .ok (.getfield 9, 3) := by decide +kernel
theorem dJx4a65c_elementData_915e3_4 : decode cJx4a65c_elementData_915e3 4 = .ok (.iload_n 1, 1) := by decide +kernel
theorem dJx4a65c_elementData_915e3_5 : decode cJx4a65c_elementData_915e3 5 = .ok (.aaload, 1) := by decide +kernel
theorem dJx4a65c_elementData_915e3_6 : decode cJx4a65c_elementData_915e3 6 = .ok (.areturn, 1) := by decide +kernel
theorem dJx4a65c_get_915e3_0 : decode cJx4a65c_get_915e3 0 = .ok (.iload_n 1, 1) := by decide +kernel
theorem dJx4a65c_get_915e3_1 : decode cJx4a65c_get_915e3 1 = .ok (.aload_n 0, 1) := by decide +kernel
theorem dJx4a65c_get_915e3_2 : decode cJx4a65c_get_915e3 2 = .ok (.getfield 48, 3) := by decide +kernel
theorem dJx4a65c_get_915e3_5 : decode cJx4a65c_get_915e3 5 = .ok (.invokestatic 118, 3) := by decide +kernel
theorem dJx4a65c_get_915e3_8 : decode cJx4a65c_get_915e3 8 = .ok (.pop, 1) := by decide +kernel
theorem dJx4a65c_get_915e3_9 : decode cJx4a65c_get_915e3 9 = .ok (.aload_n 0, 1) := by decide +kernel
theorem dJx4a65c_get_915e3_10 : decode cJx4a65c_get_915e3 10 = .ok (.iload_n 1, 1) := by decide +kernel
theorem dJx4a65c_get_915e3_11 : decode cJx4a65c_get_915e3 11 = .ok (.invokevirtual 123, 3) := by decide +kernel
theorem dJx4a65c_get_915e3_14 : decode cJx4a65c_get_915e3 14 = .ok (.areturn, 1) := by decide +kernel
theorem dJx4a65c_add_72be8_0 : decode cJx4a65c_add_72be8 0 = .ok (.iload_n 3, 1) := by decide +kernel
theorem dJx4a65c_add_72be8_1 : decode cJx4a65c_add_72be8 1 = .ok (.aload_n 2, 1) := by decide +kernel
theorem dJx4a65c_add_72be8_2 : decode cJx4a65c_add_72be8 2 = .ok (.arraylength, 1) := by decide +kernel
theorem dJx4a65c_add_72be8_3 : decode cJx4a65c_add_72be8 3 = .ok (.if_icmp .ne 8, 3) := by decide +kernel
theorem dJx4a65c_add_72be8_6 : decode cJx4a65c_add_72be8 6 = .ok (.aload_n 0, 1) := by decide +kernel
theorem dJx4a65c_add_72be8_7 : decode cJx4a65c_add_72be8 7 = .ok (.invokevirtual 129, 3) := by decide +kernel
theorem dJx4a65c_add_72be8_10 : decode cJx4a65c_add_72be8 10 = .ok (.astore_n 2, 1) := by decide +kernel
theorem dJx4a65c_add_72be8_11 : decode cJx4a65c_add_72be8 11 = .ok (.aload_n 2, 1) := by decide +kernel
theorem dJx4a65c_add_72be8_12 : decode cJx4a65c_add_72be8 12 = .ok (.iload_n 3, 1) := by decide +kernel
theorem dJx4a65c_add_72be8_13 : decode cJx4a65c_add_72be8 13 = .ok (.aload_n 1, 1) := by decide +kernel
theorem dJx4a65c_add_72be8_14 : decode cJx4a65c_add_72be8 14 = .ok (.aastore, 1) := by decide +kernel
theorem dJx4a65c_add_72be8_15 : decode cJx4a65c_add_72be8 15 = .ok (.aload_n 0, 1) := by decide +kernel
theorem dJx4a65c_add_72be8_16 : decode cJx4a65c_add_72be8 16 = .ok (.iload_n 3, 1) := by decide +kernel
theorem dJx4a65c_add_72be8_17 : decode cJx4a65c_add_72be8 17 = .ok (.iconst 1, 1) := by decide +kernel
theorem dJx4a65c_add_72be8_18 : decode cJx4a65c_add_72be8 18 = .ok (.iadd, 1) := by decide +kernel
theorem dJx4a65c_add_72be8_19 : decode cJx4a65c_add_72be8 19 = .ok (.putfield 48, 3) := by decide +kernel
theorem dJx4a65c_add_72be8_22 : decode cJx4a65c_add_72be8 22 = .ok (.return_, 1) := by decide +kernel
theorem dJx4a65c_add_9ea2d_0 : decode cJx4a65c_add_9ea2d 0 = .ok (.aload_n 0, 1) := by decide +kernel
theorem dJx4a65c_add_9ea2d_1 : decode cJx4a65c_add_9ea2d 1 = .ok (.dup, 1) := by decide +kernel
theorem dJx4a65c_add_9ea2d_2 : decode cJx4a65c_add_9ea2d 2 = .ok (.getfield 63, 3) := by decide +kernel
theorem dJx4a65c_add_9ea2d_5 : decode cJx4a65c_add_9ea2d 5 = .ok (.iconst 1, 1) := by decide +kernel
theorem dJx4a65c_add_9ea2d_6 : decode cJx4a65c_add_9ea2d 6 = .ok (.iadd, 1) := by decide +kernel
theorem dJx4a65c_add_9ea2d_7 : decode cJx4a65c_add_9ea2d 7 = .ok (.putfield 63, 3) := by decide +kernel
theorem dJx4a65c_add_9ea2d_10 : decode cJx4a65c_add_9ea2d 10 = .ok (.aload_n 0, 1) := by decide +kernel
theorem dJx4a65c_add_9ea2d_11 : decode cJx4a65c_add_9ea2d 11 = .ok (.aload_n 1, 1) := by decide +kernel
theorem dJx4a65c_add_9ea2d_12 : decode cJx4a65c_add_9ea2d 12 = .ok (.aload_n 0, 1) := by decide +kernel
theorem dJx4a65c_add_9ea2d_13 : decode cJx4a65c_add_9ea2d 13 = .ok (.getfield 9, 3) := by decide +kernel
theorem dJx4a65c_add_9ea2d_16 : decode cJx4a65c_add_9ea2d 16 = .ok (.aload_n 0, 1) := by decide +kernel
theorem dJx4a65c_add_9ea2d_17 : decode cJx4a65c_add_9ea2d 17 = .ok (.getfield 48, 3) := by decide +kernel
theorem dJx4a65c_add_9ea2d_20 : decode cJx4a65c_add_9ea2d 20 = .ok (.invokevirtual 131, 3) := by decide +kernel
theorem dJx4a65c_add_9ea2d_23 : decode cJx4a65c_add_9ea2d 23 = .ok (.iconst 1, 1) := by decide +kernel
theorem dJx4a65c_add_9ea2d_24 : decode cJx4a65c_add_9ea2d 24 = .ok (.ireturn, 1) := by decide +kernel
theorem dJx4a65c_add_7a177_0 : decode cJx4a65c_add_7a177 0 = .ok (.aload_n 0, 1) := by decide +kernel
theorem dJx4a65c_add_7a177_1 : decode cJx4a65c_add_7a177 1 = .ok (.iload_n 1, 1) := by decide +kernel
theorem dJx4a65c_add_7a177_2 : decode cJx4a65c_add_7a177 2 = .ok (.invokevirtual 135, 3) := by decide +kernel
theorem dJx4a65c_add_7a177_5 : decode cJx4a65c_add_7a177 5 = .ok (.aload_n 0, 1) := by decide +kernel
theorem dJx4a65c_add_7a177_6 : decode cJx4a65c_add_7a177 6 = .ok (.dup, 1) := by decide +kernel
theorem dJx4a65c_add_7a177_7 : decode cJx4a65c_add_7a177 7 = .ok (.getfield 63, 3) := by decide +kernel
theorem dJx4a65c_add_7a177_10 : decode cJx4a65c_add_7a177 10 = .ok (.iconst 1, 1) := by decide +kernel
theorem dJx4a65c_add_7a177_11 : decode cJx4a65c_add_7a177 11 = .ok (.iadd, 1) := by decide +kernel
theorem dJx4a65c_add_7a177_12 : decode cJx4a65c_add_7a177 12 = .ok (.putfield 63, 3) := by decide +kernel
theorem dJx4a65c_add_7a177_15 : decode cJx4a65c_add_7a177 15 = .ok (.aload_n 0, 1) := by decide +kernel
theorem dJx4a65c_add_7a177_16 : decode cJx4a65c_add_7a177 16 = .ok (.getfield 48, 3) := by decide +kernel
theorem dJx4a65c_add_7a177_19 : decode cJx4a65c_add_7a177 19 = .ok (.dup, 1) := by decide +kernel
theorem dJx4a65c_add_7a177_20 : decode cJx4a65c_add_7a177 20 = .ok (.istore_n 3, 1) := by decide +kernel
theorem dJx4a65c_add_7a177_21 : decode cJx4a65c_add_7a177 21 = .ok (.aload_n 0, 1) := by decide +kernel
theorem dJx4a65c_add_7a177_22 : decode cJx4a65c_add_7a177 22 = .ok (.getfield 9, 3) := by decide +kernel
theorem dJx4a65c_add_7a177_25 : decode cJx4a65c_add_7a177 25 = .ok (.dup, 1) := by decide +kernel
theorem dJx4a65c_add_7a177_26 : decode cJx4a65c_add_7a177 26 = .ok (.astore 4, 2) := by decide +kernel
theorem dJx4a65c_add_7a177_28 : decode cJx4a65c_add_7a177 28 = .ok (.arraylength, 1) := by decide +kernel
theorem dJx4a65c_add_7a177_29 : decode cJx4a65c_add_7a177 29 = .ok (.if_icmp .ne 9, 3) := by decide +kernel
theorem dJx4a65c_add_7a177_32 : decode cJx4a65c_add_7a177 32 = .ok (.aload_n 0, 1) := by decide +kernel
theorem dJx4a65c_add_7a177_33 : decode cJx4a65c_add_7a177 33 = .ok (.invokevirtual 129, 3) := by decide +kernel
theorem dJx4a65c_add_7a177_36 : decode cJx4a65c_add_7a177 36 = .ok (.astore 4, 2) := by decide +kernel
theorem dJx4a65c_add_7a177_38 : decode cJx4a65c_add_7a177 38 = .ok (.aload 4, 2) := by decide +kernel
theorem dJx4a65c_add_7a177_40 : decode cJx4a65c_add_7a177 40 = .ok (.iload_n 1, 1) := by decide +kernel
theorem dJx4a65c_add_7a177_41 : decode cJx4a65c_add_7a177 41 = .ok (.aload 4, 2) := by decide +kernel
theorem dJx4a65c_add_7a177_43 : decode cJx4a65c_add_7a177 43 = .ok (.iload_n 1, 1) := by decide +kernel
theorem dJx4a65c_add_7a177_44 : decode cJx4a65c_add_7a177 44 = .ok (.iconst 1, 1) := by decide +kernel
theorem dJx4a65c_add_7a177_45 : decode cJx4a65c_add_7a177 45 = .ok (.iadd, 1) := by decide +kernel
theorem dJx4a65c_add_7a177_46 : decode cJx4a65c_add_7a177 46 = .ok (.iload_n 3, 1) := by decide +kernel
theorem dJx4a65c_add_7a177_47 : decode cJx4a65c_add_7a177 47 = .ok (.iload_n 1, 1) := by decide +kernel
theorem dJx4a65c_add_7a177_48 : decode cJx4a65c_add_7a177 48 = .ok (.isub, 1) := by decide +kernel
theorem dJx4a65c_add_7a177_49 : decode cJx4a65c_add_7a177 49 = .ok (.invokestatic 112, 3) := by decide +kernel
theorem dJx4a65c_add_7a177_52 : decode cJx4a65c_add_7a177 52 = .ok (.aload 4, 2) := by decide +kernel
theorem dJx4a65c_add_7a177_54 : decode cJx4a65c_add_7a177 54 = .ok (.iload_n 1, 1) := by decide +kernel
theorem dJx4a65c_add_7a177_55 : decode cJx4a65c_add_7a177 55 = .ok (.aload_n 2, 1) := by decide +kernel
theorem dJx4a65c_add_7a177_56 : decode cJx4a65c_add_7a177 56 = .ok (.aastore, 1) := by decide +kernel
theorem dJx4a65c_add_7a177_57 : decode cJx4a65c_add_7a177 57 = .ok (.aload_n 0, 1) := by decide +kernel
theorem dJx4a65c_add_7a177_58 : decode cJx4a65c_add_7a177 58 = .ok (.iload_n 3, 1) := by decide +kernel
theorem dJx4a65c_add_7a177_59 : decode cJx4a65c_add_7a177 59 = .ok (.iconst 1, 1) := by decide +kernel
theorem dJx4a65c_add_7a177_60 : decode cJx4a65c_add_7a177 60 = .ok (.iadd, 1) := by decide +kernel
theorem dJx4a65c_add_7a177_61 : decode cJx4a65c_add_7a177 61 = .ok (.putfield 48, 3) := by decide +kernel
theorem dJx4a65c_add_7a177_64 : decode cJx4a65c_add_7a177 64 = .ok (.return_, 1) := by decide +kernel
theorem dJx4a65c_clear_da8c8_0 : decode cJx4a65c_clear_da8c8 0 = .ok (.aload_n 0, 1) := by decide +kernel
theorem dJx4a65c_clear_da8c8_1 : decode cJx4a65c_clear_da8c8 1 = .ok (.dup, 1) := by decide +kernel
theorem dJx4a65c_clear_da8c8_2 : decode cJx4a65c_clear_da8c8 2 = .ok (.getfield 63, 3) := by decide +kernel
theorem dJx4a65c_clear_da8c8_5 : decode cJx4a65c_clear_da8c8 5 = .ok (.iconst 1, 1) := by decide +kernel
theorem dJx4a65c_clear_da8c8_6 : decode cJx4a65c_clear_da8c8 6 = .ok (.iadd, 1) := by decide +kernel
theorem dJx4a65c_clear_da8c8_7 : decode cJx4a65c_clear_da8c8 7 = .ok (.putfield 63, 3) := by decide +kernel
theorem dJx4a65c_clear_da8c8_10 : decode cJx4a65c_clear_da8c8 10 = .ok (.aload_n 0, 1) := by decide +kernel
theorem dJx4a65c_clear_da8c8_11 : decode cJx4a65c_clear_da8c8 11 = .ok (.getfield 9, 3) := by decide +kernel
theorem dJx4a65c_clear_da8c8_14 : decode cJx4a65c_clear_da8c8 14 = .ok (.astore_n 1, 1) := by decide +kernel
theorem dJx4a65c_clear_da8c8_15 : decode cJx4a65c_clear_da8c8 15 = .ok (.aload_n 0, 1) := by decide +kernel
theorem dJx4a65c_clear_da8c8_16 : decode cJx4a65c_clear_da8c8 16 = .ok (.getfield 48, 3) := by decide +kernel
theorem dJx4a65c_clear_da8c8_19 : decode cJx4a65c_clear_da8c8 19 = .ok (.istore_n 2, 1) := by decide +kernel
theorem dJx4a65c_clear_da8c8_20 : decode cJx4a65c_clear_da8c8 20 = .ok (.aload_n 0, 1) := by decide +kernel
theorem dJx4a65c_clear_da8c8_21 : decode cJx4a65c_clear_da8c8 21 = .ok (.iconst 0, 1) := by decide +kernel
theorem dJx4a65c_clear_da8c8_22 : decode cJx4a65c_clear_da8c8 22 = .ok (.dup_x1, 1) := by decide +kernel
theorem dJx4a65c_clear_da8c8_23 : decode cJx4a65c_clear_da8c8 23 = .ok (.putfield 48, 3) := by decide +kernel
theorem dJx4a65c_clear_da8c8_26 : decode cJx4a65c_clear_da8c8 26 = .ok (.istore_n 3, 1) := by decide +kernel
theorem dJx4a65c_clear_da8c8_27 : decode cJx4a65c_clear_da8c8 27 = .ok (.iload_n 3, 1) := by decide +kernel
theorem dJx4a65c_clear_da8c8_28 : decode cJx4a65c_clear_da8c8 28 = .ok (.iload_n 2, 1) := by decide +kernel
theorem dJx4a65c_clear_da8c8_29 : decode cJx4a65c_clear_da8c8 29 = .ok (.if_icmp .ge 13, 3) := by decide +kernel
theorem dJx4a65c_clear_da8c8_32 : decode cJx4a65c_clear_da8c8 32 = .ok (.aload_n 1, 1) := by decide +kernel
theorem dJx4a65c_clear_da8c8_33 : decode cJx4a65c_clear_da8c8 33 = .ok (.iload_n 3, 1) := by decide +kernel
theorem dJx4a65c_clear_da8c8_34 : decode cJx4a65c_clear_da8c8 34 = .ok (.aconst_null, 1) := by decide +kernel
theorem dJx4a65c_clear_da8c8_35 : decode cJx4a65c_clear_da8c8 35 = .ok (.aastore, 1) := by decide +kernel
theorem dJx4a65c_clear_da8c8_36 : decode cJx4a65c_clear_da8c8 36 = .ok (.iinc 3 1, 3) := by decide +kernel
theorem dJx4a65c_clear_da8c8_39 : decode cJx4a65c_clear_da8c8 39 = .ok (.goto (-12), 3) := by decide +kernel
theorem dJx4a65c_clear_da8c8_42 : decode cJx4a65c_clear_da8c8 42 = .ok (.return_, 1) := by decide +kernel
theorem dJx4a65c_rangeCheckForAdd_d00df_0 : decode cJx4a65c_rangeCheckForAdd_d00df 0 = .ok (.iload_n 1, 1) := by decide +kernel
theorem dJx4a65c_rangeCheckForAdd_d00df_1 : decode cJx4a65c_rangeCheckForAdd_d00df 1 = .ok (.aload_n 0, 1) := by decide +kernel
theorem dJx4a65c_rangeCheckForAdd_d00df_2 : decode cJx4a65c_rangeCheckForAdd_d00df 2 = .ok (.getfield 48, 3) := by decide +kernel
theorem dJx4a65c_rangeCheckForAdd_d00df_5 : decode cJx4a65c_rangeCheckForAdd_d00df 5 = .ok (.if_icmp .gt 7, 3) := by decide +kernel
theorem dJx4a65c_rangeCheckForAdd_d00df_8 : decode cJx4a65c_rangeCheckForAdd_d00df 8 = .ok (.iload_n 1, 1) := by decide +kernel
theorem dJx4a65c_rangeCheckForAdd_d00df_9 : decode cJx4a65c_rangeCheckForAdd_d00df 9 = .ok (.ifCond .ge 16, 3) := by decide +kernel
theorem dJx4a65c_rangeCheckForAdd_d00df_12 : decode cJx4a65c_rangeCheckForAdd_d00df 12 = .ok (.new 187, 3) := by decide +kernel
theorem dJx4a65c_rangeCheckForAdd_d00df_15 : decode cJx4a65c_rangeCheckForAdd_d00df 15 = .ok (.dup, 1) := by decide +kernel
theorem dJx4a65c_rangeCheckForAdd_d00df_16 : decode cJx4a65c_rangeCheckForAdd_d00df 16 = .ok (.aload_n 0, 1) := by decide +kernel
theorem dJx4a65c_rangeCheckForAdd_d00df_17 : decode cJx4a65c_rangeCheckForAdd_d00df 17 = .ok (.iload_n 1, 1) := by decide +kernel
theorem dJx4a65c_rangeCheckForAdd_d00df_18 : decode cJx4a65c_rangeCheckForAdd_d00df 18 = .ok (.invokevirtual 198, 3) := by decide +kernel
theorem dJx4a65c_rangeCheckForAdd_d00df_21 : decode cJx4a65c_rangeCheckForAdd_d00df 21 = .ok (.invokespecial 193, 3) := by decide +kernel
theorem dJx4a65c_rangeCheckForAdd_d00df_24 : decode cJx4a65c_rangeCheckForAdd_d00df 24 = .ok (.athrow, 1) := by decide +kernel
theorem dJx4a65c_rangeCheckForAdd_d00df_25 : decode cJx4a65c_rangeCheckForAdd_d00df 25 = .ok (.return_, 1) := by decide +kernel
theorem dJ7_fill_53178_0 : decode cJ7_fill_53178 0 = .ok (.iconst 0, 1) := by decide +kernel
theorem dJ7_fill_53178_1 : decode cJ7_fill_53178 1 = .ok (.istore_n 2, 1) := by decide +kernel
theorem dJ7_fill_53178_2 : decode cJ7_fill_53178 2 = .ok (.aload_n 0, 1) := by decide +kernel
theorem dJ7_fill_53178_3 : decode cJ7_fill_53178 3 = .ok (.arraylength, 1) := by decide +kernel
theorem dJ7_fill_53178_4 : decode cJ7_fill_53178 4 = .ok (.istore_n 3, 1) := by decide +kernel
theorem dJ7_fill_53178_5 : decode cJ7_fill_53178 5 = .ok (.iload_n 2, 1) := by decide +kernel
theorem dJ7_fill_53178_6 : decode cJ7_fill_53178 6 = .ok (.iload_n 3, 1) := by decide +kernel
theorem dJ7_fill_53178_7 : decode cJ7_fill_53178 7 = .ok (.if_icmp .ge 13, 3) := by decide +kernel
theorem dJ7_fill_53178_10 : decode cJ7_fill_53178 10 = .ok (.aload_n 0, 1) := by decide +kernel
theorem dJ7_fill_53178_11 : decode cJ7_fill_53178 11 = .ok (.iload_n 2, 1) := by decide +kernel
theorem dJ7_fill_53178_12 : decode cJ7_fill_53178 12 = .ok (.iload_n 1, 1) := by decide +kernel
theorem dJ7_fill_53178_13 : decode cJ7_fill_53178 13 = .ok (.iastore, 1) := by decide +kernel
theorem dJ7_fill_53178_14 : decode cJ7_fill_53178 14 = .ok (.iinc 2 1, 3) := by decide +kernel
theorem dJ7_fill_53178_17 : decode cJ7_fill_53178 17 = .ok (.goto (-12), 3) := by decide +kernel
theorem dJ7_fill_53178_20 : decode cJ7_fill_53178 20 = .ok (.return_, 1) := by decide +kernel
theorem dJ7_copyOf_1904c_0 : decode cJ7_copyOf_1904c 0 = .ok (.aload_n 0, 1) := by decide +kernel
theorem dJ7_copyOf_1904c_1 : decode cJ7_copyOf_1904c 1 = .ok (.iload_n 1, 1) := by decide +kernel
theorem dJ7_copyOf_1904c_2 : decode cJ7_copyOf_1904c 2 = .ok (.aload_n 0, 1) := by decide +kernel
theorem dJ7_copyOf_1904c_3 : decode cJ7_copyOf_1904c 3 = .ok (.invokevirtual 86, 3) := by decide +kernel
theorem dJ7_copyOf_1904c_6 : decode cJ7_copyOf_1904c 6 = .ok (.invokestatic 300, 3) := by decide +kernel
theorem dJ7_copyOf_1904c_9 : decode cJ7_copyOf_1904c 9 = .ok (.areturn, 1) := by decide +kernel
theorem dJ7_copyOf_6403c_0 : decode cJ7_copyOf_6403c 0 = .ok (.aload_n 2, 1) := by decide +kernel
theorem dJ7_copyOf_6403c_1 : decode cJ7_copyOf_6403c 1 = .ok (.ldc 110, 2) := by decide +kernel
theorem dJ7_copyOf_6403c_3 : decode cJ7_copyOf_6403c 3 = .ok (.if_acmp .ne 10, 3) := by decide +kernel
theorem dJ7_copyOf_6403c_6 : decode cJ7_copyOf_6403c 6 = .ok (.iload_n 1, 1) := by decide +kernel
theorem dJ7_copyOf_6403c_7 : decode cJ7_copyOf_6403c 7 = .ok (.anewarray 2, 3) := by decide +kernel
theorem dJ7_copyOf_6403c_10 : decode cJ7_copyOf_6403c 10 = .ok (.goto 14, 3) := by decide +kernel
theorem dJ7_copyOf_6403c_13 : decode cJ7_copyOf_6403c 13 = .ok (.aload_n 2, 1) := by decide +kernel
theorem dJ7_copyOf_6403c_14 : decode cJ7_copyOf_6403c 14 = .ok (.invokevirtual 90, 3) := by decide +kernel
theorem dJ7_copyOf_6403c_17 : decode cJ7_copyOf_6403c 17 = .ok (.iload_n 1, 1) := by decide +kernel
theorem dJ7_copyOf_6403c_18 : decode cJ7_copyOf_6403c 18 = .ok (.invokestatic 95, 3) := by decide +kernel
theorem dJ7_copyOf_6403c_21 : decode cJ7_copyOf_6403c 21 = .ok (.checkcast 110, 3) := by decide +kernel
theorem dJ7_copyOf_6403c_24 : decode cJ7_copyOf_6403c 24 = .ok (.astore_n 3, 1) := by decide +kernel
theorem dJ7_copyOf_6403c_25 : decode cJ7_copyOf_6403c 25 = .ok (.aload_n 0, 1) := by decide +kernel
theorem dJ7_copyOf_6403c_26 : decode cJ7_copyOf_6403c 26 = .ok (.iconst 0, 1) := by decide +kernel
theorem dJ7_copyOf_6403c_27 : decode cJ7_copyOf_6403c 27 = .ok (.aload_n 3, 1) := by decide +kernel
theorem dJ7_copyOf_6403c_28 : decode cJ7_copyOf_6403c 28 = .ok (.iconst 0, 1) := by decide +kernel
theorem dJ7_copyOf_6403c_29 : decode cJ7_copyOf_6403c 29 = .ok (.aload_n 0, 1) := by decide +kernel
theorem dJ7_copyOf_6403c_30 : decode cJ7_copyOf_6403c 30 = .ok (.arraylength, 1) := by decide +kernel
theorem dJ7_copyOf_6403c_31 : decode cJ7_copyOf_6403c 31 = .ok (.iload_n 1, 1) := by decide +kernel
theorem dJ7_copyOf_6403c_32 : decode cJ7_copyOf_6403c 32 = .ok (.invokestatic 304, 3) := by decide +kernel
theorem dJ7_copyOf_6403c_35 : decode cJ7_copyOf_6403c 35 = .ok (.invokestatic 150, 3) := by decide +kernel
theorem dJ7_copyOf_6403c_38 : decode cJ7_copyOf_6403c 38 = .ok (.aload_n 3, 1) := by decide +kernel
theorem dJ7_copyOf_6403c_39 : decode cJ7_copyOf_6403c 39 = .ok (.areturn, 1) := by decide +kernel
theorem dJ7_copyOf_59c91_0 : decode cJ7_copyOf_59c91 0 = .ok (.iload_n 1, 1) := by decide +kernel
theorem dJ7_copyOf_59c91_1 : decode cJ7_copyOf_59c91 1 = .ok (.aload_n 0, 1) := by decide +kernel
theorem dJ7_copyOf_59c91_2 : decode cJ7_copyOf_59c91 2 = .ok (.arraylength, 1) := by decide +kernel
theorem dJ7_copyOf_59c91_3 : decode cJ7_copyOf_59c91 3 = .ok (.if_icmp .ne 11, 3) := by decide +kernel
theorem dJ7_copyOf_59c91_6 : decode cJ7_copyOf_59c91 6 = .ok (.aload_n 0, 1) := by decide +kernel
theorem dJ7_copyOf_59c91_7 : decode cJ7_copyOf_59c91 7 = .ok (.invokevirtual 316, 3) := by decide +kernel
theorem dJ7_copyOf_59c91_10 : decode cJ7_copyOf_59c91 10 = .ok (.checkcast 317, 3) := by decide +kernel
theorem dJ7_copyOf_59c91_13 : decode cJ7_copyOf_59c91 13 = .ok (.areturn, 1) := by decide +kernel
theorem dJ7_copyOf_59c91_14 : decode cJ7_copyOf_59c91 14 = .ok (.iload_n 1, 1) := by decide +kernel
theorem dJ7_copyOf_59c91_15 : decode cJ7_copyOf_59c91 15 = .ok (.newarray .int, 2) := by decide +kernel
theorem dJ7_copyOf_59c91_17 : decode cJ7_copyOf_59c91 17 = .ok (.astore_n 2, 1) := by decide +kernel
theorem dJ7_copyOf_59c91_18 : decode cJ7_copyOf_59c91 18 = .ok (.aload_n 0, 1) := by decide +kernel
theorem dJ7_copyOf_59c91_19 : decode cJ7_copyOf_59c91 19 = .ok (.iconst 0, 1) := by decide +kernel
theorem dJ7_copyOf_59c91_20 : decode cJ7_copyOf_59c91 20 = .ok (.aload_n 2, 1) := by decide +kernel
theorem dJ7_copyOf_59c91_21 : decode cJ7_copyOf_59c91 21 = .ok (.iconst 0, 1) := by decide +kernel
theorem dJ7_copyOf_59c91_22 : decode cJ7_copyOf_59c91 22 = .ok (.aload_n 0, 1) := by decide +kernel
theorem dJ7_copyOf_59c91_23 : decode cJ7_copyOf_59c91 23 = .ok (.arraylength, 1) := by decide +kernel
theorem dJ7_copyOf_59c91_24 : decode cJ7_copyOf_59c91 24 = .ok (.iload_n 1, 1) := by decide +kernel
theorem dJ7_copyOf_59c91_25 : decode cJ7_copyOf_59c91 25 = .ok (.invokestatic 304, 3) := by decide +kernel
theorem dJ7_copyOf_59c91_28 : decode cJ7_copyOf_59c91 28 = .ok (.invokestatic 150, 3) := by decide +kernel
theorem dJ7_copyOf_59c91_31 : decode cJ7_copyOf_59c91 31 = .ok (.aload_n 2, 1) := by decide +kernel
theorem dJ7_copyOf_59c91_32 : decode cJ7_copyOf_59c91 32 = .ok (.areturn, 1) := by decide +kernel
theorem dJ15_checkIndex_7cf53_0 : decode cJ15_checkIndex_7cf53 0 = .ok (.iload_n 0, 1) := by decide +kernel
theorem dJ15_checkIndex_7cf53_1 : decode cJ15_checkIndex_7cf53 1 = .ok (.iload_n 1, 1) := by decide +kernel
theorem dJ15_checkIndex_7cf53_2 : decode cJ15_checkIndex_7cf53 2 = .ok (.aconst_null, 1) := by decide +kernel
theorem dJ15_checkIndex_7cf53_3 : decode cJ15_checkIndex_7cf53 3 = .ok (.invokestatic 105, 3) := by decide +kernel
theorem dJ15_checkIndex_7cf53_6 : decode cJ15_checkIndex_7cf53 6 = .ok (.ireturn, 1) := by decide +kernel
theorem dJ8_newLength_cabcc_0 : decode cJ8_newLength_cabcc 0 = .ok (.iload_n 0, 1) := by decide +kernel
theorem dJ8_newLength_cabcc_1 : decode cJ8_newLength_cabcc 1 = .ok (.iload_n 1, 1) := by decide +kernel
theorem dJ8_newLength_cabcc_2 : decode cJ8_newLength_cabcc 2 = .ok (.iload_n 2, 1) := by decide +kernel
theorem dJ8_newLength_cabcc_3 : decode cJ8_newLength_cabcc 3 = .ok (.invokestatic 194, 3) := by decide +kernel
theorem dJ8_newLength_cabcc_6 : decode cJ8_newLength_cabcc 6 = .ok (.iadd, 1) := by decide +kernel
theorem dJ8_newLength_cabcc_7 : decode cJ8_newLength_cabcc 7 = .ok (.istore_n 3, 1) := by decide +kernel
theorem dJ8_newLength_cabcc_8 : decode cJ8_newLength_cabcc 8 = .ok (.iconst 0, 1) := by decide +kernel
theorem dJ8_newLength_cabcc_9 : decode cJ8_newLength_cabcc 9 = .ok (.iload_n 3, 1) := by decide +kernel
theorem dJ8_newLength_cabcc_10 : decode cJ8_newLength_cabcc 10 = .ok (.if_icmp .ge 11, 3) := by decide +kernel
theorem dJ8_newLength_cabcc_13 : decode cJ8_newLength_cabcc 13 = .ok (.iload_n 3, 1) := by decide +kernel
theorem dJ8_newLength_cabcc_14 : decode cJ8_newLength_cabcc 14 = .ok (.ldc 200, 2) := by decide +kernel
theorem dJ8_newLength_cabcc_16 : decode cJ8_newLength_cabcc 16 = .ok (.if_icmp .gt 5, 3) := by decide +kernel
theorem dJ8_newLength_cabcc_19 : decode cJ8_newLength_cabcc 19 = .ok (.iload_n 3, 1) := by decide +kernel
theorem dJ8_newLength_cabcc_20 : decode cJ8_newLength_cabcc 20 = .ok (.ireturn, 1) := by decide +kernel
theorem dJ8_newLength_cabcc_21 : decode cJ8_newLength_cabcc 21 = .ok (.iload_n 0, 1) := by decide +kernel
theorem dJ8_newLength_cabcc_22 : decode cJ8_newLength_cabcc 22 = .ok (.iload_n 1, 1) := by decide +kernel
theorem dJ8_newLength_cabcc_23 : decode cJ8_newLength_cabcc 23 = .ok (.invokestatic 201, 3) := by decide +kernel
theorem dJ8_newLength_cabcc_26 : decode cJ8_newLength_cabcc 26 = .ok (.ireturn, 1) := by decide +kernel
theorem dJ8_hugeLength_7cf53_0 : decode cJ8_hugeLength_7cf53 0 = .ok (.iload_n 0, 1) := by decide +kernel
theorem dJ8_hugeLength_7cf53_1 : decode cJ8_hugeLength_7cf53 1 = .ok (.iload_n 1, 1) := by decide +kernel
theorem dJ8_hugeLength_7cf53_2 : decode cJ8_hugeLength_7cf53 2 = .ok (.iadd, 1) := by decide +kernel
theorem dJ8_hugeLength_7cf53_3 : decode cJ8_hugeLength_7cf53 3 = .ok (.istore_n 2, 1) := by decide +kernel
theorem dJ8_hugeLength_7cf53_4 : decode cJ8_hugeLength_7cf53 4 = .ok (.iload_n 2, 1) := by decide +kernel
theorem dJ8_hugeLength_7cf53_5 : decode cJ8_hugeLength_7cf53 5 = .ok (.ifCond .ge 44, 3) := by decide +kernel
theorem dJ8_hugeLength_7cf53_8 : decode cJ8_hugeLength_7cf53 8 = .ok (.new 204, 3) := by decide +kernel
theorem dJ8_hugeLength_7cf53_11 : decode cJ8_hugeLength_7cf53 11 = .ok (.dup, 1) := by decide +kernel
theorem dJ8_hugeLength_7cf53_12 : decode cJ8_hugeLength_7cf53 12 = .ok (.new 89, 3) := by decide +kernel
theorem dJ8_hugeLength_7cf53_15 : decode cJ8_hugeLength_7cf53 15 = .ok (.dup, 1) := by decide +kernel
theorem dJ8_hugeLength_7cf53_16 : decode cJ8_hugeLength_7cf53 16 = .ok (.invokespecial 91, 3) := by decide +kernel
theorem dJ8_hugeLength_7cf53_19 : decode cJ8_hugeLength_7cf53 19 = .ok (.ldc 206, 2) := by decide +kernel
theorem dJ8_hugeLength_7cf53_21 : decode cJ8_hugeLength_7cf53 21 = .ok (.invokevirtual 94, 3) := by decide +kernel
theorem dJ8_hugeLength_7cf53_24 : decode cJ8_hugeLength_7cf53 24 = .ok (.iload_n 0, 1) := by decide +kernel
theorem dJ8_hugeLength_7cf53_25 : decode cJ8_hugeLength_7cf53 25 = .ok (.invokevirtual 98, 3) := by decide +kernel
theorem dJ8_hugeLength_7cf53_28 : decode cJ8_hugeLength_7cf53 28 = .ok (.ldc 208, 2) := by decide +kernel
theorem dJ8_hugeLength_7cf53_30 : decode cJ8_hugeLength_7cf53 30 = .ok (.invokevirtual 94, 3) := by decide +kernel
theorem dJ8_hugeLength_7cf53_33 : decode cJ8_hugeLength_7cf53 33 = .ok (.iload_n 1, 1) := by decide +kernel
theorem dJ8_hugeLength_7cf53_34 : decode cJ8_hugeLength_7cf53 34 = .ok (.invokevirtual 98, 3) := by decide +kernel
theorem dJ8_hugeLength_7cf53_37 : decode cJ8_hugeLength_7cf53 37 = .ok (.ldc 210, 2) := by decide +kernel
theorem dJ8_hugeLength_7cf53_39 : decode cJ8_hugeLength_7cf53 39 = .ok (.invokevirtual 94, 3) := by decide +kernel
theorem dJ8_hugeLength_7cf53_42 : decode cJ8_hugeLength_7cf53 42 = .ok (.invokevirtual 101, 3) := by decide +kernel
theorem dJ8_hugeLength_7cf53_45 : decode cJ8_hugeLength_7cf53 45 = .ok (.invokespecial 212, 3) := by decide +kernel
theorem dJ8_hugeLength_7cf53_48 : decode cJ8_hugeLength_7cf53 48 = .ok (.athrow, 1) := by decide +kernel
theorem dJ8_hugeLength_7cf53_49 : decode cJ8_hugeLength_7cf53 49 = .ok (.iload_n 2, 1) := by decide +kernel
theorem dJ8_hugeLength_7cf53_50 : decode cJ8_hugeLength_7cf53 50 = .ok (.ldc 200, 2) := by decide +kernel
theorem dJ8_hugeLength_7cf53_52 : decode cJ8_hugeLength_7cf53 52 = .ok (.if_icmp .gt 6, 3) := by decide +kernel
theorem dJ8_hugeLength_7cf53_55 : decode cJ8_hugeLength_7cf53 55 = .ok (.ldc 200, 2) := by decide +kernel
theorem dJ8_hugeLength_7cf53_57 : decode cJ8_hugeLength_7cf53 57 = .ok (.ireturn, 1) := by decide +kernel
theorem dJ8_hugeLength_7cf53_58 : decode cJ8_hugeLength_7cf53 58 = .ok (.iload_n 2, 1) := by decide +kernel
theorem dJ8_hugeLength_7cf53_59 : decode cJ8_hugeLength_7cf53 59 = .ok (.ireturn, 1) := by decide +kernel
theorem dJ3_checkIndex_8e157_0 : decode cJ3_checkIndex_8e157 0 = .ok (.iload_n 0, 1) := by decide +kernel
theorem dJ3_checkIndex_8e157_1 : decode cJ3_checkIndex_8e157 1 = .ok (.ifCond .lt 8, 3) := by decide +kernel
theorem dJ3_checkIndex_8e157_4 : decode cJ3_checkIndex_8e157 4 = .ok (.iload_n 0, 1) := by decide +kernel
theorem dJ3_checkIndex_8e157_5 : decode cJ3_checkIndex_8e157 5 = .ok (.iload_n 1, 1) := by decide +kernel
theorem dJ3_checkIndex_8e157_6 : decode cJ3_checkIndex_8e157 6 = .ok (.if_icmp .lt 10, 3) := by decide +kernel
theorem dJ3_checkIndex_8e157_9 : decode cJ3_checkIndex_8e157 9 = .ok (.aload_n 2, 1) := by decide +kernel
theorem dJ3_checkIndex_8e157_10 : decode cJ3_checkIndex_8e157 10 = .ok (.iload_n 0, 1) := by decide +kernel
theorem dJ3_checkIndex_8e157_11 : decode cJ3_checkIndex_8e157 11 = .ok (.iload_n 1, 1) := by decide +kernel
theorem dJ3_checkIndex_8e157_12 : decode cJ3_checkIndex_8e157 12 = .ok (.invokestatic 95, 3) := by decide +kernel
theorem dJ3_checkIndex_8e157_15 : decode cJ3_checkIndex_8e157 15 = .ok (.athrow, 1) := by decide +kernel
theorem dJ3_checkIndex_8e157_16 : decode cJ3_checkIndex_8e157 16 = .ok (.iload_n 0, 1) := by decide +kernel
theorem dJ3_checkIndex_8e157_17 : decode cJ3_checkIndex_8e157 17 = .ok (.ireturn, 1) := by decide +kernel
end
section
theorem dX7_init_0 : decode cX7_init 0 = .ok (.aload_n 0, 1) := by decide +kernel
theorem dX7_init_1 : decode cX7_init 1 = .ok (.invokespecial 1, 3) := by decide +kernel
theorem dX7_init_4 : decode cX7_init 4 = .ok (.aload_n 0, 1) := by decide +kernel
theorem dX7_init_5 : decode cX7_init 5 = .ok (.bipush 10, 2) := by decide +kernel
theorem dX7_init_7 : decode cX7_init 7 = .ok (.newarray .int, 2) := by decide +kernel
theorem dX7_init_9 : decode cX7_init 9 = .ok (.putfield 7, 3) := by decide +kernel
theorem dX7_init_12 : decode cX7_init 12 = .ok (.aload_n 0, 1) := by decide +kernel
theorem dX7_init_13 : decode cX7_init 13 = .ok (.bipush 12, 2) := by decide +kernel
theorem dX7_init_15 : decode cX7_init 15 = .ok (.newarray .int, 2) := by decide +kernel
theorem dX7_init_17 : decode cX7_init 17 = .ok (.putfield 13, 3) := by decide +kernel
theorem dX7_init_20 : decode cX7_init 20 = .ok (.aload_n 0, 1) := by decide +kernel
theorem dX7_init_21 : decode cX7_init 21 = .ok (.bipush 12, 2) := by decide +kernel
theorem dX7_init_23 : decode cX7_init 23 = .ok (.newarray .int, 2) := by decide +kernel
theorem dX7_init_25 : decode cX7_init 25 = .ok (.putfield 16, 3) := by decide +kernel
theorem dX7_init_28 : decode cX7_init 28 = .ok (.aload_n 0, 1) := by decide +kernel
theorem dX7_init_29 : decode cX7_init 29 = .ok (.bipush 30, 2) := by decide +kernel
theorem dX7_init_31 : decode cX7_init 31 = .ok (.newarray .int, 2) := by decide +kernel
theorem dX7_init_33 : decode cX7_init 33 = .ok (.putfield 19, 3) := by decide +kernel
theorem dX7_init_36 : decode cX7_init 36 = .ok (.aload_n 0, 1) := by decide +kernel
theorem dX7_init_37 : decode cX7_init 37 = .ok (.bipush 8, 2) := by decide +kernel
theorem dX7_init_39 : decode cX7_init 39 = .ok (.newarray .int, 2) := by decide +kernel
theorem dX7_init_41 : decode cX7_init 41 = .ok (.putfield 22, 3) := by decide +kernel
theorem dX7_init_44 : decode cX7_init 44 = .ok (.aload_n 0, 1) := by decide +kernel
theorem dX7_init_45 : decode cX7_init 45 = .ok (.bipush 8, 2) := by decide +kernel
theorem dX7_init_47 : decode cX7_init 47 = .ok (.newarray .int, 2) := by decide +kernel
theorem dX7_init_49 : decode cX7_init 49 = .ok (.putfield 25, 3) := by decide +kernel
theorem dX7_init_52 : decode cX7_init 52 = .ok (.aload_n 0, 1) := by decide +kernel
theorem dX7_init_53 : decode cX7_init 53 = .ok (.bipush 8, 2) := by decide +kernel
theorem dX7_init_55 : decode cX7_init 55 = .ok (.newarray .int, 2) := by decide +kernel
theorem dX7_init_57 : decode cX7_init 57 = .ok (.putfield 28, 3) := by decide +kernel
theorem dX7_init_60 : decode cX7_init 60 = .ok (.aload_n 0, 1) := by decide +kernel
theorem dX7_init_61 : decode cX7_init 61 = .ok (.bipush 8, 2) := by decide +kernel
theorem dX7_init_63 : decode cX7_init 63 = .ok (.newarray .int, 2) := by decide +kernel
theorem dX7_init_65 : decode cX7_init 65 = .ok (.putfield 31, 3) := by decide +kernel
theorem dX7_init_68 : decode cX7_init 68 = .ok (.aload_n 0, 1) := by decide +kernel
theorem dX7_init_69 : decode cX7_init 69 = .ok (.bipush 8, 2) := by decide +kernel
theorem dX7_init_71 : decode cX7_init 71 = .ok (.newarray .int, 2) := by decide +kernel
theorem dX7_init_73 : decode cX7_init 73 = .ok (.putfield 34, 3) := by decide +kernel
theorem dX7_init_76 : decode cX7_init 76 = .ok (.aload_n 0, 1) := by decide +kernel
theorem dX7_init_77 : decode cX7_init 77 = .ok (.bipush 8, 2) := by decide +kernel
theorem dX7_init_79 : decode cX7_init 79 = .ok (.newarray .int, 2) := by decide +kernel
theorem dX7_init_81 : decode cX7_init 81 = .ok (.dup, 1) := by decide +kernel
theorem dX7_init_82 : decode cX7_init 82 = .ok (.iconst 0, 1) := by decide +kernel
theorem dX7_init_83 : decode cX7_init 83 = .ok (.iconst (-1), 1) := by decide +kernel
theorem dX7_init_84 : decode cX7_init 84 = .ok (.iastore, 1) := by decide +kernel
theorem dX7_init_85 : decode cX7_init 85 = .ok (.dup, 1) := by decide +kernel
theorem dX7_init_86 : decode cX7_init 86 = .ok (.iconst 1, 1) := by decide +kernel
theorem dX7_init_87 : decode cX7_init 87 = .ok (.iconst (-1), 1) := by decide +kernel
theorem dX7_init_88 : decode cX7_init 88 = .ok (.iastore, 1) := by decide +kernel
theorem dX7_init_89 : decode cX7_init 89 = .ok (.dup, 1) := by decide +kernel
theorem dX7_init_90 : decode cX7_init 90 = .ok (.iconst 2, 1) := by decide +kernel
theorem dX7_init_91 : decode cX7_init 91 = .ok (.iconst (-1), 1) := by decide +kernel
theorem dX7_init_92 : decode cX7_init 92 = .ok (.iastore, 1) := by decide +kernel
theorem dX7_init_93 : decode cX7_init 93 = .ok (.dup, 1) := by decide +kernel
theorem dX7_init_94 : decode cX7_init 94 = .ok (.iconst 3, 1) := by decide +kernel
theorem dX7_init_95 : decode cX7_init 95 = .ok (.iconst (-1), 1) := by decide +kernel
theorem dX7_init_96 : decode cX7_init 96 = .ok (.iastore, 1) := by decide +kernel
theorem dX7_init_97 : decode cX7_init 97 = .ok (.dup, 1) := by decide +kernel
theorem dX7_init_98 : decode cX7_init 98 = .ok (.iconst 4, 1) := by decide +kernel
theorem dX7_init_99 : decode cX7_init 99 = .ok (.iconst (-1), 1) := by decide +kernel
theorem dX7_init_100 : decode cX7_init 100 = .ok (.iastore, 1) := by decide +kernel
theorem dX7_init_101 : decode cX7_init 101 = .ok (.dup, 1) := by decide +kernel
theorem dX7_init_102 : decode cX7_init 102 = .ok (.iconst 5, 1) := by decide +kernel
theorem dX7_init_103 : decode cX7_init 103 = .ok (.iconst (-1), 1) := by decide +kernel
theorem dX7_init_104 : decode cX7_init 104 = .ok (.iastore, 1) := by decide +kernel
theorem dX7_init_105 : decode cX7_init 105 = .ok (.dup, 1) := by decide +kernel
theorem dX7_init_106 : decode cX7_init 106 = .ok (.bipush 6, 2) := by decide +kernel
theorem dX7_init_108 : decode cX7_init 108 = .ok (.iconst (-1), 1) := by decide +kernel
theorem dX7_init_109 : decode cX7_init 109 = .ok (.iastore, 1) := by decide +kernel
theorem dX7_init_110 : decode cX7_init 110 = .ok (.dup, 1) := by decide +kernel
theorem dX7_init_111 : decode cX7_init 111 = .ok (.bipush 7, 2) := by decide +kernel
theorem dX7_init_113 : decode cX7_init 113 = .ok (.iconst (-1), 1) := by decide +kernel
theorem dX7_init_114 : decode cX7_init 114 = .ok (.iastore, 1) := by decide +kernel
theorem dX7_init_115 : decode cX7_init 115 = .ok (.putfield 37, 3) := by decide +kernel
theorem dX7_init_118 : decode cX7_init 118 = .ok (.aload_n 0, 1) := by decide +kernel
theorem dX7_init_119 : decode cX7_init 119 = .ok (.bipush 8, 2) := by decide +kernel
theorem dX7_init_121 : decode cX7_init 121 = .ok (.newarray .int, 2) := by decide +kernel
theorem dX7_init_123 : decode cX7_init 123 = .ok (.dup, 1) := by decide +kernel
theorem dX7_init_124 : decode cX7_init 124 = .ok (.iconst 0, 1) := by decide +kernel
theorem dX7_init_125 : decode cX7_init 125 = .ok (.iconst (-1), 1) := by decide +kernel
theorem dX7_init_126 : decode cX7_init 126 = .ok (.iastore, 1) := by decide +kernel
theorem dX7_init_127 : decode cX7_init 127 = .ok (.dup, 1) := by decide +kernel
theorem dX7_init_128 : decode cX7_init 128 = .ok (.iconst 1, 1) := by decide +kernel
theorem dX7_init_129 : decode cX7_init 129 = .ok (.iconst (-1), 1) := by decide +kernel
theorem dX7_init_130 : decode cX7_init 130 = .ok (.iastore, 1) := by decide +kernel
theorem dX7_init_131 : decode cX7_init 131 = .ok (.dup, 1) := by decide +kernel
theorem dX7_init_132 : decode cX7_init 132 = .ok (.iconst 2, 1) := by decide +kernel
theorem dX7_init_133 : decode cX7_init 133 = .ok (.iconst (-1), 1) := by decide +kernel
theorem dX7_init_134 : decode cX7_init 134 = .ok (.iastore, 1) := by decide +kernel
theorem dX7_init_135 : decode cX7_init 135 = .ok (.dup, 1) := by decide +kernel
theorem dX7_init_136 : decode cX7_init 136 = .ok (.iconst 3, 1) := by decide +kernel
theorem dX7_init_137 : decode cX7_init 137 = .ok (.iconst (-1), 1) := by decide +kernel
theorem dX7_init_138 : decode cX7_init 138 = .ok (.iastore, 1) := by decide +kernel
theorem dX7_init_139 : decode cX7_init 139 = .ok (.dup, 1) := by decide +kernel
theorem dX7_init_140 : decode cX7_init 140 = .ok (.iconst 4, 1) := by decide +kernel
theorem dX7_init_141 : decode cX7_init 141 = .ok (.iconst (-1), 1) := by decide +kernel
theorem dX7_init_142 : decode cX7_init 142 = .ok (.iastore, 1) := by decide +kernel
theorem dX7_init_143 : decode cX7_init 143 = .ok (.dup, 1) := by decide +kernel
theorem dX7_init_144 : decode cX7_init 144 = .ok (.iconst 5, 1) := by decide +kernel
theorem dX7_init_145 : decode cX7_init 145 = .ok (.iconst (-1), 1) := by decide +kernel
theorem dX7_init_146 : decode cX7_init 146 = .ok (.iastore, 1) := by decide +kernel
theorem dX7_init_147 : decode cX7_init 147 = .ok (.dup, 1) := by decide +kernel
theorem dX7_init_148 : decode cX7_init 148 = .ok (.bipush 6, 2) := by decide +kernel
theorem dX7_init_150 : decode cX7_init 150 = .ok (.iconst (-1), 1) := by decide +kernel
theorem dX7_init_151 : decode cX7_init 151 = .ok (.iastore, 1) := by decide +kernel
theorem dX7_init_152 : decode cX7_init 152 = .ok (.dup, 1) := by decide +kernel
theorem dX7_init_153 : decode cX7_init 153 = .ok (.bipush 7, 2) := by decide +kernel
theorem dX7_init_155 : decode cX7_init 155 = .ok (.iconst (-1), 1) := by decide +kernel
theorem dX7_init_156 : decode cX7_init 156 = .ok (.iastore, 1) := by decide +kernel
theorem dX7_init_157 : decode cX7_init 157 = .ok (.putfield 40, 3) := by decide +kernel
theorem dX7_init_160 : decode cX7_init 160 = .ok (.aload_n 0, 1) := by decide +kernel
theorem dX7_init_161 : decode cX7_init 161 = .ok (.bipush 8, 2) := by decide +kernel
theorem dX7_init_163 : decode cX7_init 163 = .ok (.newarray .int, 2) := by decide +kernel
theorem dX7_init_165 : decode cX7_init 165 = .ok (.putfield 43, 3) := by decide +kernel
theorem dX7_init_168 : decode cX7_init 168 = .ok (.aload_n 0, 1) := by decide +kernel
theorem dX7_init_169 : decode cX7_init 169 = .ok (.bipush 8, 2) := by decide +kernel
theorem dX7_init_171 : decode cX7_init 171 = .ok (.newarray .int, 2) := by decide +kernel
theorem dX7_init_173 : decode cX7_init 173 = .ok (.putfield 46, 3) := by decide +kernel
theorem dX7_init_176 : decode cX7_init 176 = .ok (.aload_n 0, 1) := by decide +kernel
theorem dX7_init_177 : decode cX7_init 177 = .ok (.bipush 8, 2) := by decide +kernel
theorem dX7_init_179 : decode cX7_init 179 = .ok (.newarray .int, 2) := by decide +kernel
theorem dX7_init_181 : decode cX7_init 181 = .ok (.putfield 49, 3) := by decide +kernel
theorem dX7_init_184 : decode cX7_init 184 = .ok (.aload_n 0, 1) := by decide +kernel
theorem dX7_init_185 : decode cX7_init 185 = .ok (.bipush 8, 2) := by decide +kernel
theorem dX7_init_187 : decode cX7_init 187 = .ok (.newarray .int, 2) := by decide +kernel
theorem dX7_init_189 : decode cX7_init 189 = .ok (.putfield 52, 3) := by decide +kernel
theorem dX7_init_192 : decode cX7_init 192 = .ok (.aload_n 0, 1) := by decide +kernel
theorem dX7_init_193 : decode cX7_init 193 = .ok (.bipush 8, 2) := by decide +kernel
theorem dX7_init_195 : decode cX7_init 195 = .ok (.newarray .boolean, 2) := by decide +kernel
theorem dX7_init_197 : decode cX7_init 197 = .ok (.putfield 55, 3) := by decide +kernel
theorem dX7_init_200 : decode cX7_init 200 = .ok (.aload_n 0, 1) := by decide +kernel
theorem dX7_init_201 : decode cX7_init 201 = .ok (.bipush 80, 2) := by decide +kernel
theorem dX7_init_203 : decode cX7_init 203 = .ok (.newarray .int, 2) := by decide +kernel
theorem dX7_init_205 : decode cX7_init 205 = .ok (.putfield 59, 3) := by decide +kernel
theorem dX7_init_208 : decode cX7_init 208 = .ok (.aload_n 0, 1) := by decide +kernel
theorem dX7_init_209 : decode cX7_init 209 = .ok (.sipush 300, 3) := by decide +kernel
theorem dX7_init_212 : decode cX7_init 212 = .ok (.newarray .int, 2) := by decide +kernel
theorem dX7_init_214 : decode cX7_init 214 = .ok (.putfield 62, 3) := by decide +kernel
theorem dX7_init_217 : decode cX7_init 217 = .ok (.aload_n 0, 1) := by decide +kernel
theorem dX7_init_218 : decode cX7_init 218 = .ok (.sipush 300, 3) := by decide +kernel
theorem dX7_init_221 : decode cX7_init 221 = .ok (.newarray .int, 2) := by decide +kernel
theorem dX7_init_223 : decode cX7_init 223 = .ok (.putfield 65, 3) := by decide +kernel
theorem dX7_init_226 : decode cX7_init 226 = .ok (.aload_n 0, 1) := by decide +kernel
theorem dX7_init_227 : decode cX7_init 227 = .ok (.sipush 300, 3) := by decide +kernel
theorem dX7_init_230 : decode cX7_init 230 = .ok (.newarray .int, 2) := by decide +kernel
theorem dX7_init_232 : decode cX7_init 232 = .ok (.putfield 68, 3) := by decide +kernel
theorem dX7_init_235 : decode cX7_init 235 = .ok (.aload_n 0, 1) := by decide +kernel
theorem dX7_init_236 : decode cX7_init 236 = .ok (.sipush 300, 3) := by decide +kernel
theorem dX7_init_239 : decode cX7_init 239 = .ok (.newarray .int, 2) := by decide +kernel
theorem dX7_init_241 : decode cX7_init 241 = .ok (.putfield 71, 3) := by decide +kernel
theorem dX7_init_244 : decode cX7_init 244 = .ok (.aload_n 0, 1) := by decide +kernel
theorem dX7_init_245 : decode cX7_init 245 = .ok (.sipush 300, 3) := by decide +kernel
theorem dX7_init_248 : decode cX7_init 248 = .ok (.newarray .int, 2) := by decide +kernel
theorem dX7_init_250 : decode cX7_init 250 = .ok (.putfield 74, 3) := by decide +kernel
theorem dX7_init_253 : decode cX7_init 253 = .ok (.aload_n 0, 1) := by decide +kernel
theorem dX7_init_254 : decode cX7_init 254 = .ok (.sipush 300, 3) := by decide +kernel
theorem dX7_init_257 : decode cX7_init 257 = .ok (.newarray .int, 2) := by decide +kernel
theorem dX7_init_259 : decode cX7_init 259 = .ok (.putfield 77, 3) := by decide +kernel
theorem dX7_init_262 : decode cX7_init 262 = .ok (.aload_n 0, 1) := by decide +kernel
theorem dX7_init_263 : decode cX7_init 263 = .ok (.sipush 300, 3) := by decide +kernel
theorem dX7_init_266 : decode cX7_init 266 = .ok (.newarray .int, 2) := by decide +kernel
theorem dX7_init_268 : decode cX7_init 268 = .ok (.putfield 80, 3) := by decide +kernel
theorem dX7_init_271 : decode cX7_init 271 = .ok (.aload_n 0, 1) := by decide +kernel
theorem dX7_init_272 : decode cX7_init 272 = .ok (.sipush 300, 3) := by decide +kernel
theorem dX7_init_275 : decode cX7_init 275 = .ok (.newarray .int, 2) := by decide +kernel
theorem dX7_init_277 : decode cX7_init 277 = .ok (.putfield 83, 3) := by decide +kernel
theorem dX7_init_280 : decode cX7_init 280 = .ok (.aload_n 0, 1) := by decide +kernel
theorem dX7_init_281 : decode cX7_init 281 = .ok (.sipush 300, 3) := by decide +kernel
theorem dX7_init_284 : decode cX7_init 284 = .ok (.newarray .int, 2) := by decide +kernel
theorem dX7_init_286 : decode cX7_init 286 = .ok (.putfield 86, 3) := by decide +kernel
theorem dX7_init_289 : decode cX7_init 289 = .ok (.aload_n 0, 1) := by decide +kernel
theorem dX7_init_290 : decode cX7_init 290 = .ok (.sipush 300, 3) := by decide +kernel
theorem dX7_init_293 : decode cX7_init 293 = .ok (.newarray .int, 2) := by decide +kernel
theorem dX7_init_295 : decode cX7_init 295 = .ok (.putfield 89, 3) := by decide +kernel
theorem dX7_init_298 : decode cX7_init 298 = .ok (.aload_n 0, 1) := by decide +kernel
theorem dX7_init_299 : decode cX7_init 299 = .ok (.sipush 300, 3) := by decide +kernel
theorem dX7_init_302 : decode cX7_init 302 = .ok (.newarray .int, 2) := by decide +kernel
theorem dX7_init_304 : decode cX7_init 304 = .ok (.putfield 92, 3) := by decide +kernel
theorem dX7_init_307 : decode cX7_init 307 = .ok (.aload_n 0, 1) := by decide +kernel
theorem dX7_init_308 : decode cX7_init 308 = .ok (.sipush 300, 3) := by decide +kernel
theorem dX7_init_311 : decode cX7_init 311 = .ok (.newarray .int, 2) := by decide +kernel
theorem dX7_init_313 : decode cX7_init 313 = .ok (.putfield 95, 3) := by decide +kernel
theorem dX7_init_316 : decode cX7_init 316 = .ok (.aload_n 0, 1) := by decide +kernel
theorem dX7_init_317 : decode cX7_init 317 = .ok (.sipush 200, 3) := by decide +kernel
theorem dX7_init_320 : decode cX7_init 320 = .ok (.newarray .byte, 2) := by decide +kernel
theorem dX7_init_322 : decode cX7_init 322 = .ok (.putfield 98, 3) := by decide +kernel
theorem dX7_init_325 : decode cX7_init 325 = .ok (.aload_n 0, 1) := by decide +kernel
theorem dX7_init_326 : decode cX7_init 326 = .ok (.bipush 30, 2) := by decide +kernel
theorem dX7_init_328 : decode cX7_init 328 = .ok (.newarray .int, 2) := by decide +kernel
theorem dX7_init_330 : decode cX7_init 330 = .ok (.putfield 102, 3) := by decide +kernel
theorem dX7_init_333 : decode cX7_init 333 = .ok (.aload_n 0, 1) := by decide +kernel
theorem dX7_init_334 : decode cX7_init 334 = .ok (.bipush 30, 2) := by decide +kernel
theorem dX7_init_336 : decode cX7_init 336 = .ok (.newarray .int, 2) := by decide +kernel
theorem dX7_init_338 : decode cX7_init 338 = .ok (.putfield 105, 3) := by decide +kernel
theorem dX7_init_341 : decode cX7_init 341 = .ok (.aload_n 0, 1) := by decide +kernel
theorem dX7_init_342 : decode cX7_init 342 = .ok (.bipush 31, 2) := by decide +kernel
theorem dX7_init_344 : decode cX7_init 344 = .ok (.newarray .int, 2) := by decide +kernel
theorem dX7_init_346 : decode cX7_init 346 = .ok (.putfield 108, 3) := by decide +kernel
theorem dX7_init_349 : decode cX7_init 349 = .ok (.aload_n 0, 1) := by decide +kernel
theorem dX7_init_350 : decode cX7_init 350 = .ok (.sipush 6200, 3) := by decide +kernel
theorem dX7_init_353 : decode cX7_init 353 = .ok (.newarray .int, 2) := by decide +kernel
theorem dX7_init_355 : decode cX7_init 355 = .ok (.putfield 111, 3) := by decide +kernel
theorem dX7_init_358 : decode cX7_init 358 = .ok (.aload_n 0, 1) := by decide +kernel
theorem dX7_init_359 : decode cX7_init 359 = .ok (.sipush 6200, 3) := by decide +kernel
theorem dX7_init_362 : decode cX7_init 362 = .ok (.newarray .int, 2) := by decide +kernel
theorem dX7_init_364 : decode cX7_init 364 = .ok (.putfield 114, 3) := by decide +kernel
theorem dX7_init_367 : decode cX7_init 367 = .ok (.aload_n 0, 1) := by decide +kernel
theorem dX7_init_368 : decode cX7_init 368 = .ok (.sipush 300, 3) := by decide +kernel
theorem dX7_init_371 : decode cX7_init 371 = .ok (.newarray .int, 2) := by decide +kernel
theorem dX7_init_373 : decode cX7_init 373 = .ok (.putfield 117, 3) := by decide +kernel
theorem dX7_init_376 : decode cX7_init 376 = .ok (.aload_n 0, 1) := by decide +kernel
theorem dX7_init_377 : decode cX7_init 377 = .ok (.sipush 200, 3) := by decide +kernel
theorem dX7_init_380 : decode cX7_init 380 = .ok (.newarray .int, 2) := by decide +kernel
theorem dX7_init_382 : decode cX7_init 382 = .ok (.putfield 120, 3) := by decide +kernel
theorem dX7_init_385 : decode cX7_init 385 = .ok (.aload_n 0, 1) := by decide +kernel
theorem dX7_init_386 : decode cX7_init 386 = .ok (.sipush 300, 3) := by decide +kernel
theorem dX7_init_389 : decode cX7_init 389 = .ok (.newarray .int, 2) := by decide +kernel
theorem dX7_init_391 : decode cX7_init 391 = .ok (.putfield 123, 3) := by decide +kernel
theorem dX7_init_394 : decode cX7_init 394 = .ok (.aload_n 0, 1) := by decide +kernel
theorem dX7_init_395 : decode cX7_init 395 = .ok (.sipush 300, 3) := by decide +kernel
theorem dX7_init_398 : decode cX7_init 398 = .ok (.newarray .boolean, 2) := by decide +kernel
theorem dX7_init_400 : decode cX7_init 400 = .ok (.putfield 126, 3) := by decide +kernel
theorem dX7_init_403 : decode cX7_init 403 = .ok (.return_, 1) := by decide +kernel
theorem dX7_in_0 : decode cX7_in 0 = .ok (.iload_n 0, 1) := by decide +kernel
theorem dX7_in_1 : decode cX7_in 1 = .ok (.iload_n 1, 1) := by decide +kernel
theorem dX7_in_2 : decode cX7_in 2 = .ok (.if_icmp .lt 12, 3) := by decide +kernel
theorem dX7_in_5 : decode cX7_in 5 = .ok (.iload_n 0, 1) := by decide +kernel
theorem dX7_in_6 : decode cX7_in 6 = .ok (.iload_n 2, 1) := by decide +kernel
theorem dX7_in_7 : decode cX7_in 7 = .ok (.if_icmp .gt 7, 3) := by decide +kernel
theorem dX7_in_10 : decode cX7_in 10 = .ok (.iconst 1, 1) := by decide +kernel
theorem dX7_in_11 : decode cX7_in 11 = .ok (.goto 4, 3) := by decide +kernel
theorem dX7_in_14 : decode cX7_in 14 = .ok (.iconst 0, 1) := by decide +kernel
theorem dX7_in_15 : decode cX7_in 15 = .ok (.ireturn, 1) := by decide +kernel
theorem dX7_isPerson_0 : decode cX7_isPerson 0 = .ok (.iload_n 0, 1) := by decide +kernel
theorem dX7_isPerson_1 : decode cX7_isPerson 1 = .ok (.iconst 0, 1) := by decide +kernel
theorem dX7_isPerson_2 : decode cX7_isPerson 2 = .ok (.bipush 9, 2) := by decide +kernel
theorem dX7_isPerson_4 : decode cX7_isPerson 4 = .ok (.invokestatic 133, 3) := by decide +kernel
theorem dX7_isPerson_7 : decode cX7_isPerson 7 = .ok (.ireturn, 1) := by decide +kernel
theorem dX7_isPort_0 : decode cX7_isPort 0 = .ok (.iload_n 1, 1) := by decide +kernel
theorem dX7_isPort_1 : decode cX7_isPort 1 = .ok (.iconst 0, 1) := by decide +kernel
theorem dX7_isPort_2 : decode cX7_isPort 2 = .ok (.aload_n 0, 1) := by decide +kernel
theorem dX7_isPort_3 : decode cX7_isPort 3 = .ok (.getfield 137, 3) := by decide +kernel
theorem dX7_isPort_6 : decode cX7_isPort 6 = .ok (.iconst 1, 1) := by decide +kernel
theorem dX7_isPort_7 : decode cX7_isPort 7 = .ok (.isub, 1) := by decide +kernel
theorem dX7_isPort_8 : decode cX7_isPort 8 = .ok (.invokestatic 133, 3) := by decide +kernel
theorem dX7_isPort_11 : decode cX7_isPort 11 = .ok (.ireturn, 1) := by decide +kernel
theorem dX7_isGalley_0 : decode cX7_isGalley 0 = .ok (.iload_n 1, 1) := by decide +kernel
theorem dX7_isGalley_1 : decode cX7_isGalley 1 = .ok (.iconst 0, 1) := by decide +kernel
theorem dX7_isGalley_2 : decode cX7_isGalley 2 = .ok (.aload_n 0, 1) := by decide +kernel
theorem dX7_isGalley_3 : decode cX7_isGalley 3 = .ok (.getfield 140, 3) := by decide +kernel
theorem dX7_isGalley_6 : decode cX7_isGalley 6 = .ok (.iconst 1, 1) := by decide +kernel
theorem dX7_isGalley_7 : decode cX7_isGalley 7 = .ok (.isub, 1) := by decide +kernel
theorem dX7_isGalley_8 : decode cX7_isGalley 8 = .ok (.invokestatic 133, 3) := by decide +kernel
theorem dX7_isGalley_11 : decode cX7_isGalley 11 = .ok (.ireturn, 1) := by decide +kernel
theorem dX7_isBale_0 : decode cX7_isBale 0 = .ok (.iload_n 1, 1) := by decide +kernel
theorem dX7_isBale_1 : decode cX7_isBale 1 = .ok (.iconst 0, 1) := by decide +kernel
theorem dX7_isBale_2 : decode cX7_isBale 2 = .ok (.aload_n 0, 1) := by decide +kernel
theorem dX7_isBale_3 : decode cX7_isBale 3 = .ok (.getfield 143, 3) := by decide +kernel
theorem dX7_isBale_6 : decode cX7_isBale 6 = .ok (.iconst 1, 1) := by decide +kernel
theorem dX7_isBale_7 : decode cX7_isBale 7 = .ok (.isub, 1) := by decide +kernel
theorem dX7_isBale_8 : decode cX7_isBale 8 = .ok (.invokestatic 133, 3) := by decide +kernel
theorem dX7_isBale_11 : decode cX7_isBale 11 = .ok (.ireturn, 1) := by decide +kernel
theorem dX7_purse_0 : decode cX7_purse 0 = .ok (.iload_n 1, 1) := by decide +kernel
theorem dX7_purse_1 : decode cX7_purse 1 = .ok (.invokestatic 146, 3) := by decide +kernel
theorem dX7_purse_4 : decode cX7_purse 4 = .ok (.ifCond .eq 13, 3) := by decide +kernel
theorem dX7_purse_7 : decode cX7_purse 7 = .ok (.iload_n 2, 1) := by decide +kernel
theorem dX7_purse_8 : decode cX7_purse 8 = .ok (.iconst 1, 1) := by decide +kernel
theorem dX7_purse_9 : decode cX7_purse 9 = .ok (.ldc 150, 2) := by decide +kernel
theorem dX7_purse_11 : decode cX7_purse 11 = .ok (.invokestatic 133, 3) := by decide +kernel
theorem dX7_purse_14 : decode cX7_purse 14 = .ok (.ifCond .ne 6, 3) := by decide +kernel
theorem dX7_purse_17 : decode cX7_purse 17 = .ok (.ldc 151, 2) := by decide +kernel
theorem dX7_purse_19 : decode cX7_purse 19 = .ok (.ireturn, 1) := by decide +kernel
theorem dX7_purse_20 : decode cX7_purse 20 = .ok (.aload_n 0, 1) := by decide +kernel
theorem dX7_purse_21 : decode cX7_purse 21 = .ok (.getfield 7, 3) := by decide +kernel
theorem dX7_purse_24 : decode cX7_purse 24 = .ok (.iload_n 1, 1) := by decide +kernel
theorem dX7_purse_25 : decode cX7_purse 25 = .ok (.dup2, 1) := by decide +kernel
theorem dX7_purse_26 : decode cX7_purse 26 = .ok (.iaload, 1) := by decide +kernel
theorem dX7_purse_27 : decode cX7_purse 27 = .ok (.iload_n 2, 1) := by decide +kernel
theorem dX7_purse_28 : decode cX7_purse 28 = .ok (.iadd, 1) := by decide +kernel
theorem dX7_purse_29 : decode cX7_purse 29 = .ok (.iastore, 1) := by decide +kernel
theorem dX7_purse_30 : decode cX7_purse 30 = .ok (.aload_n 0, 1) := by decide +kernel
theorem dX7_purse_31 : decode cX7_purse 31 = .ok (.dup, 1) := by decide +kernel
theorem dX7_purse_32 : decode cX7_purse 32 = .ok (.getfield 152, 3) := by decide +kernel
theorem dX7_purse_35 : decode cX7_purse 35 = .ok (.iload_n 2, 1) := by decide +kernel
theorem dX7_purse_36 : decode cX7_purse 36 = .ok (.iadd, 1) := by decide +kernel
theorem dX7_purse_37 : decode cX7_purse 37 = .ok (.putfield 152, 3) := by decide +kernel
theorem dX7_purse_40 : decode cX7_purse 40 = .ok (.aload_n 0, 1) := by decide +kernel
theorem dX7_purse_41 : decode cX7_purse 41 = .ok (.getfield 7, 3) := by decide +kernel
theorem dX7_purse_44 : decode cX7_purse 44 = .ok (.iload_n 1, 1) := by decide +kernel
theorem dX7_purse_45 : decode cX7_purse 45 = .ok (.iaload, 1) := by decide +kernel
theorem dX7_purse_46 : decode cX7_purse 46 = .ok (.ireturn, 1) := by decide +kernel
theorem dX7_port_0 : decode cX7_port 0 = .ok (.aload_n 0, 1) := by decide +kernel
theorem dX7_port_1 : decode cX7_port 1 = .ok (.getfield 137, 3) := by decide +kernel
theorem dX7_port_4 : decode cX7_port 4 = .ok (.ifCond .ne 10, 3) := by decide +kernel
theorem dX7_port_7 : decode cX7_port 7 = .ok (.iload_n 1, 1) := by decide +kernel
theorem dX7_port_8 : decode cX7_port 8 = .ok (.ifCond .eq 18, 3) := by decide +kernel
theorem dX7_port_11 : decode cX7_port 11 = .ok (.goto 13, 3) := by decide +kernel
theorem dX7_port_14 : decode cX7_port 14 = .ok (.iload_n 1, 1) := by decide +kernel
theorem dX7_port_15 : decode cX7_port 15 = .ok (.iconst 1, 1) := by decide +kernel
theorem dX7_port_16 : decode cX7_port 16 = .ok (.bipush 9, 2) := by decide +kernel
theorem dX7_port_18 : decode cX7_port 18 = .ok (.invokestatic 133, 3) := by decide +kernel
theorem dX7_port_21 : decode cX7_port 21 = .ok (.ifCond .ne 5, 3) := by decide +kernel
theorem dX7_port_24 : decode cX7_port 24 = .ok (.iconst (-1), 1) := by decide +kernel
theorem dX7_port_25 : decode cX7_port 25 = .ok (.ireturn, 1) := by decide +kernel
theorem dX7_port_26 : decode cX7_port 26 = .ok (.iconst 0, 1) := by decide +kernel
theorem dX7_port_27 : decode cX7_port 27 = .ok (.istore_n 2, 1) := by decide +kernel
theorem dX7_port_28 : decode cX7_port 28 = .ok (.iload_n 2, 1) := by decide +kernel
theorem dX7_port_29 : decode cX7_port 29 = .ok (.aload_n 0, 1) := by decide +kernel
theorem dX7_port_30 : decode cX7_port 30 = .ok (.getfield 140, 3) := by decide +kernel
theorem dX7_port_33 : decode cX7_port 33 = .ok (.if_icmp .ge 21, 3) := by decide +kernel
theorem dX7_port_36 : decode cX7_port 36 = .ok (.aload_n 0, 1) := by decide +kernel
theorem dX7_port_37 : decode cX7_port 37 = .ok (.getfield 34, 3) := by decide +kernel
theorem dX7_port_40 : decode cX7_port 40 = .ok (.iload_n 2, 1) := by decide +kernel
theorem dX7_port_41 : decode cX7_port 41 = .ok (.iaload, 1) := by decide +kernel
theorem dX7_port_42 : decode cX7_port 42 = .ok (.ifCond .eq 6, 3) := by decide +kernel
theorem dX7_port_45 : decode cX7_port 45 = .ok (.bipush (-2), 2) := by decide +kernel
theorem dX7_port_47 : decode cX7_port 47 = .ok (.ireturn, 1) := by decide +kernel
theorem dX7_port_48 : decode cX7_port 48 = .ok (.iinc 2 1, 3) := by decide +kernel
theorem dX7_port_51 : decode cX7_port 51 = .ok (.goto (-23), 3) := by decide +kernel
theorem dX7_port_54 : decode cX7_port 54 = .ok (.aload_n 0, 1) := by decide +kernel
theorem dX7_port_55 : decode cX7_port 55 = .ok (.getfield 137, 3) := by decide +kernel
theorem dX7_port_58 : decode cX7_port 58 = .ok (.bipush 12, 2) := by decide +kernel
theorem dX7_port_60 : decode cX7_port 60 = .ok (.if_icmp .ne 6, 3) := by decide +kernel
theorem dX7_port_63 : decode cX7_port 63 = .ok (.bipush (-3), 2) := by decide +kernel
theorem dX7_port_65 : decode cX7_port 65 = .ok (.ireturn, 1) := by decide +kernel
theorem dX7_port_66 : decode cX7_port 66 = .ok (.aload_n 0, 1) := by decide +kernel
theorem dX7_port_67 : decode cX7_port 67 = .ok (.getfield 13, 3) := by decide +kernel
theorem dX7_port_70 : decode cX7_port 70 = .ok (.aload_n 0, 1) := by decide +kernel
theorem dX7_port_71 : decode cX7_port 71 = .ok (.getfield 137, 3) := by decide +kernel
theorem dX7_port_74 : decode cX7_port 74 = .ok (.iload_n 1, 1) := by decide +kernel
theorem dX7_port_75 : decode cX7_port 75 = .ok (.iastore, 1) := by decide +kernel
theorem dX7_port_76 : decode cX7_port 76 = .ok (.aload_n 0, 1) := by decide +kernel
theorem dX7_port_77 : decode cX7_port 77 = .ok (.getfield 16, 3) := by decide +kernel
theorem dX7_port_80 : decode cX7_port 80 = .ok (.aload_n 0, 1) := by decide +kernel
theorem dX7_port_81 : decode cX7_port 81 = .ok (.getfield 137, 3) := by decide +kernel
theorem dX7_port_84 : decode cX7_port 84 = .ok (.aload_n 0, 1) := by decide +kernel
theorem dX7_port_85 : decode cX7_port 85 = .ok (.getfield 137, 3) := by decide +kernel
theorem dX7_port_88 : decode cX7_port 88 = .ok (.ifCond .ne 7, 3) := by decide +kernel
theorem dX7_port_91 : decode cX7_port 91 = .ok (.iconst 0, 1) := by decide +kernel
theorem dX7_port_92 : decode cX7_port 92 = .ok (.goto 16, 3) := by decide +kernel
theorem dX7_port_95 : decode cX7_port 95 = .ok (.aload_n 0, 1) := by decide +kernel
theorem dX7_port_96 : decode cX7_port 96 = .ok (.getfield 16, 3) := by decide +kernel
theorem dX7_port_99 : decode cX7_port 99 = .ok (.aload_n 0, 1) := by decide +kernel
theorem dX7_port_100 : decode cX7_port 100 = .ok (.getfield 137, 3) := by decide +kernel
theorem dX7_port_103 : decode cX7_port 103 = .ok (.iconst 1, 1) := by decide +kernel
theorem dX7_port_104 : decode cX7_port 104 = .ok (.isub, 1) := by decide +kernel
theorem dX7_port_105 : decode cX7_port 105 = .ok (.iaload, 1) := by decide +kernel
theorem dX7_port_106 : decode cX7_port 106 = .ok (.iload_n 1, 1) := by decide +kernel
theorem dX7_port_107 : decode cX7_port 107 = .ok (.iadd, 1) := by decide +kernel
theorem dX7_port_108 : decode cX7_port 108 = .ok (.iastore, 1) := by decide +kernel
theorem dX7_port_109 : decode cX7_port 109 = .ok (.aload_n 0, 1) := by decide +kernel
theorem dX7_port_110 : decode cX7_port 110 = .ok (.dup, 1) := by decide +kernel
theorem dX7_port_111 : decode cX7_port 111 = .ok (.getfield 137, 3) := by decide +kernel
theorem dX7_port_114 : decode cX7_port 114 = .ok (.iconst 1, 1) := by decide +kernel
theorem dX7_port_115 : decode cX7_port 115 = .ok (.iadd, 1) := by decide +kernel
theorem dX7_port_116 : decode cX7_port 116 = .ok (.putfield 137, 3) := by decide +kernel
theorem dX7_port_119 : decode cX7_port 119 = .ok (.aload_n 0, 1) := by decide +kernel
theorem dX7_port_120 : decode cX7_port 120 = .ok (.getfield 137, 3) := by decide +kernel
theorem dX7_port_123 : decode cX7_port 123 = .ok (.iconst 1, 1) := by decide +kernel
theorem dX7_port_124 : decode cX7_port 124 = .ok (.isub, 1) := by decide +kernel
theorem dX7_port_125 : decode cX7_port 125 = .ok (.ireturn, 1) := by decide +kernel
theorem dX7_wind_0 : decode cX7_wind 0 = .ok (.iload_n 1, 1) := by decide +kernel
theorem dX7_wind_1 : decode cX7_wind 1 = .ok (.iconst 0, 1) := by decide +kernel
theorem dX7_wind_2 : decode cX7_wind 2 = .ok (.bipush 29, 2) := by decide +kernel
theorem dX7_wind_4 : decode cX7_wind 4 = .ok (.invokestatic 133, 3) := by decide +kernel
theorem dX7_wind_7 : decode cX7_wind 7 = .ok (.ifCond .eq 14, 3) := by decide +kernel
theorem dX7_wind_10 : decode cX7_wind 10 = .ok (.iload_n 2, 1) := by decide +kernel
theorem dX7_wind_11 : decode cX7_wind 11 = .ok (.bipush (-9), 2) := by decide +kernel
theorem dX7_wind_13 : decode cX7_wind 13 = .ok (.bipush 9, 2) := by decide +kernel
theorem dX7_wind_15 : decode cX7_wind 15 = .ok (.invokestatic 133, 3) := by decide +kernel
theorem dX7_wind_18 : decode cX7_wind 18 = .ok (.ifCond .ne 6, 3) := by decide +kernel
theorem dX7_wind_21 : decode cX7_wind 21 = .ok (.bipush (-100), 2) := by decide +kernel
theorem dX7_wind_23 : decode cX7_wind 23 = .ok (.ireturn, 1) := by decide +kernel
theorem dX7_wind_24 : decode cX7_wind 24 = .ok (.aload_n 0, 1) := by decide +kernel
theorem dX7_wind_25 : decode cX7_wind 25 = .ok (.getfield 19, 3) := by decide +kernel
theorem dX7_wind_28 : decode cX7_wind 28 = .ok (.iload_n 1, 1) := by decide +kernel
theorem dX7_wind_29 : decode cX7_wind 29 = .ok (.iaload, 1) := by decide +kernel
theorem dX7_wind_30 : decode cX7_wind 30 = .ok (.istore_n 3, 1) := by decide +kernel
theorem dX7_wind_31 : decode cX7_wind 31 = .ok (.aload_n 0, 1) := by decide +kernel
theorem dX7_wind_32 : decode cX7_wind 32 = .ok (.getfield 19, 3) := by decide +kernel
theorem dX7_wind_35 : decode cX7_wind 35 = .ok (.iload_n 1, 1) := by decide +kernel
theorem dX7_wind_36 : decode cX7_wind 36 = .ok (.iload_n 2, 1) := by decide +kernel
theorem dX7_wind_37 : decode cX7_wind 37 = .ok (.iastore, 1) := by decide +kernel
theorem dX7_wind_38 : decode cX7_wind 38 = .ok (.iload_n 3, 1) := by decide +kernel
theorem dX7_wind_39 : decode cX7_wind 39 = .ok (.ireturn, 1) := by decide +kernel
theorem dX7_galley_0 : decode cX7_galley 0 = .ok (.iload_n 1, 1) := by decide +kernel
theorem dX7_galley_1 : decode cX7_galley 1 = .ok (.iconst 1, 1) := by decide +kernel
theorem dX7_galley_2 : decode cX7_galley 2 = .ok (.sipush 999, 3) := by decide +kernel
theorem dX7_galley_5 : decode cX7_galley 5 = .ok (.invokestatic 133, 3) := by decide +kernel
theorem dX7_galley_8 : decode cX7_galley 8 = .ok (.ifCond .eq 36, 3) := by decide +kernel
theorem dX7_galley_11 : decode cX7_galley 11 = .ok (.iload_n 2, 1) := by decide +kernel
theorem dX7_galley_12 : decode cX7_galley 12 = .ok (.iconst 1, 1) := by decide +kernel
theorem dX7_galley_13 : decode cX7_galley 13 = .ok (.sipush 9999, 3) := by decide +kernel
theorem dX7_galley_16 : decode cX7_galley 16 = .ok (.invokestatic 133, 3) := by decide +kernel
theorem dX7_galley_19 : decode cX7_galley 19 = .ok (.ifCond .eq 25, 3) := by decide +kernel
theorem dX7_galley_22 : decode cX7_galley 22 = .ok (.iload_n 3, 1) := by decide +kernel
theorem dX7_galley_23 : decode cX7_galley 23 = .ok (.iconst 1, 1) := by decide +kernel
theorem dX7_galley_24 : decode cX7_galley 24 = .ok (.bipush 9, 2) := by decide +kernel
theorem dX7_galley_26 : decode cX7_galley 26 = .ok (.invokestatic 133, 3) := by decide +kernel
theorem dX7_galley_29 : decode cX7_galley 29 = .ok (.ifCond .eq 15, 3) := by decide +kernel
theorem dX7_galley_32 : decode cX7_galley 32 = .ok (.iload 4, 2) := by decide +kernel
theorem dX7_galley_34 : decode cX7_galley 34 = .ok (.iconst 1, 1) := by decide +kernel
theorem dX7_galley_35 : decode cX7_galley 35 = .ok (.sipush 9999, 3) := by decide +kernel
theorem dX7_galley_38 : decode cX7_galley 38 = .ok (.invokestatic 133, 3) := by decide +kernel
theorem dX7_galley_41 : decode cX7_galley 41 = .ok (.ifCond .ne 5, 3) := by decide +kernel
theorem dX7_galley_44 : decode cX7_galley 44 = .ok (.iconst (-1), 1) := by decide +kernel
theorem dX7_galley_45 : decode cX7_galley 45 = .ok (.ireturn, 1) := by decide +kernel
theorem dX7_galley_46 : decode cX7_galley 46 = .ok (.aload_n 0, 1) := by decide +kernel
theorem dX7_galley_47 : decode cX7_galley 47 = .ok (.getfield 140, 3) := by decide +kernel
theorem dX7_galley_50 : decode cX7_galley 50 = .ok (.bipush 8, 2) := by decide +kernel
theorem dX7_galley_52 : decode cX7_galley 52 = .ok (.if_icmp .ne 6, 3) := by decide +kernel
theorem dX7_galley_55 : decode cX7_galley 55 = .ok (.bipush (-3), 2) := by decide +kernel
theorem dX7_galley_57 : decode cX7_galley 57 = .ok (.ireturn, 1) := by decide +kernel
theorem dX7_galley_58 : decode cX7_galley 58 = .ok (.aload_n 0, 1) := by decide +kernel
theorem dX7_galley_59 : decode cX7_galley 59 = .ok (.getfield 140, 3) := by decide +kernel
theorem dX7_galley_62 : decode cX7_galley 62 = .ok (.istore 5, 2) := by decide +kernel
theorem dX7_galley_64 : decode cX7_galley 64 = .ok (.aload_n 0, 1) := by decide +kernel
theorem dX7_galley_65 : decode cX7_galley 65 = .ok (.getfield 22, 3) := by decide +kernel
theorem dX7_galley_68 : decode cX7_galley 68 = .ok (.iload 5, 2) := by decide +kernel
theorem dX7_galley_70 : decode cX7_galley 70 = .ok (.iload_n 1, 1) := by decide +kernel
theorem dX7_galley_71 : decode cX7_galley 71 = .ok (.iastore, 1) := by decide +kernel
theorem dX7_galley_72 : decode cX7_galley 72 = .ok (.aload_n 0, 1) := by decide +kernel
theorem dX7_galley_73 : decode cX7_galley 73 = .ok (.getfield 25, 3) := by decide +kernel
theorem dX7_galley_76 : decode cX7_galley 76 = .ok (.iload 5, 2) := by decide +kernel
theorem dX7_galley_78 : decode cX7_galley 78 = .ok (.iload_n 2, 1) := by decide +kernel
theorem dX7_galley_79 : decode cX7_galley 79 = .ok (.iastore, 1) := by decide +kernel
theorem dX7_galley_80 : decode cX7_galley 80 = .ok (.aload_n 0, 1) := by decide +kernel
theorem dX7_galley_81 : decode cX7_galley 81 = .ok (.getfield 28, 3) := by decide +kernel
theorem dX7_galley_84 : decode cX7_galley 84 = .ok (.iload 5, 2) := by decide +kernel
theorem dX7_galley_86 : decode cX7_galley 86 = .ok (.iload_n 3, 1) := by decide +kernel
theorem dX7_galley_87 : decode cX7_galley 87 = .ok (.iastore, 1) := by decide +kernel
theorem dX7_galley_88 : decode cX7_galley 88 = .ok (.aload_n 0, 1) := by decide +kernel
theorem dX7_galley_89 : decode cX7_galley 89 = .ok (.getfield 31, 3) := by decide +kernel
theorem dX7_galley_92 : decode cX7_galley 92 = .ok (.iload 5, 2) := by decide +kernel
theorem dX7_galley_94 : decode cX7_galley 94 = .ok (.iload 4, 2) := by decide +kernel
theorem dX7_galley_96 : decode cX7_galley 96 = .ok (.iastore, 1) := by decide +kernel
theorem dX7_galley_97 : decode cX7_galley 97 = .ok (.aload_n 0, 1) := by decide +kernel
theorem dX7_galley_98 : decode cX7_galley 98 = .ok (.dup, 1) := by decide +kernel
theorem dX7_galley_99 : decode cX7_galley 99 = .ok (.getfield 140, 3) := by decide +kernel
theorem dX7_galley_102 : decode cX7_galley 102 = .ok (.iconst 1, 1) := by decide +kernel
theorem dX7_galley_103 : decode cX7_galley 103 = .ok (.iadd, 1) := by decide +kernel
theorem dX7_galley_104 : decode cX7_galley 104 = .ok (.putfield 140, 3) := by decide +kernel
theorem dX7_galley_107 : decode cX7_galley 107 = .ok (.iload 5, 2) := by decide +kernel
theorem dX7_galley_109 : decode cX7_galley 109 = .ok (.ireturn, 1) := by decide +kernel
theorem dX7_bid_0 : decode cX7_bid 0 = .ok (.aload_n 0, 1) := by decide +kernel
theorem dX7_bid_1 : decode cX7_bid 1 = .ok (.iload_n 1, 1) := by decide +kernel
theorem dX7_bid_2 : decode cX7_bid 2 = .ok (.invokevirtual 155, 3) := by decide +kernel
theorem dX7_bid_5 : decode cX7_bid 5 = .ok (.ifCond .eq 20, 3) := by decide +kernel
theorem dX7_bid_8 : decode cX7_bid 8 = .ok (.iload_n 2, 1) := by decide +kernel
theorem dX7_bid_9 : decode cX7_bid 9 = .ok (.invokestatic 146, 3) := by decide +kernel
theorem dX7_bid_12 : decode cX7_bid 12 = .ok (.ifCond .eq 13, 3) := by decide +kernel
theorem dX7_bid_15 : decode cX7_bid 15 = .ok (.iload_n 3, 1) := by decide +kernel
theorem dX7_bid_16 : decode cX7_bid 16 = .ok (.iconst 1, 1) := by decide +kernel
theorem dX7_bid_17 : decode cX7_bid 17 = .ok (.ldc 158, 2) := by decide +kernel
theorem dX7_bid_19 : decode cX7_bid 19 = .ok (.invokestatic 133, 3) := by decide +kernel
theorem dX7_bid_22 : decode cX7_bid 22 = .ok (.ifCond .ne 5, 3) := by decide +kernel
theorem dX7_bid_25 : decode cX7_bid 25 = .ok (.iconst (-1), 1) := by decide +kernel
theorem dX7_bid_26 : decode cX7_bid 26 = .ok (.ireturn, 1) := by decide +kernel
theorem dX7_bid_27 : decode cX7_bid 27 = .ok (.aload_n 0, 1) := by decide +kernel
theorem dX7_bid_28 : decode cX7_bid 28 = .ok (.getfield 55, 3) := by decide +kernel
theorem dX7_bid_31 : decode cX7_bid 31 = .ok (.iload_n 1, 1) := by decide +kernel
theorem dX7_bid_32 : decode cX7_bid 32 = .ok (.baload, 1) := by decide +kernel
theorem dX7_bid_33 : decode cX7_bid 33 = .ok (.ifCond .ne 23, 3) := by decide +kernel
theorem dX7_bid_36 : decode cX7_bid 36 = .ok (.iload_n 3, 1) := by decide +kernel
theorem dX7_bid_37 : decode cX7_bid 37 = .ok (.aload_n 0, 1) := by decide +kernel
theorem dX7_bid_38 : decode cX7_bid 38 = .ok (.getfield 49, 3) := by decide +kernel
theorem dX7_bid_41 : decode cX7_bid 41 = .ok (.iload_n 1, 1) := by decide +kernel
theorem dX7_bid_42 : decode cX7_bid 42 = .ok (.iaload, 1) := by decide +kernel
theorem dX7_bid_43 : decode cX7_bid 43 = .ok (.if_icmp .le 13, 3) := by decide +kernel
theorem dX7_bid_46 : decode cX7_bid 46 = .ok (.aload_n 0, 1) := by decide +kernel
theorem dX7_bid_47 : decode cX7_bid 47 = .ok (.getfield 7, 3) := by decide +kernel
theorem dX7_bid_50 : decode cX7_bid 50 = .ok (.iload_n 2, 1) := by decide +kernel
theorem dX7_bid_51 : decode cX7_bid 51 = .ok (.iaload, 1) := by decide +kernel
theorem dX7_bid_52 : decode cX7_bid 52 = .ok (.iload_n 3, 1) := by decide +kernel
theorem dX7_bid_53 : decode cX7_bid 53 = .ok (.if_icmp .ge 6, 3) := by decide +kernel
theorem dX7_bid_56 : decode cX7_bid 56 = .ok (.bipush (-2), 2) := by decide +kernel
theorem dX7_bid_58 : decode cX7_bid 58 = .ok (.ireturn, 1) := by decide +kernel
theorem dX7_bid_59 : decode cX7_bid 59 = .ok (.aload_n 0, 1) := by decide +kernel
theorem dX7_bid_60 : decode cX7_bid 60 = .ok (.getfield 49, 3) := by decide +kernel
theorem dX7_bid_63 : decode cX7_bid 63 = .ok (.iload_n 1, 1) := by decide +kernel
theorem dX7_bid_64 : decode cX7_bid 64 = .ok (.iload_n 3, 1) := by decide +kernel
theorem dX7_bid_65 : decode cX7_bid 65 = .ok (.iastore, 1) := by decide +kernel
theorem dX7_bid_66 : decode cX7_bid 66 = .ok (.aload_n 0, 1) := by decide +kernel
theorem dX7_bid_67 : decode cX7_bid 67 = .ok (.getfield 52, 3) := by decide +kernel
theorem dX7_bid_70 : decode cX7_bid 70 = .ok (.iload_n 1, 1) := by decide +kernel
theorem dX7_bid_71 : decode cX7_bid 71 = .ok (.iload_n 2, 1) := by decide +kernel
theorem dX7_bid_72 : decode cX7_bid 72 = .ok (.iastore, 1) := by decide +kernel
theorem dX7_bid_73 : decode cX7_bid 73 = .ok (.iconst 1, 1) := by decide +kernel
theorem dX7_bid_74 : decode cX7_bid 74 = .ok (.ireturn, 1) := by decide +kernel
theorem dX7_let_0 : decode cX7_let 0 = .ok (.aload_n 0, 1) := by decide +kernel
theorem dX7_let_1 : decode cX7_let 1 = .ok (.iload_n 1, 1) := by decide +kernel
theorem dX7_let_2 : decode cX7_let 2 = .ok (.invokevirtual 155, 3) := by decide +kernel
theorem dX7_let_5 : decode cX7_let 5 = .ok (.ifCond .ne 5, 3) := by decide +kernel
theorem dX7_let_8 : decode cX7_let 8 = .ok (.iconst (-1), 1) := by decide +kernel
theorem dX7_let_9 : decode cX7_let 9 = .ok (.ireturn, 1) := by decide +kernel
theorem dX7_let_10 : decode cX7_let 10 = .ok (.aload_n 0, 1) := by decide +kernel
theorem dX7_let_11 : decode cX7_let 11 = .ok (.getfield 55, 3) := by decide +kernel
theorem dX7_let_14 : decode cX7_let 14 = .ok (.iload_n 1, 1) := by decide +kernel
theorem dX7_let_15 : decode cX7_let 15 = .ok (.baload, 1) := by decide +kernel
theorem dX7_let_16 : decode cX7_let 16 = .ok (.ifCond .ne 12, 3) := by decide +kernel
theorem dX7_let_19 : decode cX7_let 19 = .ok (.aload_n 0, 1) := by decide +kernel
theorem dX7_let_20 : decode cX7_let 20 = .ok (.getfield 49, 3) := by decide +kernel
theorem dX7_let_23 : decode cX7_let 23 = .ok (.iload_n 1, 1) := by decide +kernel
theorem dX7_let_24 : decode cX7_let 24 = .ok (.iaload, 1) := by decide +kernel
theorem dX7_let_25 : decode cX7_let 25 = .ok (.ifCond .ne 6, 3) := by decide +kernel
theorem dX7_let_28 : decode cX7_let 28 = .ok (.bipush (-2), 2) := by decide +kernel
theorem dX7_let_30 : decode cX7_let 30 = .ok (.ireturn, 1) := by decide +kernel
theorem dX7_let_31 : decode cX7_let 31 = .ok (.aload_n 0, 1) := by decide +kernel
theorem dX7_let_32 : decode cX7_let 32 = .ok (.getfield 52, 3) := by decide +kernel
theorem dX7_let_35 : decode cX7_let 35 = .ok (.iload_n 1, 1) := by decide +kernel
theorem dX7_let_36 : decode cX7_let 36 = .ok (.iaload, 1) := by decide +kernel
theorem dX7_let_37 : decode cX7_let 37 = .ok (.istore_n 2, 1) := by decide +kernel
theorem dX7_let_38 : decode cX7_let 38 = .ok (.aload_n 0, 1) := by decide +kernel
theorem dX7_let_39 : decode cX7_let 39 = .ok (.getfield 7, 3) := by decide +kernel
theorem dX7_let_42 : decode cX7_let 42 = .ok (.iload_n 2, 1) := by decide +kernel
theorem dX7_let_43 : decode cX7_let 43 = .ok (.iaload, 1) := by decide +kernel
theorem dX7_let_44 : decode cX7_let 44 = .ok (.aload_n 0, 1) := by decide +kernel
theorem dX7_let_45 : decode cX7_let 45 = .ok (.getfield 49, 3) := by decide +kernel
theorem dX7_let_48 : decode cX7_let 48 = .ok (.iload_n 1, 1) := by decide +kernel
theorem dX7_let_49 : decode cX7_let 49 = .ok (.iaload, 1) := by decide +kernel
theorem dX7_let_50 : decode cX7_let 50 = .ok (.if_icmp .ge 13, 3) := by decide +kernel
theorem dX7_let_53 : decode cX7_let 53 = .ok (.aload_n 0, 1) := by decide +kernel
theorem dX7_let_54 : decode cX7_let 54 = .ok (.getfield 49, 3) := by decide +kernel
theorem dX7_let_57 : decode cX7_let 57 = .ok (.iload_n 1, 1) := by decide +kernel
theorem dX7_let_58 : decode cX7_let 58 = .ok (.iconst 0, 1) := by decide +kernel
theorem dX7_let_59 : decode cX7_let 59 = .ok (.iastore, 1) := by decide +kernel
theorem dX7_let_60 : decode cX7_let 60 = .ok (.bipush (-2), 2) := by decide +kernel
theorem dX7_let_62 : decode cX7_let 62 = .ok (.ireturn, 1) := by decide +kernel
theorem dX7_let_63 : decode cX7_let 63 = .ok (.aload_n 0, 1) := by decide +kernel
theorem dX7_let_64 : decode cX7_let 64 = .ok (.getfield 7, 3) := by decide +kernel
theorem dX7_let_67 : decode cX7_let 67 = .ok (.iload_n 2, 1) := by decide +kernel
theorem dX7_let_68 : decode cX7_let 68 = .ok (.dup2, 1) := by decide +kernel
theorem dX7_let_69 : decode cX7_let 69 = .ok (.iaload, 1) := by decide +kernel
theorem dX7_let_70 : decode cX7_let 70 = .ok (.aload_n 0, 1) := by decide +kernel
theorem dX7_let_71 : decode cX7_let 71 = .ok (.getfield 49, 3) := by decide +kernel
theorem dX7_let_74 : decode cX7_let 74 = .ok (.iload_n 1, 1) := by decide +kernel
theorem dX7_let_75 : decode cX7_let 75 = .ok (.iaload, 1) := by decide +kernel
theorem dX7_let_76 : decode cX7_let 76 = .ok (.isub, 1) := by decide +kernel
theorem dX7_let_77 : decode cX7_let 77 = .ok (.iastore, 1) := by decide +kernel
theorem dX7_let_78 : decode cX7_let 78 = .ok (.aload_n 0, 1) := by decide +kernel
theorem dX7_let_79 : decode cX7_let 79 = .ok (.dup, 1) := by decide +kernel
theorem dX7_let_80 : decode cX7_let 80 = .ok (.getfield 159, 3) := by decide +kernel
theorem dX7_let_83 : decode cX7_let 83 = .ok (.aload_n 0, 1) := by decide +kernel
theorem dX7_let_84 : decode cX7_let 84 = .ok (.getfield 49, 3) := by decide +kernel
theorem dX7_let_87 : decode cX7_let 87 = .ok (.iload_n 1, 1) := by decide +kernel
theorem dX7_let_88 : decode cX7_let 88 = .ok (.iaload, 1) := by decide +kernel
theorem dX7_let_89 : decode cX7_let 89 = .ok (.iadd, 1) := by decide +kernel
theorem dX7_let_90 : decode cX7_let 90 = .ok (.putfield 159, 3) := by decide +kernel
theorem dX7_let_93 : decode cX7_let 93 = .ok (.aload_n 0, 1) := by decide +kernel
theorem dX7_let_94 : decode cX7_let 94 = .ok (.getfield 55, 3) := by decide +kernel
theorem dX7_let_97 : decode cX7_let 97 = .ok (.iload_n 1, 1) := by decide +kernel
theorem dX7_let_98 : decode cX7_let 98 = .ok (.iconst 1, 1) := by decide +kernel
theorem dX7_let_99 : decode cX7_let 99 = .ok (.bastore, 1) := by decide +kernel
theorem dX7_let_100 : decode cX7_let 100 = .ok (.aload_n 0, 1) := by decide +kernel
theorem dX7_let_101 : decode cX7_let 101 = .ok (.getfield 59, 3) := by decide +kernel
theorem dX7_let_104 : decode cX7_let 104 = .ok (.bipush 10, 2) := by decide +kernel
theorem dX7_let_106 : decode cX7_let 106 = .ok (.iload_n 1, 1) := by decide +kernel
theorem dX7_let_107 : decode cX7_let 107 = .ok (.imul, 1) := by decide +kernel
theorem dX7_let_108 : decode cX7_let 108 = .ok (.iload_n 2, 1) := by decide +kernel
theorem dX7_let_109 : decode cX7_let 109 = .ok (.iadd, 1) := by decide +kernel
theorem dX7_let_110 : decode cX7_let 110 = .ok (.bipush 24, 2) := by decide +kernel
theorem dX7_let_112 : decode cX7_let 112 = .ok (.iastore, 1) := by decide +kernel
theorem dX7_let_113 : decode cX7_let 113 = .ok (.iload_n 2, 1) := by decide +kernel
theorem dX7_let_114 : decode cX7_let 114 = .ok (.ireturn, 1) := by decide +kernel
theorem dX7_part_0 : decode cX7_part 0 = .ok (.aload_n 0, 1) := by decide +kernel
theorem dX7_part_1 : decode cX7_part 1 = .ok (.iload_n 1, 1) := by decide +kernel
theorem dX7_part_2 : decode cX7_part 2 = .ok (.invokevirtual 155, 3) := by decide +kernel
theorem dX7_part_5 : decode cX7_part 5 = .ok (.ifCond .eq 33, 3) := by decide +kernel
theorem dX7_part_8 : decode cX7_part 8 = .ok (.iload_n 2, 1) := by decide +kernel
theorem dX7_part_9 : decode cX7_part 9 = .ok (.invokestatic 146, 3) := by decide +kernel
theorem dX7_part_12 : decode cX7_part 12 = .ok (.ifCond .eq 26, 3) := by decide +kernel
theorem dX7_part_15 : decode cX7_part 15 = .ok (.iload_n 3, 1) := by decide +kernel
theorem dX7_part_16 : decode cX7_part 16 = .ok (.invokestatic 146, 3) := by decide +kernel
theorem dX7_part_19 : decode cX7_part 19 = .ok (.ifCond .eq 19, 3) := by decide +kernel
theorem dX7_part_22 : decode cX7_part 22 = .ok (.iload_n 2, 1) := by decide +kernel
theorem dX7_part_23 : decode cX7_part 23 = .ok (.iload_n 3, 1) := by decide +kernel
theorem dX7_part_24 : decode cX7_part 24 = .ok (.if_icmp .eq 14, 3) := by decide +kernel
theorem dX7_part_27 : decode cX7_part 27 = .ok (.iload 4, 2) := by decide +kernel
theorem dX7_part_29 : decode cX7_part 29 = .ok (.iconst 1, 1) := by decide +kernel
theorem dX7_part_30 : decode cX7_part 30 = .ok (.bipush 24, 2) := by decide +kernel
theorem dX7_part_32 : decode cX7_part 32 = .ok (.invokestatic 133, 3) := by decide +kernel
theorem dX7_part_35 : decode cX7_part 35 = .ok (.ifCond .ne 5, 3) := by decide +kernel
theorem dX7_part_38 : decode cX7_part 38 = .ok (.iconst (-1), 1) := by decide +kernel
theorem dX7_part_39 : decode cX7_part 39 = .ok (.ireturn, 1) := by decide +kernel
theorem dX7_part_40 : decode cX7_part 40 = .ok (.aload_n 0, 1) := by decide +kernel
theorem dX7_part_41 : decode cX7_part 41 = .ok (.getfield 59, 3) := by decide +kernel
theorem dX7_part_44 : decode cX7_part 44 = .ok (.bipush 10, 2) := by decide +kernel
theorem dX7_part_46 : decode cX7_part 46 = .ok (.iload_n 1, 1) := by decide +kernel
theorem dX7_part_47 : decode cX7_part 47 = .ok (.imul, 1) := by decide +kernel
theorem dX7_part_48 : decode cX7_part 48 = .ok (.iload_n 2, 1) := by decide +kernel
theorem dX7_part_49 : decode cX7_part 49 = .ok (.iadd, 1) := by decide +kernel
theorem dX7_part_50 : decode cX7_part 50 = .ok (.iaload, 1) := by decide +kernel
theorem dX7_part_51 : decode cX7_part 51 = .ok (.iload 4, 2) := by decide +kernel
theorem dX7_part_53 : decode cX7_part 53 = .ok (.if_icmp .ge 6, 3) := by decide +kernel
theorem dX7_part_56 : decode cX7_part 56 = .ok (.bipush (-2), 2) := by decide +kernel
theorem dX7_part_58 : decode cX7_part 58 = .ok (.ireturn, 1) := by decide +kernel
theorem dX7_part_59 : decode cX7_part 59 = .ok (.aload_n 0, 1) := by decide +kernel
theorem dX7_part_60 : decode cX7_part 60 = .ok (.getfield 59, 3) := by decide +kernel
theorem dX7_part_63 : decode cX7_part 63 = .ok (.bipush 10, 2) := by decide +kernel
theorem dX7_part_65 : decode cX7_part 65 = .ok (.iload_n 1, 1) := by decide +kernel
theorem dX7_part_66 : decode cX7_part 66 = .ok (.imul, 1) := by decide +kernel
theorem dX7_part_67 : decode cX7_part 67 = .ok (.iload_n 2, 1) := by decide +kernel
theorem dX7_part_68 : decode cX7_part 68 = .ok (.iadd, 1) := by decide +kernel
theorem dX7_part_69 : decode cX7_part 69 = .ok (.dup2, 1) := by decide +kernel
theorem dX7_part_70 : decode cX7_part 70 = .ok (.iaload, 1) := by decide +kernel
theorem dX7_part_71 : decode cX7_part 71 = .ok (.iload 4, 2) := by decide +kernel
theorem dX7_part_73 : decode cX7_part 73 = .ok (.isub, 1) := by decide +kernel
theorem dX7_part_74 : decode cX7_part 74 = .ok (.iastore, 1) := by decide +kernel
theorem dX7_part_75 : decode cX7_part 75 = .ok (.aload_n 0, 1) := by decide +kernel
theorem dX7_part_76 : decode cX7_part 76 = .ok (.getfield 59, 3) := by decide +kernel
theorem dX7_part_79 : decode cX7_part 79 = .ok (.bipush 10, 2) := by decide +kernel
theorem dX7_part_81 : decode cX7_part 81 = .ok (.iload_n 1, 1) := by decide +kernel
theorem dX7_part_82 : decode cX7_part 82 = .ok (.imul, 1) := by decide +kernel
theorem dX7_part_83 : decode cX7_part 83 = .ok (.iload_n 3, 1) := by decide +kernel
theorem dX7_part_84 : decode cX7_part 84 = .ok (.iadd, 1) := by decide +kernel
theorem dX7_part_85 : decode cX7_part 85 = .ok (.dup2, 1) := by decide +kernel
theorem dX7_part_86 : decode cX7_part 86 = .ok (.iaload, 1) := by decide +kernel
theorem dX7_part_87 : decode cX7_part 87 = .ok (.iload 4, 2) := by decide +kernel
theorem dX7_part_89 : decode cX7_part 89 = .ok (.iadd, 1) := by decide +kernel
theorem dX7_part_90 : decode cX7_part 90 = .ok (.iastore, 1) := by decide +kernel
theorem dX7_part_91 : decode cX7_part 91 = .ok (.aload_n 0, 1) := by decide +kernel
theorem dX7_part_92 : decode cX7_part 92 = .ok (.getfield 59, 3) := by decide +kernel
theorem dX7_part_95 : decode cX7_part 95 = .ok (.bipush 10, 2) := by decide +kernel
theorem dX7_part_97 : decode cX7_part 97 = .ok (.iload_n 1, 1) := by decide +kernel
theorem dX7_part_98 : decode cX7_part 98 = .ok (.imul, 1) := by decide +kernel
theorem dX7_part_99 : decode cX7_part 99 = .ok (.iload_n 3, 1) := by decide +kernel
theorem dX7_part_100 : decode cX7_part 100 = .ok (.iadd, 1) := by decide +kernel
theorem dX7_part_101 : decode cX7_part 101 = .ok (.iaload, 1) := by decide +kernel
theorem dX7_part_102 : decode cX7_part 102 = .ok (.ireturn, 1) := by decide +kernel
theorem dX7_parts_0 : decode cX7_parts 0 = .ok (.aload_n 0, 1) := by decide +kernel
theorem dX7_parts_1 : decode cX7_parts 1 = .ok (.iload_n 1, 1) := by decide +kernel
theorem dX7_parts_2 : decode cX7_parts 2 = .ok (.invokevirtual 155, 3) := by decide +kernel
theorem dX7_parts_5 : decode cX7_parts 5 = .ok (.ifCond .eq 15, 3) := by decide +kernel
theorem dX7_parts_8 : decode cX7_parts 8 = .ok (.iload_n 2, 1) := by decide +kernel
theorem dX7_parts_9 : decode cX7_parts 9 = .ok (.iconst (-1), 1) := by decide +kernel
theorem dX7_parts_10 : decode cX7_parts 10 = .ok (.if_icmp .eq 12, 3) := by decide +kernel
theorem dX7_parts_13 : decode cX7_parts 13 = .ok (.iload_n 2, 1) := by decide +kernel
theorem dX7_parts_14 : decode cX7_parts 14 = .ok (.invokestatic 146, 3) := by decide +kernel
theorem dX7_parts_17 : decode cX7_parts 17 = .ok (.ifCond .ne 5, 3) := by decide +kernel
theorem dX7_parts_20 : decode cX7_parts 20 = .ok (.iconst (-1), 1) := by decide +kernel
theorem dX7_parts_21 : decode cX7_parts 21 = .ok (.ireturn, 1) := by decide +kernel
theorem dX7_parts_22 : decode cX7_parts 22 = .ok (.iload_n 2, 1) := by decide +kernel
theorem dX7_parts_23 : decode cX7_parts 23 = .ok (.ifCond .lt 15, 3) := by decide +kernel
theorem dX7_parts_26 : decode cX7_parts 26 = .ok (.aload_n 0, 1) := by decide +kernel
theorem dX7_parts_27 : decode cX7_parts 27 = .ok (.getfield 59, 3) := by decide +kernel
theorem dX7_parts_30 : decode cX7_parts 30 = .ok (.bipush 10, 2) := by decide +kernel
theorem dX7_parts_32 : decode cX7_parts 32 = .ok (.iload_n 1, 1) := by decide +kernel
theorem dX7_parts_33 : decode cX7_parts 33 = .ok (.imul, 1) := by decide +kernel
theorem dX7_parts_34 : decode cX7_parts 34 = .ok (.iload_n 2, 1) := by decide +kernel
theorem dX7_parts_35 : decode cX7_parts 35 = .ok (.iadd, 1) := by decide +kernel
theorem dX7_parts_36 : decode cX7_parts 36 = .ok (.iaload, 1) := by decide +kernel
theorem dX7_parts_37 : decode cX7_parts 37 = .ok (.ireturn, 1) := by decide +kernel
theorem dX7_parts_38 : decode cX7_parts 38 = .ok (.bipush 24, 2) := by decide +kernel
theorem dX7_parts_40 : decode cX7_parts 40 = .ok (.istore_n 3, 1) := by decide +kernel
theorem dX7_parts_41 : decode cX7_parts 41 = .ok (.iconst 0, 1) := by decide +kernel
theorem dX7_parts_42 : decode cX7_parts 42 = .ok (.istore 4, 2) := by decide +kernel
theorem dX7_parts_44 : decode cX7_parts 44 = .ok (.iload 4, 2) := by decide +kernel
theorem dX7_parts_46 : decode cX7_parts 46 = .ok (.bipush 10, 2) := by decide +kernel
theorem dX7_parts_48 : decode cX7_parts 48 = .ok (.if_icmp .ge 24, 3) := by decide +kernel
theorem dX7_parts_51 : decode cX7_parts 51 = .ok (.iload_n 3, 1) := by decide +kernel
theorem dX7_parts_52 : decode cX7_parts 52 = .ok (.aload_n 0, 1) := by decide +kernel
theorem dX7_parts_53 : decode cX7_parts 53 = .ok (.getfield 59, 3) := by decide +kernel
theorem dX7_parts_56 : decode cX7_parts 56 = .ok (.bipush 10, 2) := by decide +kernel
theorem dX7_parts_58 : decode cX7_parts 58 = .ok (.iload_n 1, 1) := by decide +kernel
theorem dX7_parts_59 : decode cX7_parts 59 = .ok (.imul, 1) := by decide +kernel
theorem dX7_parts_60 : decode cX7_parts 60 = .ok (.iload 4, 2) := by decide +kernel
theorem dX7_parts_62 : decode cX7_parts 62 = .ok (.iadd, 1) := by decide +kernel
theorem dX7_parts_63 : decode cX7_parts 63 = .ok (.iaload, 1) := by decide +kernel
theorem dX7_parts_64 : decode cX7_parts 64 = .ok (.isub, 1) := by decide +kernel
theorem dX7_parts_65 : decode cX7_parts 65 = .ok (.istore_n 3, 1) := by decide +kernel
theorem dX7_parts_66 : decode cX7_parts 66 = .ok (.iinc 4 1, 3) := by decide +kernel
theorem dX7_parts_69 : decode cX7_parts 69 = .ok (.goto (-25), 3) := by decide +kernel
theorem dX7_parts_72 : decode cX7_parts 72 = .ok (.iload_n 3, 1) := by decide +kernel
theorem dX7_parts_73 : decode cX7_parts 73 = .ok (.ireturn, 1) := by decide +kernel
theorem dX7_bale_0 : decode cX7_bale 0 = .ok (.iload_n 1, 1) := by decide +kernel
theorem dX7_bale_1 : decode cX7_bale 1 = .ok (.invokestatic 146, 3) := by decide +kernel
theorem dX7_bale_4 : decode cX7_bale 4 = .ok (.ifCond .eq 16, 3) := by decide +kernel
theorem dX7_bale_7 : decode cX7_bale 7 = .ok (.iload_n 2, 1) := by decide +kernel
theorem dX7_bale_8 : decode cX7_bale 8 = .ok (.ifCond .lt 12, 3) := by decide +kernel
theorem dX7_bale_11 : decode cX7_bale 11 = .ok (.iload_n 3, 1) := by decide +kernel
theorem dX7_bale_12 : decode cX7_bale 12 = .ok (.ifCond .lt 8, 3) := by decide +kernel
theorem dX7_bale_15 : decode cX7_bale 15 = .ok (.iload 4, 2) := by decide +kernel
theorem dX7_bale_17 : decode cX7_bale 17 = .ok (.ifCond .ge 5, 3) := by decide +kernel
theorem dX7_bale_20 : decode cX7_bale 20 = .ok (.iconst (-1), 1) := by decide +kernel
theorem dX7_bale_21 : decode cX7_bale 21 = .ok (.ireturn, 1) := by decide +kernel
theorem dX7_bale_22 : decode cX7_bale 22 = .ok (.iload_n 2, 1) := by decide +kernel
theorem dX7_bale_23 : decode cX7_bale 23 = .ok (.bipush 100, 2) := by decide +kernel
theorem dX7_bale_25 : decode cX7_bale 25 = .ok (.idiv, 1) := by decide +kernel
theorem dX7_bale_26 : decode cX7_bale 26 = .ok (.istore 5, 2) := by decide +kernel
theorem dX7_bale_28 : decode cX7_bale 28 = .ok (.iload_n 2, 1) := by decide +kernel
theorem dX7_bale_29 : decode cX7_bale 29 = .ok (.bipush 100, 2) := by decide +kernel
theorem dX7_bale_31 : decode cX7_bale 31 = .ok (.irem, 1) := by decide +kernel
theorem dX7_bale_32 : decode cX7_bale 32 = .ok (.istore 6, 2) := by decide +kernel
theorem dX7_bale_34 : decode cX7_bale 34 = .ok (.aload_n 0, 1) := by decide +kernel
theorem dX7_bale_35 : decode cX7_bale 35 = .ok (.iload 5, 2) := by decide +kernel
theorem dX7_bale_37 : decode cX7_bale 37 = .ok (.invokevirtual 162, 3) := by decide +kernel
theorem dX7_bale_40 : decode cX7_bale 40 = .ok (.ifCond .eq 84, 3) := by decide +kernel
theorem dX7_bale_43 : decode cX7_bale 43 = .ok (.aload_n 0, 1) := by decide +kernel
theorem dX7_bale_44 : decode cX7_bale 44 = .ok (.iload 6, 2) := by decide +kernel
theorem dX7_bale_46 : decode cX7_bale 46 = .ok (.invokevirtual 162, 3) := by decide +kernel
theorem dX7_bale_49 : decode cX7_bale 49 = .ok (.ifCond .eq 75, 3) := by decide +kernel
theorem dX7_bale_52 : decode cX7_bale 52 = .ok (.iload 6, 2) := by decide +kernel
theorem dX7_bale_54 : decode cX7_bale 54 = .ok (.iload 5, 2) := by decide +kernel
theorem dX7_bale_56 : decode cX7_bale 56 = .ok (.if_icmp .le 68, 3) := by decide +kernel
theorem dX7_bale_59 : decode cX7_bale 59 = .ok (.iload_n 3, 1) := by decide +kernel
theorem dX7_bale_60 : decode cX7_bale 60 = .ok (.ldc 158, 2) := by decide +kernel
theorem dX7_bale_62 : decode cX7_bale 62 = .ok (.idiv, 1) := by decide +kernel
theorem dX7_bale_63 : decode cX7_bale 63 = .ok (.iconst 0, 1) := by decide +kernel
theorem dX7_bale_64 : decode cX7_bale 64 = .ok (.iconst 2, 1) := by decide +kernel
theorem dX7_bale_65 : decode cX7_bale 65 = .ok (.invokestatic 133, 3) := by decide +kernel
theorem dX7_bale_68 : decode cX7_bale 68 = .ok (.ifCond .eq 56, 3) := by decide +kernel
theorem dX7_bale_71 : decode cX7_bale 71 = .ok (.iload_n 3, 1) := by decide +kernel
theorem dX7_bale_72 : decode cX7_bale 72 = .ok (.sipush 1000, 3) := by decide +kernel
theorem dX7_bale_75 : decode cX7_bale 75 = .ok (.idiv, 1) := by decide +kernel
theorem dX7_bale_76 : decode cX7_bale 76 = .ok (.sipush 1000, 3) := by decide +kernel
theorem dX7_bale_79 : decode cX7_bale 79 = .ok (.irem, 1) := by decide +kernel
theorem dX7_bale_80 : decode cX7_bale 80 = .ok (.iconst 1, 1) := by decide +kernel
theorem dX7_bale_81 : decode cX7_bale 81 = .ok (.bipush 99, 2) := by decide +kernel
theorem dX7_bale_83 : decode cX7_bale 83 = .ok (.invokestatic 133, 3) := by decide +kernel
theorem dX7_bale_86 : decode cX7_bale 86 = .ok (.ifCond .eq 38, 3) := by decide +kernel
theorem dX7_bale_89 : decode cX7_bale 89 = .ok (.iload_n 3, 1) := by decide +kernel
theorem dX7_bale_90 : decode cX7_bale 90 = .ok (.sipush 1000, 3) := by decide +kernel
theorem dX7_bale_93 : decode cX7_bale 93 = .ok (.irem, 1) := by decide +kernel
theorem dX7_bale_94 : decode cX7_bale 94 = .ok (.iconst 1, 1) := by decide +kernel
theorem dX7_bale_95 : decode cX7_bale 95 = .ok (.sipush 999, 3) := by decide +kernel
theorem dX7_bale_98 : decode cX7_bale 98 = .ok (.invokestatic 133, 3) := by decide +kernel
theorem dX7_bale_101 : decode cX7_bale 101 = .ok (.ifCond .eq 23, 3) := by decide +kernel
theorem dX7_bale_104 : decode cX7_bale 104 = .ok (.iload 4, 2) := by decide +kernel
theorem dX7_bale_106 : decode cX7_bale 106 = .ok (.sipush 1000, 3) := by decide +kernel
theorem dX7_bale_109 : decode cX7_bale 109 = .ok (.idiv, 1) := by decide +kernel
theorem dX7_bale_110 : decode cX7_bale 110 = .ok (.iconst 1, 1) := by decide +kernel
theorem dX7_bale_111 : decode cX7_bale 111 = .ok (.sipush 9999, 3) := by decide +kernel
theorem dX7_bale_114 : decode cX7_bale 114 = .ok (.invokestatic 133, 3) := by decide +kernel
theorem dX7_bale_117 : decode cX7_bale 117 = .ok (.ifCond .eq 7, 3) := by decide +kernel
theorem dX7_bale_120 : decode cX7_bale 120 = .ok (.iconst 1, 1) := by decide +kernel
theorem dX7_bale_121 : decode cX7_bale 121 = .ok (.goto 4, 3) := by decide +kernel
theorem dX7_bale_124 : decode cX7_bale 124 = .ok (.iconst 0, 1) := by decide +kernel
theorem dX7_bale_125 : decode cX7_bale 125 = .ok (.istore 7, 2) := by decide +kernel
theorem dX7_bale_127 : decode cX7_bale 127 = .ok (.iload 7, 2) := by decide +kernel
theorem dX7_bale_129 : decode cX7_bale 129 = .ok (.ifCond .ne 5, 3) := by decide +kernel
theorem dX7_bale_132 : decode cX7_bale 132 = .ok (.iconst (-1), 1) := by decide +kernel
theorem dX7_bale_133 : decode cX7_bale 133 = .ok (.ireturn, 1) := by decide +kernel
theorem dX7_bale_134 : decode cX7_bale 134 = .ok (.aload_n 0, 1) := by decide +kernel
theorem dX7_bale_135 : decode cX7_bale 135 = .ok (.getfield 143, 3) := by decide +kernel
theorem dX7_bale_138 : decode cX7_bale 138 = .ok (.sipush 300, 3) := by decide +kernel
theorem dX7_bale_141 : decode cX7_bale 141 = .ok (.if_icmp .ne 6, 3) := by decide +kernel
theorem dX7_bale_144 : decode cX7_bale 144 = .ok (.bipush (-3), 2) := by decide +kernel
theorem dX7_bale_146 : decode cX7_bale 146 = .ok (.ireturn, 1) := by decide +kernel
theorem dX7_bale_147 : decode cX7_bale 147 = .ok (.aload_n 0, 1) := by decide +kernel
theorem dX7_bale_148 : decode cX7_bale 148 = .ok (.getfield 143, 3) := by decide +kernel
theorem dX7_bale_151 : decode cX7_bale 151 = .ok (.istore 8, 2) := by decide +kernel
theorem dX7_bale_153 : decode cX7_bale 153 = .ok (.aload_n 0, 1) := by decide +kernel
theorem dX7_bale_154 : decode cX7_bale 154 = .ok (.getfield 62, 3) := by decide +kernel
theorem dX7_bale_157 : decode cX7_bale 157 = .ok (.iload 8, 2) := by decide +kernel
theorem dX7_bale_159 : decode cX7_bale 159 = .ok (.iload_n 1, 1) := by decide +kernel
theorem dX7_bale_160 : decode cX7_bale 160 = .ok (.iastore, 1) := by decide +kernel
theorem dX7_bale_161 : decode cX7_bale 161 = .ok (.aload_n 0, 1) := by decide +kernel
theorem dX7_bale_162 : decode cX7_bale 162 = .ok (.getfield 65, 3) := by decide +kernel
theorem dX7_bale_165 : decode cX7_bale 165 = .ok (.iload 8, 2) := by decide +kernel
theorem dX7_bale_167 : decode cX7_bale 167 = .ok (.iload 5, 2) := by decide +kernel
theorem dX7_bale_169 : decode cX7_bale 169 = .ok (.iastore, 1) := by decide +kernel
theorem dX7_bale_170 : decode cX7_bale 170 = .ok (.aload_n 0, 1) := by decide +kernel
theorem dX7_bale_171 : decode cX7_bale 171 = .ok (.getfield 68, 3) := by decide +kernel
theorem dX7_bale_174 : decode cX7_bale 174 = .ok (.iload 8, 2) := by decide +kernel
theorem dX7_bale_176 : decode cX7_bale 176 = .ok (.iload 6, 2) := by decide +kernel
theorem dX7_bale_178 : decode cX7_bale 178 = .ok (.iastore, 1) := by decide +kernel
theorem dX7_bale_179 : decode cX7_bale 179 = .ok (.aload_n 0, 1) := by decide +kernel
theorem dX7_bale_180 : decode cX7_bale 180 = .ok (.getfield 71, 3) := by decide +kernel
theorem dX7_bale_183 : decode cX7_bale 183 = .ok (.iload 8, 2) := by decide +kernel
theorem dX7_bale_185 : decode cX7_bale 185 = .ok (.iload_n 3, 1) := by decide +kernel
theorem dX7_bale_186 : decode cX7_bale 186 = .ok (.ldc 158, 2) := by decide +kernel
theorem dX7_bale_188 : decode cX7_bale 188 = .ok (.idiv, 1) := by decide +kernel
theorem dX7_bale_189 : decode cX7_bale 189 = .ok (.iastore, 1) := by decide +kernel
theorem dX7_bale_190 : decode cX7_bale 190 = .ok (.aload_n 0, 1) := by decide +kernel
theorem dX7_bale_191 : decode cX7_bale 191 = .ok (.getfield 74, 3) := by decide +kernel
theorem dX7_bale_194 : decode cX7_bale 194 = .ok (.iload 8, 2) := by decide +kernel
theorem dX7_bale_196 : decode cX7_bale 196 = .ok (.iload_n 3, 1) := by decide +kernel
theorem dX7_bale_197 : decode cX7_bale 197 = .ok (.sipush 1000, 3) := by decide +kernel
theorem dX7_bale_200 : decode cX7_bale 200 = .ok (.idiv, 1) := by decide +kernel
theorem dX7_bale_201 : decode cX7_bale 201 = .ok (.sipush 1000, 3) := by decide +kernel
theorem dX7_bale_204 : decode cX7_bale 204 = .ok (.irem, 1) := by decide +kernel
theorem dX7_bale_205 : decode cX7_bale 205 = .ok (.iastore, 1) := by decide +kernel
theorem dX7_bale_206 : decode cX7_bale 206 = .ok (.aload_n 0, 1) := by decide +kernel
theorem dX7_bale_207 : decode cX7_bale 207 = .ok (.getfield 77, 3) := by decide +kernel
theorem dX7_bale_210 : decode cX7_bale 210 = .ok (.iload 8, 2) := by decide +kernel
theorem dX7_bale_212 : decode cX7_bale 212 = .ok (.iload_n 3, 1) := by decide +kernel
theorem dX7_bale_213 : decode cX7_bale 213 = .ok (.sipush 1000, 3) := by decide +kernel
theorem dX7_bale_216 : decode cX7_bale 216 = .ok (.irem, 1) := by decide +kernel
theorem dX7_bale_217 : decode cX7_bale 217 = .ok (.iastore, 1) := by decide +kernel
theorem dX7_bale_218 : decode cX7_bale 218 = .ok (.aload_n 0, 1) := by decide +kernel
theorem dX7_bale_219 : decode cX7_bale 219 = .ok (.getfield 80, 3) := by decide +kernel
theorem dX7_bale_222 : decode cX7_bale 222 = .ok (.iload 8, 2) := by decide +kernel
theorem dX7_bale_224 : decode cX7_bale 224 = .ok (.iload 4, 2) := by decide +kernel
theorem dX7_bale_226 : decode cX7_bale 226 = .ok (.sipush 1000, 3) := by decide +kernel
theorem dX7_bale_229 : decode cX7_bale 229 = .ok (.idiv, 1) := by decide +kernel
theorem dX7_bale_230 : decode cX7_bale 230 = .ok (.iastore, 1) := by decide +kernel
theorem dX7_bale_231 : decode cX7_bale 231 = .ok (.aload_n 0, 1) := by decide +kernel
theorem dX7_bale_232 : decode cX7_bale 232 = .ok (.getfield 83, 3) := by decide +kernel
theorem dX7_bale_235 : decode cX7_bale 235 = .ok (.iload 8, 2) := by decide +kernel
theorem dX7_bale_237 : decode cX7_bale 237 = .ok (.iload 4, 2) := by decide +kernel
theorem dX7_bale_239 : decode cX7_bale 239 = .ok (.sipush 1000, 3) := by decide +kernel
theorem dX7_bale_242 : decode cX7_bale 242 = .ok (.irem, 1) := by decide +kernel
theorem dX7_bale_243 : decode cX7_bale 243 = .ok (.iastore, 1) := by decide +kernel
theorem dX7_bale_244 : decode cX7_bale 244 = .ok (.aload_n 0, 1) := by decide +kernel
theorem dX7_bale_245 : decode cX7_bale 245 = .ok (.getfield 86, 3) := by decide +kernel
theorem dX7_bale_248 : decode cX7_bale 248 = .ok (.iload 8, 2) := by decide +kernel
theorem dX7_bale_250 : decode cX7_bale 250 = .ok (.aload_n 0, 1) := by decide +kernel
theorem dX7_bale_251 : decode cX7_bale 251 = .ok (.getfield 165, 3) := by decide +kernel
theorem dX7_bale_254 : decode cX7_bale 254 = .ok (.iastore, 1) := by decide +kernel
theorem dX7_bale_255 : decode cX7_bale 255 = .ok (.aload_n 0, 1) := by decide +kernel
theorem dX7_bale_256 : decode cX7_bale 256 = .ok (.getfield 89, 3) := by decide +kernel
theorem dX7_bale_259 : decode cX7_bale 259 = .ok (.iload 8, 2) := by decide +kernel
theorem dX7_bale_261 : decode cX7_bale 261 = .ok (.iconst 0, 1) := by decide +kernel
theorem dX7_bale_262 : decode cX7_bale 262 = .ok (.iastore, 1) := by decide +kernel
theorem dX7_bale_263 : decode cX7_bale 263 = .ok (.aload_n 0, 1) := by decide +kernel
theorem dX7_bale_264 : decode cX7_bale 264 = .ok (.getfield 92, 3) := by decide +kernel
theorem dX7_bale_267 : decode cX7_bale 267 = .ok (.iload 8, 2) := by decide +kernel
theorem dX7_bale_269 : decode cX7_bale 269 = .ok (.iconst (-1), 1) := by decide +kernel
theorem dX7_bale_270 : decode cX7_bale 270 = .ok (.iastore, 1) := by decide +kernel
theorem dX7_bale_271 : decode cX7_bale 271 = .ok (.aload_n 0, 1) := by decide +kernel
theorem dX7_bale_272 : decode cX7_bale 272 = .ok (.getfield 95, 3) := by decide +kernel
theorem dX7_bale_275 : decode cX7_bale 275 = .ok (.iload 8, 2) := by decide +kernel
theorem dX7_bale_277 : decode cX7_bale 277 = .ok (.aload_n 0, 1) := by decide +kernel
theorem dX7_bale_278 : decode cX7_bale 278 = .ok (.getfield 165, 3) := by decide +kernel
theorem dX7_bale_281 : decode cX7_bale 281 = .ok (.iastore, 1) := by decide +kernel
theorem dX7_bale_282 : decode cX7_bale 282 = .ok (.aload_n 0, 1) := by decide +kernel
theorem dX7_bale_283 : decode cX7_bale 283 = .ok (.dup, 1) := by decide +kernel
theorem dX7_bale_284 : decode cX7_bale 284 = .ok (.getfield 143, 3) := by decide +kernel
theorem dX7_bale_287 : decode cX7_bale 287 = .ok (.iconst 1, 1) := by decide +kernel
theorem dX7_bale_288 : decode cX7_bale 288 = .ok (.iadd, 1) := by decide +kernel
theorem dX7_bale_289 : decode cX7_bale 289 = .ok (.putfield 143, 3) := by decide +kernel
theorem dX7_bale_292 : decode cX7_bale 292 = .ok (.iload 8, 2) := by decide +kernel
theorem dX7_bale_294 : decode cX7_bale 294 = .ok (.ireturn, 1) := by decide +kernel
theorem dX7_about_0 : decode cX7_about 0 = .ok (.aload_n 0, 1) := by decide +kernel
theorem dX7_about_1 : decode cX7_about 1 = .ok (.iload_n 1, 1) := by decide +kernel
theorem dX7_about_2 : decode cX7_about 2 = .ok (.invokevirtual 168, 3) := by decide +kernel
theorem dX7_about_5 : decode cX7_about 5 = .ok (.ifCond .ne 5, 3) := by decide +kernel
theorem dX7_about_8 : decode cX7_about 8 = .ok (.iconst (-1), 1) := by decide +kernel
theorem dX7_about_9 : decode cX7_about 9 = .ok (.ireturn, 1) := by decide +kernel
theorem dX7_about_10 : decode cX7_about 10 = .ok (.iload_n 2, 1) := by decide +kernel
theorem dX7_about_11 : decode cX7_about 11 = .ok (.tableswitch 145 0 11 #[61, 68, 75, 82, 89, 96, 103, 110, 117, 124, 131, 138], 61) := by decide +kernel
theorem dX7_about_72 : decode cX7_about 72 = .ok (.aload_n 0, 1) := by decide +kernel
theorem dX7_about_73 : decode cX7_about 73 = .ok (.getfield 62, 3) := by decide +kernel
theorem dX7_about_76 : decode cX7_about 76 = .ok (.iload_n 1, 1) := by decide +kernel
theorem dX7_about_77 : decode cX7_about 77 = .ok (.iaload, 1) := by decide +kernel
theorem dX7_about_78 : decode cX7_about 78 = .ok (.ireturn, 1) := by decide +kernel
theorem dX7_about_79 : decode cX7_about 79 = .ok (.aload_n 0, 1) := by decide +kernel
theorem dX7_about_80 : decode cX7_about 80 = .ok (.getfield 65, 3) := by decide +kernel
theorem dX7_about_83 : decode cX7_about 83 = .ok (.iload_n 1, 1) := by decide +kernel
theorem dX7_about_84 : decode cX7_about 84 = .ok (.iaload, 1) := by decide +kernel
theorem dX7_about_85 : decode cX7_about 85 = .ok (.ireturn, 1) := by decide +kernel
theorem dX7_about_86 : decode cX7_about 86 = .ok (.aload_n 0, 1) := by decide +kernel
theorem dX7_about_87 : decode cX7_about 87 = .ok (.getfield 68, 3) := by decide +kernel
theorem dX7_about_90 : decode cX7_about 90 = .ok (.iload_n 1, 1) := by decide +kernel
theorem dX7_about_91 : decode cX7_about 91 = .ok (.iaload, 1) := by decide +kernel
theorem dX7_about_92 : decode cX7_about 92 = .ok (.ireturn, 1) := by decide +kernel
theorem dX7_about_93 : decode cX7_about 93 = .ok (.aload_n 0, 1) := by decide +kernel
theorem dX7_about_94 : decode cX7_about 94 = .ok (.getfield 71, 3) := by decide +kernel
theorem dX7_about_97 : decode cX7_about 97 = .ok (.iload_n 1, 1) := by decide +kernel
theorem dX7_about_98 : decode cX7_about 98 = .ok (.iaload, 1) := by decide +kernel
theorem dX7_about_99 : decode cX7_about 99 = .ok (.ireturn, 1) := by decide +kernel
theorem dX7_about_100 : decode cX7_about 100 = .ok (.aload_n 0, 1) := by decide +kernel
theorem dX7_about_101 : decode cX7_about 101 = .ok (.getfield 74, 3) := by decide +kernel
theorem dX7_about_104 : decode cX7_about 104 = .ok (.iload_n 1, 1) := by decide +kernel
theorem dX7_about_105 : decode cX7_about 105 = .ok (.iaload, 1) := by decide +kernel
theorem dX7_about_106 : decode cX7_about 106 = .ok (.ireturn, 1) := by decide +kernel
theorem dX7_about_107 : decode cX7_about 107 = .ok (.aload_n 0, 1) := by decide +kernel
theorem dX7_about_108 : decode cX7_about 108 = .ok (.getfield 77, 3) := by decide +kernel
theorem dX7_about_111 : decode cX7_about 111 = .ok (.iload_n 1, 1) := by decide +kernel
theorem dX7_about_112 : decode cX7_about 112 = .ok (.iaload, 1) := by decide +kernel
theorem dX7_about_113 : decode cX7_about 113 = .ok (.ireturn, 1) := by decide +kernel
theorem dX7_about_114 : decode cX7_about 114 = .ok (.aload_n 0, 1) := by decide +kernel
theorem dX7_about_115 : decode cX7_about 115 = .ok (.getfield 80, 3) := by decide +kernel
theorem dX7_about_118 : decode cX7_about 118 = .ok (.iload_n 1, 1) := by decide +kernel
theorem dX7_about_119 : decode cX7_about 119 = .ok (.iaload, 1) := by decide +kernel
theorem dX7_about_120 : decode cX7_about 120 = .ok (.ireturn, 1) := by decide +kernel
theorem dX7_about_121 : decode cX7_about 121 = .ok (.aload_n 0, 1) := by decide +kernel
theorem dX7_about_122 : decode cX7_about 122 = .ok (.getfield 83, 3) := by decide +kernel
theorem dX7_about_125 : decode cX7_about 125 = .ok (.iload_n 1, 1) := by decide +kernel
theorem dX7_about_126 : decode cX7_about 126 = .ok (.iaload, 1) := by decide +kernel
theorem dX7_about_127 : decode cX7_about 127 = .ok (.ireturn, 1) := by decide +kernel
theorem dX7_about_128 : decode cX7_about 128 = .ok (.aload_n 0, 1) := by decide +kernel
theorem dX7_about_129 : decode cX7_about 129 = .ok (.getfield 86, 3) := by decide +kernel
theorem dX7_about_132 : decode cX7_about 132 = .ok (.iload_n 1, 1) := by decide +kernel
theorem dX7_about_133 : decode cX7_about 133 = .ok (.iaload, 1) := by decide +kernel
theorem dX7_about_134 : decode cX7_about 134 = .ok (.ireturn, 1) := by decide +kernel
theorem dX7_about_135 : decode cX7_about 135 = .ok (.aload_n 0, 1) := by decide +kernel
theorem dX7_about_136 : decode cX7_about 136 = .ok (.getfield 89, 3) := by decide +kernel
theorem dX7_about_139 : decode cX7_about 139 = .ok (.iload_n 1, 1) := by decide +kernel
theorem dX7_about_140 : decode cX7_about 140 = .ok (.iaload, 1) := by decide +kernel
theorem dX7_about_141 : decode cX7_about 141 = .ok (.ireturn, 1) := by decide +kernel
theorem dX7_about_142 : decode cX7_about 142 = .ok (.aload_n 0, 1) := by decide +kernel
theorem dX7_about_143 : decode cX7_about 143 = .ok (.getfield 92, 3) := by decide +kernel
theorem dX7_about_146 : decode cX7_about 146 = .ok (.iload_n 1, 1) := by decide +kernel
theorem dX7_about_147 : decode cX7_about 147 = .ok (.iaload, 1) := by decide +kernel
theorem dX7_about_148 : decode cX7_about 148 = .ok (.ireturn, 1) := by decide +kernel
theorem dX7_about_149 : decode cX7_about 149 = .ok (.aload_n 0, 1) := by decide +kernel
theorem dX7_about_150 : decode cX7_about 150 = .ok (.getfield 95, 3) := by decide +kernel
theorem dX7_about_153 : decode cX7_about 153 = .ok (.iload_n 1, 1) := by decide +kernel
theorem dX7_about_154 : decode cX7_about 154 = .ok (.iaload, 1) := by decide +kernel
theorem dX7_about_155 : decode cX7_about 155 = .ok (.ireturn, 1) := by decide +kernel
theorem dX7_about_156 : decode cX7_about 156 = .ok (.iconst (-1), 1) := by decide +kernel
theorem dX7_about_157 : decode cX7_about 157 = .ok (.ireturn, 1) := by decide +kernel
theorem dX7_isOn_0 : decode cX7_isOn 0 = .ok (.aload_n 0, 1) := by decide +kernel
theorem dX7_isOn_1 : decode cX7_isOn 1 = .ok (.getfield 89, 3) := by decide +kernel
theorem dX7_isOn_4 : decode cX7_isOn 4 = .ok (.iload_n 1, 1) := by decide +kernel
theorem dX7_isOn_5 : decode cX7_isOn 5 = .ok (.iaload, 1) := by decide +kernel
theorem dX7_isOn_6 : decode cX7_isOn 6 = .ok (.iconst 1, 1) := by decide +kernel
theorem dX7_isOn_7 : decode cX7_isOn 7 = .ok (.if_icmp .ne 17, 3) := by decide +kernel
theorem dX7_isOn_10 : decode cX7_isOn 10 = .ok (.aload_n 0, 1) := by decide +kernel
theorem dX7_isOn_11 : decode cX7_isOn 11 = .ok (.getfield 92, 3) := by decide +kernel
theorem dX7_isOn_14 : decode cX7_isOn 14 = .ok (.iload_n 1, 1) := by decide +kernel
theorem dX7_isOn_15 : decode cX7_isOn 15 = .ok (.iaload, 1) := by decide +kernel
theorem dX7_isOn_16 : decode cX7_isOn 16 = .ok (.iload_n 2, 1) := by decide +kernel
theorem dX7_isOn_17 : decode cX7_isOn 17 = .ok (.if_icmp .ne 7, 3) := by decide +kernel
theorem dX7_isOn_20 : decode cX7_isOn 20 = .ok (.iconst 1, 1) := by decide +kernel
theorem dX7_isOn_21 : decode cX7_isOn 21 = .ok (.goto 4, 3) := by decide +kernel
theorem dX7_isOn_24 : decode cX7_isOn 24 = .ok (.iconst 0, 1) := by decide +kernel
theorem dX7_isOn_25 : decode cX7_isOn 25 = .ok (.ireturn, 1) := by decide +kernel
theorem dX7_roomOn_0 : decode cX7_roomOn 0 = .ok (.iconst 0, 1) := by decide +kernel
theorem dX7_roomOn_1 : decode cX7_roomOn 1 = .ok (.istore_n 2, 1) := by decide +kernel
theorem dX7_roomOn_2 : decode cX7_roomOn 2 = .ok (.iconst 0, 1) := by decide +kernel
theorem dX7_roomOn_3 : decode cX7_roomOn 3 = .ok (.istore_n 3, 1) := by decide +kernel
theorem dX7_roomOn_4 : decode cX7_roomOn 4 = .ok (.iload_n 3, 1) := by decide +kernel
theorem dX7_roomOn_5 : decode cX7_roomOn 5 = .ok (.aload_n 0, 1) := by decide +kernel
theorem dX7_roomOn_6 : decode cX7_roomOn 6 = .ok (.getfield 143, 3) := by decide +kernel
theorem dX7_roomOn_9 : decode cX7_roomOn 9 = .ok (.if_icmp .ge 31, 3) := by decide +kernel
theorem dX7_roomOn_12 : decode cX7_roomOn 12 = .ok (.iload_n 2, 1) := by decide +kernel
theorem dX7_roomOn_13 : decode cX7_roomOn 13 = .ok (.aload_n 0, 1) := by decide +kernel
theorem dX7_roomOn_14 : decode cX7_roomOn 14 = .ok (.iload_n 3, 1) := by decide +kernel
theorem dX7_roomOn_15 : decode cX7_roomOn 15 = .ok (.iload_n 1, 1) := by decide +kernel
theorem dX7_roomOn_16 : decode cX7_roomOn 16 = .ok (.invokevirtual 171, 3) := by decide +kernel
theorem dX7_roomOn_19 : decode cX7_roomOn 19 = .ok (.ifCond .eq 12, 3) := by decide +kernel
theorem dX7_roomOn_22 : decode cX7_roomOn 22 = .ok (.aload_n 0, 1) := by decide +kernel
theorem dX7_roomOn_23 : decode cX7_roomOn 23 = .ok (.getfield 74, 3) := by decide +kernel
theorem dX7_roomOn_26 : decode cX7_roomOn 26 = .ok (.iload_n 3, 1) := by decide +kernel
theorem dX7_roomOn_27 : decode cX7_roomOn 27 = .ok (.iaload, 1) := by decide +kernel
theorem dX7_roomOn_28 : decode cX7_roomOn 28 = .ok (.goto 4, 3) := by decide +kernel
theorem dX7_roomOn_31 : decode cX7_roomOn 31 = .ok (.iconst 0, 1) := by decide +kernel
theorem dX7_roomOn_32 : decode cX7_roomOn 32 = .ok (.iadd, 1) := by decide +kernel
theorem dX7_roomOn_33 : decode cX7_roomOn 33 = .ok (.istore_n 2, 1) := by decide +kernel
theorem dX7_roomOn_34 : decode cX7_roomOn 34 = .ok (.iinc 3 1, 3) := by decide +kernel
theorem dX7_roomOn_37 : decode cX7_roomOn 37 = .ok (.goto (-33), 3) := by decide +kernel
theorem dX7_roomOn_40 : decode cX7_roomOn 40 = .ok (.iload_n 2, 1) := by decide +kernel
theorem dX7_roomOn_41 : decode cX7_roomOn 41 = .ok (.ireturn, 1) := by decide +kernel
theorem dX7_weightOn_0 : decode cX7_weightOn 0 = .ok (.iconst 0, 1) := by decide +kernel
theorem dX7_weightOn_1 : decode cX7_weightOn 1 = .ok (.istore_n 3, 1) := by decide +kernel
theorem dX7_weightOn_2 : decode cX7_weightOn 2 = .ok (.iconst 0, 1) := by decide +kernel
theorem dX7_weightOn_3 : decode cX7_weightOn 3 = .ok (.istore 4, 2) := by decide +kernel
theorem dX7_weightOn_5 : decode cX7_weightOn 5 = .ok (.iload 4, 2) := by decide +kernel
theorem dX7_weightOn_7 : decode cX7_weightOn 7 = .ok (.aload_n 0, 1) := by decide +kernel
theorem dX7_weightOn_8 : decode cX7_weightOn 8 = .ok (.getfield 143, 3) := by decide +kernel
theorem dX7_weightOn_11 : decode cX7_weightOn 11 = .ok (.if_icmp .ge 48, 3) := by decide +kernel
theorem dX7_weightOn_14 : decode cX7_weightOn 14 = .ok (.iload_n 3, 1) := by decide +kernel
theorem dX7_weightOn_15 : decode cX7_weightOn 15 = .ok (.aload_n 0, 1) := by decide +kernel
theorem dX7_weightOn_16 : decode cX7_weightOn 16 = .ok (.iload 4, 2) := by decide +kernel
theorem dX7_weightOn_18 : decode cX7_weightOn 18 = .ok (.iload_n 1, 1) := by decide +kernel
theorem dX7_weightOn_19 : decode cX7_weightOn 19 = .ok (.invokevirtual 171, 3) := by decide +kernel
theorem dX7_weightOn_22 : decode cX7_weightOn 22 = .ok (.ifCond .eq 28, 3) := by decide +kernel
theorem dX7_weightOn_25 : decode cX7_weightOn 25 = .ok (.iload_n 2, 1) := by decide +kernel
theorem dX7_weightOn_26 : decode cX7_weightOn 26 = .ok (.ifCond .eq 14, 3) := by decide +kernel
theorem dX7_weightOn_29 : decode cX7_weightOn 29 = .ok (.aload_n 0, 1) := by decide +kernel
theorem dX7_weightOn_30 : decode cX7_weightOn 30 = .ok (.getfield 71, 3) := by decide +kernel
theorem dX7_weightOn_33 : decode cX7_weightOn 33 = .ok (.iload 4, 2) := by decide +kernel
theorem dX7_weightOn_35 : decode cX7_weightOn 35 = .ok (.iaload, 1) := by decide +kernel
theorem dX7_weightOn_36 : decode cX7_weightOn 36 = .ok (.iconst 1, 1) := by decide +kernel
theorem dX7_weightOn_37 : decode cX7_weightOn 37 = .ok (.if_icmp .ne 13, 3) := by decide +kernel
theorem dX7_weightOn_40 : decode cX7_weightOn 40 = .ok (.aload_n 0, 1) := by decide +kernel
theorem dX7_weightOn_41 : decode cX7_weightOn 41 = .ok (.getfield 77, 3) := by decide +kernel
theorem dX7_weightOn_44 : decode cX7_weightOn 44 = .ok (.iload 4, 2) := by decide +kernel
theorem dX7_weightOn_46 : decode cX7_weightOn 46 = .ok (.iaload, 1) := by decide +kernel
theorem dX7_weightOn_47 : decode cX7_weightOn 47 = .ok (.goto 4, 3) := by decide +kernel
theorem dX7_weightOn_50 : decode cX7_weightOn 50 = .ok (.iconst 0, 1) := by decide +kernel
theorem dX7_weightOn_51 : decode cX7_weightOn 51 = .ok (.iadd, 1) := by decide +kernel
theorem dX7_weightOn_52 : decode cX7_weightOn 52 = .ok (.istore_n 3, 1) := by decide +kernel
theorem dX7_weightOn_53 : decode cX7_weightOn 53 = .ok (.iinc 4 1, 3) := by decide +kernel
theorem dX7_weightOn_56 : decode cX7_weightOn 56 = .ok (.goto (-51), 3) := by decide +kernel
theorem dX7_weightOn_59 : decode cX7_weightOn 59 = .ok (.iload_n 3, 1) := by decide +kernel
theorem dX7_weightOn_60 : decode cX7_weightOn 60 = .ok (.ireturn, 1) := by decide +kernel
theorem dX7_balesOn_0 : decode cX7_balesOn 0 = .ok (.iconst 0, 1) := by decide +kernel
theorem dX7_balesOn_1 : decode cX7_balesOn 1 = .ok (.istore_n 2, 1) := by decide +kernel
theorem dX7_balesOn_2 : decode cX7_balesOn 2 = .ok (.iconst 0, 1) := by decide +kernel
theorem dX7_balesOn_3 : decode cX7_balesOn 3 = .ok (.istore_n 3, 1) := by decide +kernel
theorem dX7_balesOn_4 : decode cX7_balesOn 4 = .ok (.iload_n 3, 1) := by decide +kernel
theorem dX7_balesOn_5 : decode cX7_balesOn 5 = .ok (.aload_n 0, 1) := by decide +kernel
theorem dX7_balesOn_6 : decode cX7_balesOn 6 = .ok (.getfield 143, 3) := by decide +kernel
theorem dX7_balesOn_9 : decode cX7_balesOn 9 = .ok (.if_icmp .ge 26, 3) := by decide +kernel
theorem dX7_balesOn_12 : decode cX7_balesOn 12 = .ok (.iload_n 2, 1) := by decide +kernel
theorem dX7_balesOn_13 : decode cX7_balesOn 13 = .ok (.aload_n 0, 1) := by decide +kernel
theorem dX7_balesOn_14 : decode cX7_balesOn 14 = .ok (.iload_n 3, 1) := by decide +kernel
theorem dX7_balesOn_15 : decode cX7_balesOn 15 = .ok (.iload_n 1, 1) := by decide +kernel
theorem dX7_balesOn_16 : decode cX7_balesOn 16 = .ok (.invokevirtual 171, 3) := by decide +kernel
theorem dX7_balesOn_19 : decode cX7_balesOn 19 = .ok (.ifCond .eq 7, 3) := by decide +kernel
theorem dX7_balesOn_22 : decode cX7_balesOn 22 = .ok (.iconst 1, 1) := by decide +kernel
theorem dX7_balesOn_23 : decode cX7_balesOn 23 = .ok (.goto 4, 3) := by decide +kernel
theorem dX7_balesOn_26 : decode cX7_balesOn 26 = .ok (.iconst 0, 1) := by decide +kernel
theorem dX7_balesOn_27 : decode cX7_balesOn 27 = .ok (.iadd, 1) := by decide +kernel
theorem dX7_balesOn_28 : decode cX7_balesOn 28 = .ok (.istore_n 2, 1) := by decide +kernel
theorem dX7_balesOn_29 : decode cX7_balesOn 29 = .ok (.iinc 3 1, 3) := by decide +kernel
theorem dX7_balesOn_32 : decode cX7_balesOn 32 = .ok (.goto (-28), 3) := by decide +kernel
theorem dX7_balesOn_35 : decode cX7_balesOn 35 = .ok (.iload_n 2, 1) := by decide +kernel
theorem dX7_balesOn_36 : decode cX7_balesOn 36 = .ok (.ireturn, 1) := by decide +kernel
theorem dX7_becomes_0 : decode cX7_becomes 0 = .ok (.aload_n 0, 1) := by decide +kernel
theorem dX7_becomes_1 : decode cX7_becomes 1 = .ok (.getfield 89, 3) := by decide +kernel
theorem dX7_becomes_4 : decode cX7_becomes 4 = .ok (.iload_n 1, 1) := by decide +kernel
theorem dX7_becomes_5 : decode cX7_becomes 5 = .ok (.iload_n 2, 1) := by decide +kernel
theorem dX7_becomes_6 : decode cX7_becomes 6 = .ok (.iastore, 1) := by decide +kernel
theorem dX7_becomes_7 : decode cX7_becomes 7 = .ok (.aload_n 0, 1) := by decide +kernel
theorem dX7_becomes_8 : decode cX7_becomes 8 = .ok (.getfield 95, 3) := by decide +kernel
theorem dX7_becomes_11 : decode cX7_becomes 11 = .ok (.iload_n 1, 1) := by decide +kernel
theorem dX7_becomes_12 : decode cX7_becomes 12 = .ok (.aload_n 0, 1) := by decide +kernel
theorem dX7_becomes_13 : decode cX7_becomes 13 = .ok (.getfield 165, 3) := by decide +kernel
theorem dX7_becomes_16 : decode cX7_becomes 16 = .ok (.iastore, 1) := by decide +kernel
theorem dX7_becomes_17 : decode cX7_becomes 17 = .ok (.return_, 1) := by decide +kernel
theorem dX7_feed_0 : decode cX7_feed 0 = .ok (.iload_n 1, 1) := by decide +kernel
theorem dX7_feed_1 : decode cX7_feed 1 = .ok (.iconst 1, 1) := by decide +kernel
theorem dX7_feed_2 : decode cX7_feed 2 = .ok (.iconst 4, 1) := by decide +kernel
theorem dX7_feed_3 : decode cX7_feed 3 = .ok (.invokestatic 133, 3) := by decide +kernel
theorem dX7_feed_6 : decode cX7_feed 6 = .ok (.ifCond .ne 5, 3) := by decide +kernel
theorem dX7_feed_9 : decode cX7_feed 9 = .ok (.iconst (-1), 1) := by decide +kernel
theorem dX7_feed_10 : decode cX7_feed 10 = .ok (.ireturn, 1) := by decide +kernel
theorem dX7_feed_11 : decode cX7_feed 11 = .ok (.aload_n 0, 1) := by decide +kernel
theorem dX7_feed_12 : decode cX7_feed 12 = .ok (.getfield 175, 3) := by decide +kernel
theorem dX7_feed_15 : decode cX7_feed 15 = .ok (.iload_n 1, 1) := by decide +kernel
theorem dX7_feed_16 : decode cX7_feed 16 = .ok (.iadd, 1) := by decide +kernel
theorem dX7_feed_17 : decode cX7_feed 17 = .ok (.sipush 200, 3) := by decide +kernel
theorem dX7_feed_20 : decode cX7_feed 20 = .ok (.if_icmp .le 6, 3) := by decide +kernel
theorem dX7_feed_23 : decode cX7_feed 23 = .ok (.bipush (-3), 2) := by decide +kernel
theorem dX7_feed_25 : decode cX7_feed 25 = .ok (.ireturn, 1) := by decide +kernel
theorem dX7_feed_26 : decode cX7_feed 26 = .ok (.iconst 0, 1) := by decide +kernel
theorem dX7_feed_27 : decode cX7_feed 27 = .ok (.istore_n 3, 1) := by decide +kernel
theorem dX7_feed_28 : decode cX7_feed 28 = .ok (.iload_n 3, 1) := by decide +kernel
theorem dX7_feed_29 : decode cX7_feed 29 = .ok (.iload_n 1, 1) := by decide +kernel
theorem dX7_feed_30 : decode cX7_feed 30 = .ok (.if_icmp .ge 35, 3) := by decide +kernel
theorem dX7_feed_33 : decode cX7_feed 33 = .ok (.aload_n 0, 1) := by decide +kernel
theorem dX7_feed_34 : decode cX7_feed 34 = .ok (.getfield 98, 3) := by decide +kernel
theorem dX7_feed_37 : decode cX7_feed 37 = .ok (.aload_n 0, 1) := by decide +kernel
theorem dX7_feed_38 : decode cX7_feed 38 = .ok (.getfield 175, 3) := by decide +kernel
theorem dX7_feed_41 : decode cX7_feed 41 = .ok (.iload_n 2, 1) := by decide +kernel
theorem dX7_feed_42 : decode cX7_feed 42 = .ok (.bipush 8, 2) := by decide +kernel
theorem dX7_feed_44 : decode cX7_feed 44 = .ok (.iload_n 3, 1) := by decide +kernel
theorem dX7_feed_45 : decode cX7_feed 45 = .ok (.imul, 1) := by decide +kernel
theorem dX7_feed_46 : decode cX7_feed 46 = .ok (.ishr, 1) := by decide +kernel
theorem dX7_feed_47 : decode cX7_feed 47 = .ok (.i2b, 1) := by decide +kernel
theorem dX7_feed_48 : decode cX7_feed 48 = .ok (.bastore, 1) := by decide +kernel
theorem dX7_feed_49 : decode cX7_feed 49 = .ok (.aload_n 0, 1) := by decide +kernel
theorem dX7_feed_50 : decode cX7_feed 50 = .ok (.dup, 1) := by decide +kernel
theorem dX7_feed_51 : decode cX7_feed 51 = .ok (.getfield 175, 3) := by decide +kernel
theorem dX7_feed_54 : decode cX7_feed 54 = .ok (.iconst 1, 1) := by decide +kernel
theorem dX7_feed_55 : decode cX7_feed 55 = .ok (.iadd, 1) := by decide +kernel
theorem dX7_feed_56 : decode cX7_feed 56 = .ok (.putfield 175, 3) := by decide +kernel
theorem dX7_feed_59 : decode cX7_feed 59 = .ok (.iinc 3 1, 3) := by decide +kernel
theorem dX7_feed_62 : decode cX7_feed 62 = .ok (.goto (-34), 3) := by decide +kernel
theorem dX7_feed_65 : decode cX7_feed 65 = .ok (.aload_n 0, 1) := by decide +kernel
theorem dX7_feed_66 : decode cX7_feed 66 = .ok (.getfield 175, 3) := by decide +kernel
theorem dX7_feed_69 : decode cX7_feed 69 = .ok (.ireturn, 1) := by decide +kernel
theorem dX7_isLetter_0 : decode cX7_isLetter 0 = .ok (.iload_n 0, 1) := by decide +kernel
theorem dX7_isLetter_1 : decode cX7_isLetter 1 = .ok (.bipush 97, 2) := by decide +kernel
theorem dX7_isLetter_3 : decode cX7_isLetter 3 = .ok (.if_icmp .lt 13, 3) := by decide +kernel
theorem dX7_isLetter_6 : decode cX7_isLetter 6 = .ok (.iload_n 0, 1) := by decide +kernel
theorem dX7_isLetter_7 : decode cX7_isLetter 7 = .ok (.bipush 122, 2) := by decide +kernel
theorem dX7_isLetter_9 : decode cX7_isLetter 9 = .ok (.if_icmp .gt 7, 3) := by decide +kernel
theorem dX7_isLetter_12 : decode cX7_isLetter 12 = .ok (.iconst 1, 1) := by decide +kernel
theorem dX7_isLetter_13 : decode cX7_isLetter 13 = .ok (.goto 4, 3) := by decide +kernel
theorem dX7_isLetter_16 : decode cX7_isLetter 16 = .ok (.iconst 0, 1) := by decide +kernel
theorem dX7_isLetter_17 : decode cX7_isLetter 17 = .ok (.ireturn, 1) := by decide +kernel
theorem dX7_isDigit_0 : decode cX7_isDigit 0 = .ok (.iload_n 0, 1) := by decide +kernel
theorem dX7_isDigit_1 : decode cX7_isDigit 1 = .ok (.bipush 48, 2) := by decide +kernel
theorem dX7_isDigit_3 : decode cX7_isDigit 3 = .ok (.if_icmp .lt 13, 3) := by decide +kernel
theorem dX7_isDigit_6 : decode cX7_isDigit 6 = .ok (.iload_n 0, 1) := by decide +kernel
theorem dX7_isDigit_7 : decode cX7_isDigit 7 = .ok (.bipush 57, 2) := by decide +kernel
theorem dX7_isDigit_9 : decode cX7_isDigit 9 = .ok (.if_icmp .gt 7, 3) := by decide +kernel
theorem dX7_isDigit_12 : decode cX7_isDigit 12 = .ok (.iconst 1, 1) := by decide +kernel
theorem dX7_isDigit_13 : decode cX7_isDigit 13 = .ok (.goto 4, 3) := by decide +kernel
theorem dX7_isDigit_16 : decode cX7_isDigit 16 = .ok (.iconst 0, 1) := by decide +kernel
theorem dX7_isDigit_17 : decode cX7_isDigit 17 = .ok (.ireturn, 1) := by decide +kernel
theorem dX7_advance_0 : decode cX7_advance 0 = .ok (.aload_n 0, 1) := by decide +kernel
theorem dX7_advance_1 : decode cX7_advance 1 = .ok (.getfield 178, 3) := by decide +kernel
theorem dX7_advance_4 : decode cX7_advance 4 = .ok (.aload_n 0, 1) := by decide +kernel
theorem dX7_advance_5 : decode cX7_advance 5 = .ok (.getfield 175, 3) := by decide +kernel
theorem dX7_advance_8 : decode cX7_advance 8 = .ok (.if_icmp .ge 30, 3) := by decide +kernel
theorem dX7_advance_11 : decode cX7_advance 11 = .ok (.aload_n 0, 1) := by decide +kernel
theorem dX7_advance_12 : decode cX7_advance 12 = .ok (.getfield 98, 3) := by decide +kernel
theorem dX7_advance_15 : decode cX7_advance 15 = .ok (.aload_n 0, 1) := by decide +kernel
theorem dX7_advance_16 : decode cX7_advance 16 = .ok (.getfield 178, 3) := by decide +kernel
theorem dX7_advance_19 : decode cX7_advance 19 = .ok (.baload, 1) := by decide +kernel
theorem dX7_advance_20 : decode cX7_advance 20 = .ok (.bipush 32, 2) := by decide +kernel
theorem dX7_advance_22 : decode cX7_advance 22 = .ok (.if_icmp .ne 16, 3) := by decide +kernel
theorem dX7_advance_25 : decode cX7_advance 25 = .ok (.aload_n 0, 1) := by decide +kernel
theorem dX7_advance_26 : decode cX7_advance 26 = .ok (.dup, 1) := by decide +kernel
theorem dX7_advance_27 : decode cX7_advance 27 = .ok (.getfield 178, 3) := by decide +kernel
theorem dX7_advance_30 : decode cX7_advance 30 = .ok (.iconst 1, 1) := by decide +kernel
theorem dX7_advance_31 : decode cX7_advance 31 = .ok (.iadd, 1) := by decide +kernel
theorem dX7_advance_32 : decode cX7_advance 32 = .ok (.putfield 178, 3) := by decide +kernel
theorem dX7_advance_35 : decode cX7_advance 35 = .ok (.goto (-35), 3) := by decide +kernel
theorem dX7_advance_38 : decode cX7_advance 38 = .ok (.aload_n 0, 1) := by decide +kernel
theorem dX7_advance_39 : decode cX7_advance 39 = .ok (.aload_n 0, 1) := by decide +kernel
theorem dX7_advance_40 : decode cX7_advance 40 = .ok (.getfield 178, 3) := by decide +kernel
theorem dX7_advance_43 : decode cX7_advance 43 = .ok (.putfield 181, 3) := by decide +kernel
theorem dX7_advance_46 : decode cX7_advance 46 = .ok (.aload_n 0, 1) := by decide +kernel
theorem dX7_advance_47 : decode cX7_advance 47 = .ok (.getfield 178, 3) := by decide +kernel
theorem dX7_advance_50 : decode cX7_advance 50 = .ok (.aload_n 0, 1) := by decide +kernel
theorem dX7_advance_51 : decode cX7_advance 51 = .ok (.getfield 175, 3) := by decide +kernel
theorem dX7_advance_54 : decode cX7_advance 54 = .ok (.if_icmp .ne 9, 3) := by decide +kernel
theorem dX7_advance_57 : decode cX7_advance 57 = .ok (.aload_n 0, 1) := by decide +kernel
theorem dX7_advance_58 : decode cX7_advance 58 = .ok (.iconst 0, 1) := by decide +kernel
theorem dX7_advance_59 : decode cX7_advance 59 = .ok (.putfield 184, 3) := by decide +kernel
theorem dX7_advance_62 : decode cX7_advance 62 = .ok (.return_, 1) := by decide +kernel
theorem dX7_advance_63 : decode cX7_advance 63 = .ok (.aload_n 0, 1) := by decide +kernel
theorem dX7_advance_64 : decode cX7_advance 64 = .ok (.getfield 98, 3) := by decide +kernel
theorem dX7_advance_67 : decode cX7_advance 67 = .ok (.aload_n 0, 1) := by decide +kernel
theorem dX7_advance_68 : decode cX7_advance 68 = .ok (.getfield 178, 3) := by decide +kernel
theorem dX7_advance_71 : decode cX7_advance 71 = .ok (.baload, 1) := by decide +kernel
theorem dX7_advance_72 : decode cX7_advance 72 = .ok (.istore_n 1, 1) := by decide +kernel
theorem dX7_advance_73 : decode cX7_advance 73 = .ok (.iload_n 1, 1) := by decide +kernel
theorem dX7_advance_74 : decode cX7_advance 74 = .ok (.invokestatic 187, 3) := by decide +kernel
theorem dX7_advance_77 : decode cX7_advance 77 = .ok (.ifCond .eq 102, 3) := by decide +kernel
theorem dX7_advance_80 : decode cX7_advance 80 = .ok (.lconst 0, 1) := by decide +kernel
theorem dX7_advance_81 : decode cX7_advance 81 = .ok (.lstore_n 2, 1) := by decide +kernel
theorem dX7_advance_82 : decode cX7_advance 82 = .ok (.iconst 0, 1) := by decide +kernel
theorem dX7_advance_83 : decode cX7_advance 83 = .ok (.istore 4, 2) := by decide +kernel
theorem dX7_advance_85 : decode cX7_advance 85 = .ok (.aload_n 0, 1) := by decide +kernel
theorem dX7_advance_86 : decode cX7_advance 86 = .ok (.getfield 178, 3) := by decide +kernel
theorem dX7_advance_89 : decode cX7_advance 89 = .ok (.aload_n 0, 1) := by decide +kernel
theorem dX7_advance_90 : decode cX7_advance 90 = .ok (.getfield 175, 3) := by decide +kernel
theorem dX7_advance_93 : decode cX7_advance 93 = .ok (.if_icmp .ge 66, 3) := by decide +kernel
theorem dX7_advance_96 : decode cX7_advance 96 = .ok (.aload_n 0, 1) := by decide +kernel
theorem dX7_advance_97 : decode cX7_advance 97 = .ok (.getfield 98, 3) := by decide +kernel
theorem dX7_advance_100 : decode cX7_advance 100 = .ok (.aload_n 0, 1) := by decide +kernel
theorem dX7_advance_101 : decode cX7_advance 101 = .ok (.getfield 178, 3) := by decide +kernel
theorem dX7_advance_104 : decode cX7_advance 104 = .ok (.baload, 1) := by decide +kernel
theorem dX7_advance_105 : decode cX7_advance 105 = .ok (.invokestatic 187, 3) := by decide +kernel
theorem dX7_advance_108 : decode cX7_advance 108 = .ok (.ifCond .eq 51, 3) := by decide +kernel
theorem dX7_advance_111 : decode cX7_advance 111 = .ok (.iload 4, 2) := by decide +kernel
theorem dX7_advance_113 : decode cX7_advance 113 = .ok (.bipush 8, 2) := by decide +kernel
theorem dX7_advance_115 : decode cX7_advance 115 = .ok (.if_icmp .ge 26, 3) := by decide +kernel
theorem dX7_advance_118 : decode cX7_advance 118 = .ok (.lload_n 2, 1) := by decide +kernel
theorem dX7_advance_119 : decode cX7_advance 119 = .ok (.ldc2_w 190, 3) := by decide +kernel
theorem dX7_advance_122 : decode cX7_advance 122 = .ok (.lmul, 1) := by decide +kernel
theorem dX7_advance_123 : decode cX7_advance 123 = .ok (.aload_n 0, 1) := by decide +kernel
theorem dX7_advance_124 : decode cX7_advance 124 = .ok (.getfield 98, 3) := by decide +kernel
theorem dX7_advance_127 : decode cX7_advance 127 = .ok (.aload_n 0, 1) := by decide +kernel
theorem dX7_advance_128 : decode cX7_advance 128 = .ok (.getfield 178, 3) := by decide +kernel
theorem dX7_advance_131 : decode cX7_advance 131 = .ok (.baload, 1) := by decide +kernel
theorem dX7_advance_132 : decode cX7_advance 132 = .ok (.i2l, 1) := by decide +kernel
theorem dX7_advance_133 : decode cX7_advance 133 = .ok (.ladd, 1) := by decide +kernel
theorem dX7_advance_134 : decode cX7_advance 134 = .ok (.ldc2_w 192, 3) := by decide +kernel
theorem dX7_advance_137 : decode cX7_advance 137 = .ok (.lsub, 1) := by decide +kernel
theorem dX7_advance_138 : decode cX7_advance 138 = .ok (.goto 4, 3) := by decide +kernel
theorem dX7_advance_141 : decode cX7_advance 141 = .ok (.lload_n 2, 1) := by decide +kernel
theorem dX7_advance_142 : decode cX7_advance 142 = .ok (.lstore_n 2, 1) := by decide +kernel
theorem dX7_advance_143 : decode cX7_advance 143 = .ok (.aload_n 0, 1) := by decide +kernel
theorem dX7_advance_144 : decode cX7_advance 144 = .ok (.dup, 1) := by decide +kernel
theorem dX7_advance_145 : decode cX7_advance 145 = .ok (.getfield 178, 3) := by decide +kernel
theorem dX7_advance_148 : decode cX7_advance 148 = .ok (.iconst 1, 1) := by decide +kernel
theorem dX7_advance_149 : decode cX7_advance 149 = .ok (.iadd, 1) := by decide +kernel
theorem dX7_advance_150 : decode cX7_advance 150 = .ok (.putfield 178, 3) := by decide +kernel
theorem dX7_advance_153 : decode cX7_advance 153 = .ok (.iinc 4 1, 3) := by decide +kernel
theorem dX7_advance_156 : decode cX7_advance 156 = .ok (.goto (-71), 3) := by decide +kernel
theorem dX7_advance_159 : decode cX7_advance 159 = .ok (.aload_n 0, 1) := by decide +kernel
theorem dX7_advance_160 : decode cX7_advance 160 = .ok (.iload 4, 2) := by decide +kernel
theorem dX7_advance_162 : decode cX7_advance 162 = .ok (.bipush 7, 2) := by decide +kernel
theorem dX7_advance_164 : decode cX7_advance 164 = .ok (.if_icmp .le 7, 3) := by decide +kernel
theorem dX7_advance_167 : decode cX7_advance 167 = .ok (.iconst 2, 1) := by decide +kernel
theorem dX7_advance_168 : decode cX7_advance 168 = .ok (.goto 7, 3) := by decide +kernel
theorem dX7_advance_171 : decode cX7_advance 171 = .ok (.lload_n 2, 1) := by decide +kernel
theorem dX7_advance_172 : decode cX7_advance 172 = .ok (.invokestatic 194, 3) := by decide +kernel
theorem dX7_advance_175 : decode cX7_advance 175 = .ok (.putfield 184, 3) := by decide +kernel
theorem dX7_advance_178 : decode cX7_advance 178 = .ok (.return_, 1) := by decide +kernel
theorem dX7_advance_179 : decode cX7_advance 179 = .ok (.iload_n 1, 1) := by decide +kernel
theorem dX7_advance_180 : decode cX7_advance 180 = .ok (.invokestatic 198, 3) := by decide +kernel
theorem dX7_advance_183 : decode cX7_advance 183 = .ok (.ifCond .eq 103, 3) := by decide +kernel
theorem dX7_advance_186 : decode cX7_advance 186 = .ok (.iconst 0, 1) := by decide +kernel
theorem dX7_advance_187 : decode cX7_advance 187 = .ok (.istore_n 2, 1) := by decide +kernel
theorem dX7_advance_188 : decode cX7_advance 188 = .ok (.aload_n 0, 1) := by decide +kernel
theorem dX7_advance_189 : decode cX7_advance 189 = .ok (.iconst 0, 1) := by decide +kernel
theorem dX7_advance_190 : decode cX7_advance 190 = .ok (.putfield 201, 3) := by decide +kernel
theorem dX7_advance_193 : decode cX7_advance 193 = .ok (.aload_n 0, 1) := by decide +kernel
theorem dX7_advance_194 : decode cX7_advance 194 = .ok (.getfield 178, 3) := by decide +kernel
theorem dX7_advance_197 : decode cX7_advance 197 = .ok (.aload_n 0, 1) := by decide +kernel
theorem dX7_advance_198 : decode cX7_advance 198 = .ok (.getfield 175, 3) := by decide +kernel
theorem dX7_advance_201 : decode cX7_advance 201 = .ok (.if_icmp .ge 70, 3) := by decide +kernel
theorem dX7_advance_204 : decode cX7_advance 204 = .ok (.aload_n 0, 1) := by decide +kernel
theorem dX7_advance_205 : decode cX7_advance 205 = .ok (.getfield 98, 3) := by decide +kernel
theorem dX7_advance_208 : decode cX7_advance 208 = .ok (.aload_n 0, 1) := by decide +kernel
theorem dX7_advance_209 : decode cX7_advance 209 = .ok (.getfield 178, 3) := by decide +kernel
theorem dX7_advance_212 : decode cX7_advance 212 = .ok (.baload, 1) := by decide +kernel
theorem dX7_advance_213 : decode cX7_advance 213 = .ok (.invokestatic 198, 3) := by decide +kernel
theorem dX7_advance_216 : decode cX7_advance 216 = .ok (.ifCond .eq 55, 3) := by decide +kernel
theorem dX7_advance_219 : decode cX7_advance 219 = .ok (.aload_n 0, 1) := by decide +kernel
theorem dX7_advance_220 : decode cX7_advance 220 = .ok (.iload_n 2, 1) := by decide +kernel
theorem dX7_advance_221 : decode cX7_advance 221 = .ok (.iconst 5, 1) := by decide +kernel
theorem dX7_advance_222 : decode cX7_advance 222 = .ok (.if_icmp .ge 26, 3) := by decide +kernel
theorem dX7_advance_225 : decode cX7_advance 225 = .ok (.bipush 10, 2) := by decide +kernel
theorem dX7_advance_227 : decode cX7_advance 227 = .ok (.aload_n 0, 1) := by decide +kernel
theorem dX7_advance_228 : decode cX7_advance 228 = .ok (.getfield 201, 3) := by decide +kernel
theorem dX7_advance_231 : decode cX7_advance 231 = .ok (.imul, 1) := by decide +kernel
theorem dX7_advance_232 : decode cX7_advance 232 = .ok (.aload_n 0, 1) := by decide +kernel
theorem dX7_advance_233 : decode cX7_advance 233 = .ok (.getfield 98, 3) := by decide +kernel
theorem dX7_advance_236 : decode cX7_advance 236 = .ok (.aload_n 0, 1) := by decide +kernel
theorem dX7_advance_237 : decode cX7_advance 237 = .ok (.getfield 178, 3) := by decide +kernel
theorem dX7_advance_240 : decode cX7_advance 240 = .ok (.baload, 1) := by decide +kernel
theorem dX7_advance_241 : decode cX7_advance 241 = .ok (.iadd, 1) := by decide +kernel
theorem dX7_advance_242 : decode cX7_advance 242 = .ok (.bipush 48, 2) := by decide +kernel
theorem dX7_advance_244 : decode cX7_advance 244 = .ok (.isub, 1) := by decide +kernel
theorem dX7_advance_245 : decode cX7_advance 245 = .ok (.goto 7, 3) := by decide +kernel
theorem dX7_advance_248 : decode cX7_advance 248 = .ok (.aload_n 0, 1) := by decide +kernel
theorem dX7_advance_249 : decode cX7_advance 249 = .ok (.getfield 201, 3) := by decide +kernel
theorem dX7_advance_252 : decode cX7_advance 252 = .ok (.putfield 201, 3) := by decide +kernel
theorem dX7_advance_255 : decode cX7_advance 255 = .ok (.aload_n 0, 1) := by decide +kernel
theorem dX7_advance_256 : decode cX7_advance 256 = .ok (.dup, 1) := by decide +kernel
theorem dX7_advance_257 : decode cX7_advance 257 = .ok (.getfield 178, 3) := by decide +kernel
theorem dX7_advance_260 : decode cX7_advance 260 = .ok (.iconst 1, 1) := by decide +kernel
theorem dX7_advance_261 : decode cX7_advance 261 = .ok (.iadd, 1) := by decide +kernel
theorem dX7_advance_262 : decode cX7_advance 262 = .ok (.putfield 178, 3) := by decide +kernel
theorem dX7_advance_265 : decode cX7_advance 265 = .ok (.iinc 2 1, 3) := by decide +kernel
theorem dX7_advance_268 : decode cX7_advance 268 = .ok (.goto (-75), 3) := by decide +kernel
theorem dX7_advance_271 : decode cX7_advance 271 = .ok (.aload_n 0, 1) := by decide +kernel
theorem dX7_advance_272 : decode cX7_advance 272 = .ok (.iload_n 2, 1) := by decide +kernel
theorem dX7_advance_273 : decode cX7_advance 273 = .ok (.iconst 5, 1) := by decide +kernel
theorem dX7_advance_274 : decode cX7_advance 274 = .ok (.if_icmp .le 7, 3) := by decide +kernel
theorem dX7_advance_277 : decode cX7_advance 277 = .ok (.iconst 2, 1) := by decide +kernel
theorem dX7_advance_278 : decode cX7_advance 278 = .ok (.goto 4, 3) := by decide +kernel
theorem dX7_advance_281 : decode cX7_advance 281 = .ok (.iconst 1, 1) := by decide +kernel
theorem dX7_advance_282 : decode cX7_advance 282 = .ok (.putfield 184, 3) := by decide +kernel
theorem dX7_advance_285 : decode cX7_advance 285 = .ok (.return_, 1) := by decide +kernel
theorem dX7_advance_286 : decode cX7_advance 286 = .ok (.aload_n 0, 1) := by decide +kernel
theorem dX7_advance_287 : decode cX7_advance 287 = .ok (.dup, 1) := by decide +kernel
theorem dX7_advance_288 : decode cX7_advance 288 = .ok (.getfield 178, 3) := by decide +kernel
theorem dX7_advance_291 : decode cX7_advance 291 = .ok (.iconst 1, 1) := by decide +kernel
theorem dX7_advance_292 : decode cX7_advance 292 = .ok (.iadd, 1) := by decide +kernel
theorem dX7_advance_293 : decode cX7_advance 293 = .ok (.putfield 178, 3) := by decide +kernel
theorem dX7_advance_296 : decode cX7_advance 296 = .ok (.aload_n 0, 1) := by decide +kernel
theorem dX7_advance_297 : decode cX7_advance 297 = .ok (.iload_n 1, 1) := by decide +kernel
theorem dX7_advance_298 : decode cX7_advance 298 = .ok (.invokestatic 204, 3) := by decide +kernel
theorem dX7_advance_301 : decode cX7_advance 301 = .ok (.putfield 184, 3) := by decide +kernel
theorem dX7_advance_304 : decode cX7_advance 304 = .ok (.return_, 1) := by decide +kernel
theorem dX7_signOf_0 : decode cX7_signOf 0 = .ok (.iload_n 0, 1) := by decide +kernel
theorem dX7_signOf_1 : decode cX7_signOf 1 = .ok (.tableswitch 130 40 62 #[107, 109, 112, 115, 130, 118, 130, 130, 130, 130, 130, 130, 130, 130, 130, 130, 130, 130, 130, 130, 121, 124, 127], 107) := by decide +kernel
theorem dX7_signOf_108 : decode cX7_signOf 108 = .ok (.iconst 5, 1) := by decide +kernel
theorem dX7_signOf_109 : decode cX7_signOf 109 = .ok (.ireturn, 1) := by decide +kernel
theorem dX7_signOf_110 : decode cX7_signOf 110 = .ok (.bipush 6, 2) := by decide +kernel
theorem dX7_signOf_112 : decode cX7_signOf 112 = .ok (.ireturn, 1) := by decide +kernel
theorem dX7_signOf_113 : decode cX7_signOf 113 = .ok (.bipush 60, 2) := by decide +kernel
theorem dX7_signOf_115 : decode cX7_signOf 115 = .ok (.ireturn, 1) := by decide +kernel
theorem dX7_signOf_116 : decode cX7_signOf 116 = .ok (.bipush 50, 2) := by decide +kernel
theorem dX7_signOf_118 : decode cX7_signOf 118 = .ok (.ireturn, 1) := by decide +kernel
theorem dX7_signOf_119 : decode cX7_signOf 119 = .ok (.bipush 51, 2) := by decide +kernel
theorem dX7_signOf_121 : decode cX7_signOf 121 = .ok (.ireturn, 1) := by decide +kernel
theorem dX7_signOf_122 : decode cX7_signOf 122 = .ok (.bipush 40, 2) := by decide +kernel
theorem dX7_signOf_124 : decode cX7_signOf 124 = .ok (.ireturn, 1) := by decide +kernel
theorem dX7_signOf_125 : decode cX7_signOf 125 = .ok (.bipush 41, 2) := by decide +kernel
theorem dX7_signOf_127 : decode cX7_signOf 127 = .ok (.ireturn, 1) := by decide +kernel
theorem dX7_signOf_128 : decode cX7_signOf 128 = .ok (.bipush 42, 2) := by decide +kernel
theorem dX7_signOf_130 : decode cX7_signOf 130 = .ok (.ireturn, 1) := by decide +kernel
theorem dX7_signOf_131 : decode cX7_signOf 131 = .ok (.iconst 2, 1) := by decide +kernel
theorem dX7_signOf_132 : decode cX7_signOf 132 = .ok (.ireturn, 1) := by decide +kernel
theorem dX7_wordOf_0 : decode cX7_wordOf 0 = .ok (.lload_n 0, 1) := by decide +kernel
theorem dX7_wordOf_1 : decode cX7_wordOf 1 = .ok (.ldc2_w 208, 3) := by decide +kernel
theorem dX7_wordOf_4 : decode cX7_wordOf 4 = .ok (.lcmp, 1) := by decide +kernel
theorem dX7_wordOf_5 : decode cX7_wordOf 5 = .ok (.ifCond .ne 6, 3) := by decide +kernel
theorem dX7_wordOf_8 : decode cX7_wordOf 8 = .ok (.bipush 10, 2) := by decide +kernel
theorem dX7_wordOf_10 : decode cX7_wordOf 10 = .ok (.ireturn, 1) := by decide +kernel
theorem dX7_wordOf_11 : decode cX7_wordOf 11 = .ok (.lload_n 0, 1) := by decide +kernel
theorem dX7_wordOf_12 : decode cX7_wordOf 12 = .ok (.ldc2_w 210, 3) := by decide +kernel
theorem dX7_wordOf_15 : decode cX7_wordOf 15 = .ok (.lcmp, 1) := by decide +kernel
theorem dX7_wordOf_16 : decode cX7_wordOf 16 = .ok (.ifCond .ne 6, 3) := by decide +kernel
theorem dX7_wordOf_19 : decode cX7_wordOf 19 = .ok (.bipush 20, 2) := by decide +kernel
theorem dX7_wordOf_21 : decode cX7_wordOf 21 = .ok (.ireturn, 1) := by decide +kernel
theorem dX7_wordOf_22 : decode cX7_wordOf 22 = .ok (.lload_n 0, 1) := by decide +kernel
theorem dX7_wordOf_23 : decode cX7_wordOf 23 = .ok (.ldc2_w 212, 3) := by decide +kernel
theorem dX7_wordOf_26 : decode cX7_wordOf 26 = .ok (.lcmp, 1) := by decide +kernel
theorem dX7_wordOf_27 : decode cX7_wordOf 27 = .ok (.ifCond .ne 6, 3) := by decide +kernel
theorem dX7_wordOf_30 : decode cX7_wordOf 30 = .ok (.bipush 30, 2) := by decide +kernel
theorem dX7_wordOf_32 : decode cX7_wordOf 32 = .ok (.ireturn, 1) := by decide +kernel
theorem dX7_wordOf_33 : decode cX7_wordOf 33 = .ok (.lload_n 0, 1) := by decide +kernel
theorem dX7_wordOf_34 : decode cX7_wordOf 34 = .ok (.ldc2_w 214, 3) := by decide +kernel
theorem dX7_wordOf_37 : decode cX7_wordOf 37 = .ok (.lcmp, 1) := by decide +kernel
theorem dX7_wordOf_38 : decode cX7_wordOf 38 = .ok (.ifCond .ne 6, 3) := by decide +kernel
theorem dX7_wordOf_41 : decode cX7_wordOf 41 = .ok (.bipush 100, 2) := by decide +kernel
theorem dX7_wordOf_43 : decode cX7_wordOf 43 = .ok (.ireturn, 1) := by decide +kernel
theorem dX7_wordOf_44 : decode cX7_wordOf 44 = .ok (.lload_n 0, 1) := by decide +kernel
theorem dX7_wordOf_45 : decode cX7_wordOf 45 = .ok (.ldc2_w 216, 3) := by decide +kernel
theorem dX7_wordOf_48 : decode cX7_wordOf 48 = .ok (.lcmp, 1) := by decide +kernel
theorem dX7_wordOf_49 : decode cX7_wordOf 49 = .ok (.ifCond .ne 6, 3) := by decide +kernel
theorem dX7_wordOf_52 : decode cX7_wordOf 52 = .ok (.bipush 101, 2) := by decide +kernel
theorem dX7_wordOf_54 : decode cX7_wordOf 54 = .ok (.ireturn, 1) := by decide +kernel
theorem dX7_wordOf_55 : decode cX7_wordOf 55 = .ok (.lload_n 0, 1) := by decide +kernel
theorem dX7_wordOf_56 : decode cX7_wordOf 56 = .ok (.ldc2_w 218, 3) := by decide +kernel
theorem dX7_wordOf_59 : decode cX7_wordOf 59 = .ok (.lcmp, 1) := by decide +kernel
theorem dX7_wordOf_60 : decode cX7_wordOf 60 = .ok (.ifCond .ne 6, 3) := by decide +kernel
theorem dX7_wordOf_63 : decode cX7_wordOf 63 = .ok (.bipush 102, 2) := by decide +kernel
theorem dX7_wordOf_65 : decode cX7_wordOf 65 = .ok (.ireturn, 1) := by decide +kernel
theorem dX7_wordOf_66 : decode cX7_wordOf 66 = .ok (.lload_n 0, 1) := by decide +kernel
theorem dX7_wordOf_67 : decode cX7_wordOf 67 = .ok (.ldc2_w 220, 3) := by decide +kernel
theorem dX7_wordOf_70 : decode cX7_wordOf 70 = .ok (.lcmp, 1) := by decide +kernel
theorem dX7_wordOf_71 : decode cX7_wordOf 71 = .ok (.ifCond .ne 6, 3) := by decide +kernel
theorem dX7_wordOf_74 : decode cX7_wordOf 74 = .ok (.bipush 103, 2) := by decide +kernel
theorem dX7_wordOf_76 : decode cX7_wordOf 76 = .ok (.ireturn, 1) := by decide +kernel
theorem dX7_wordOf_77 : decode cX7_wordOf 77 = .ok (.lload_n 0, 1) := by decide +kernel
theorem dX7_wordOf_78 : decode cX7_wordOf 78 = .ok (.ldc2_w 222, 3) := by decide +kernel
theorem dX7_wordOf_81 : decode cX7_wordOf 81 = .ok (.lcmp, 1) := by decide +kernel
theorem dX7_wordOf_82 : decode cX7_wordOf 82 = .ok (.ifCond .ne 6, 3) := by decide +kernel
theorem dX7_wordOf_85 : decode cX7_wordOf 85 = .ok (.bipush 104, 2) := by decide +kernel
theorem dX7_wordOf_87 : decode cX7_wordOf 87 = .ok (.ireturn, 1) := by decide +kernel
theorem dX7_wordOf_88 : decode cX7_wordOf 88 = .ok (.lload_n 0, 1) := by decide +kernel
theorem dX7_wordOf_89 : decode cX7_wordOf 89 = .ok (.ldc2_w 224, 3) := by decide +kernel
theorem dX7_wordOf_92 : decode cX7_wordOf 92 = .ok (.lcmp, 1) := by decide +kernel
theorem dX7_wordOf_93 : decode cX7_wordOf 93 = .ok (.ifCond .ne 6, 3) := by decide +kernel
theorem dX7_wordOf_96 : decode cX7_wordOf 96 = .ok (.bipush 105, 2) := by decide +kernel
theorem dX7_wordOf_98 : decode cX7_wordOf 98 = .ok (.ireturn, 1) := by decide +kernel
theorem dX7_wordOf_99 : decode cX7_wordOf 99 = .ok (.lload_n 0, 1) := by decide +kernel
theorem dX7_wordOf_100 : decode cX7_wordOf 100 = .ok (.ldc2_w 226, 3) := by decide +kernel
theorem dX7_wordOf_103 : decode cX7_wordOf 103 = .ok (.lcmp, 1) := by decide +kernel
theorem dX7_wordOf_104 : decode cX7_wordOf 104 = .ok (.ifCond .ne 6, 3) := by decide +kernel
theorem dX7_wordOf_107 : decode cX7_wordOf 107 = .ok (.bipush 106, 2) := by decide +kernel
theorem dX7_wordOf_109 : decode cX7_wordOf 109 = .ok (.ireturn, 1) := by decide +kernel
theorem dX7_wordOf_110 : decode cX7_wordOf 110 = .ok (.lload_n 0, 1) := by decide +kernel
theorem dX7_wordOf_111 : decode cX7_wordOf 111 = .ok (.ldc2_w 228, 3) := by decide +kernel
theorem dX7_wordOf_114 : decode cX7_wordOf 114 = .ok (.lcmp, 1) := by decide +kernel
theorem dX7_wordOf_115 : decode cX7_wordOf 115 = .ok (.ifCond .ne 6, 3) := by decide +kernel
theorem dX7_wordOf_118 : decode cX7_wordOf 118 = .ok (.bipush 107, 2) := by decide +kernel
theorem dX7_wordOf_120 : decode cX7_wordOf 120 = .ok (.ireturn, 1) := by decide +kernel
theorem dX7_wordOf_121 : decode cX7_wordOf 121 = .ok (.lload_n 0, 1) := by decide +kernel
theorem dX7_wordOf_122 : decode cX7_wordOf 122 = .ok (.ldc2_w 230, 3) := by decide +kernel
theorem dX7_wordOf_125 : decode cX7_wordOf 125 = .ok (.lcmp, 1) := by decide +kernel
theorem dX7_wordOf_126 : decode cX7_wordOf 126 = .ok (.ifCond .ne 6, 3) := by decide +kernel
theorem dX7_wordOf_129 : decode cX7_wordOf 129 = .ok (.bipush 108, 2) := by decide +kernel
theorem dX7_wordOf_131 : decode cX7_wordOf 131 = .ok (.ireturn, 1) := by decide +kernel
theorem dX7_wordOf_132 : decode cX7_wordOf 132 = .ok (.lload_n 0, 1) := by decide +kernel
theorem dX7_wordOf_133 : decode cX7_wordOf 133 = .ok (.ldc2_w 232, 3) := by decide +kernel
theorem dX7_wordOf_136 : decode cX7_wordOf 136 = .ok (.lcmp, 1) := by decide +kernel
theorem dX7_wordOf_137 : decode cX7_wordOf 137 = .ok (.ifCond .ne 6, 3) := by decide +kernel
theorem dX7_wordOf_140 : decode cX7_wordOf 140 = .ok (.bipush 109, 2) := by decide +kernel
theorem dX7_wordOf_142 : decode cX7_wordOf 142 = .ok (.ireturn, 1) := by decide +kernel
theorem dX7_wordOf_143 : decode cX7_wordOf 143 = .ok (.lload_n 0, 1) := by decide +kernel
theorem dX7_wordOf_144 : decode cX7_wordOf 144 = .ok (.ldc2_w 234, 3) := by decide +kernel
theorem dX7_wordOf_147 : decode cX7_wordOf 147 = .ok (.lcmp, 1) := by decide +kernel
theorem dX7_wordOf_148 : decode cX7_wordOf 148 = .ok (.ifCond .ne 6, 3) := by decide +kernel
theorem dX7_wordOf_151 : decode cX7_wordOf 151 = .ok (.bipush 110, 2) := by decide +kernel
theorem dX7_wordOf_153 : decode cX7_wordOf 153 = .ok (.ireturn, 1) := by decide +kernel
theorem dX7_wordOf_154 : decode cX7_wordOf 154 = .ok (.lload_n 0, 1) := by decide +kernel
theorem dX7_wordOf_155 : decode cX7_wordOf 155 = .ok (.ldc2_w 236, 3) := by decide +kernel
theorem dX7_wordOf_158 : decode cX7_wordOf 158 = .ok (.lcmp, 1) := by decide +kernel
theorem dX7_wordOf_159 : decode cX7_wordOf 159 = .ok (.ifCond .ne 6, 3) := by decide +kernel
theorem dX7_wordOf_162 : decode cX7_wordOf 162 = .ok (.bipush 111, 2) := by decide +kernel
theorem dX7_wordOf_164 : decode cX7_wordOf 164 = .ok (.ireturn, 1) := by decide +kernel
theorem dX7_wordOf_165 : decode cX7_wordOf 165 = .ok (.lload_n 0, 1) := by decide +kernel
theorem dX7_wordOf_166 : decode cX7_wordOf 166 = .ok (.ldc2_w 238, 3) := by decide +kernel
theorem dX7_wordOf_169 : decode cX7_wordOf 169 = .ok (.lcmp, 1) := by decide +kernel
theorem dX7_wordOf_170 : decode cX7_wordOf 170 = .ok (.ifCond .ne 6, 3) := by decide +kernel
theorem dX7_wordOf_173 : decode cX7_wordOf 173 = .ok (.bipush 112, 2) := by decide +kernel
theorem dX7_wordOf_175 : decode cX7_wordOf 175 = .ok (.ireturn, 1) := by decide +kernel
theorem dX7_wordOf_176 : decode cX7_wordOf 176 = .ok (.iconst 2, 1) := by decide +kernel
theorem dX7_wordOf_177 : decode cX7_wordOf 177 = .ok (.ireturn, 1) := by decide +kernel
theorem dX7_tight_0 : decode cX7_tight 0 = .ok (.iload_n 0, 1) := by decide +kernel
theorem dX7_tight_1 : decode cX7_tight 1 = .ok (.iconst 5, 1) := by decide +kernel
theorem dX7_tight_2 : decode cX7_tight 2 = .ok (.if_icmp .ne 7, 3) := by decide +kernel
theorem dX7_tight_5 : decode cX7_tight 5 = .ok (.iconst 0, 1) := by decide +kernel
theorem dX7_tight_6 : decode cX7_tight 6 = .ok (.goto 7, 3) := by decide +kernel
theorem dX7_tight_9 : decode cX7_tight 9 = .ok (.iload_n 0, 1) := by decide +kernel
theorem dX7_tight_10 : decode cX7_tight 10 = .ok (.bipush 10, 2) := by decide +kernel
theorem dX7_tight_12 : decode cX7_tight 12 = .ok (.idiv, 1) := by decide +kernel
theorem dX7_tight_13 : decode cX7_tight 13 = .ok (.ireturn, 1) := by decide +kernel
theorem dX7_lay_0 : decode cX7_lay 0 = .ok (.aload_n 0, 1) := by decide +kernel
theorem dX7_lay_1 : decode cX7_lay 1 = .ok (.getfield 111, 3) := by decide +kernel
theorem dX7_lay_4 : decode cX7_lay 4 = .ok (.aload_n 0, 1) := by decide +kernel
theorem dX7_lay_5 : decode cX7_lay 5 = .ok (.getfield 240, 3) := by decide +kernel
theorem dX7_lay_8 : decode cX7_lay 8 = .ok (.iload_n 1, 1) := by decide +kernel
theorem dX7_lay_9 : decode cX7_lay 9 = .ok (.iastore, 1) := by decide +kernel
theorem dX7_lay_10 : decode cX7_lay 10 = .ok (.aload_n 0, 1) := by decide +kernel
theorem dX7_lay_11 : decode cX7_lay 11 = .ok (.getfield 114, 3) := by decide +kernel
theorem dX7_lay_14 : decode cX7_lay 14 = .ok (.aload_n 0, 1) := by decide +kernel
theorem dX7_lay_15 : decode cX7_lay 15 = .ok (.getfield 240, 3) := by decide +kernel
theorem dX7_lay_18 : decode cX7_lay 18 = .ok (.iload_n 2, 1) := by decide +kernel
theorem dX7_lay_19 : decode cX7_lay 19 = .ok (.iastore, 1) := by decide +kernel
theorem dX7_lay_20 : decode cX7_lay 20 = .ok (.aload_n 0, 1) := by decide +kernel
theorem dX7_lay_21 : decode cX7_lay 21 = .ok (.dup, 1) := by decide +kernel
theorem dX7_lay_22 : decode cX7_lay 22 = .ok (.getfield 240, 3) := by decide +kernel
theorem dX7_lay_25 : decode cX7_lay 25 = .ok (.iconst 1, 1) := by decide +kernel
theorem dX7_lay_26 : decode cX7_lay 26 = .ok (.iadd, 1) := by decide +kernel
theorem dX7_lay_27 : decode cX7_lay 27 = .ok (.putfield 240, 3) := by decide +kernel
theorem dX7_lay_30 : decode cX7_lay 30 = .ok (.return_, 1) := by decide +kernel
theorem dX7_done_0 : decode cX7_done 0 = .ok (.aload_n 0, 1) := by decide +kernel
theorem dX7_done_1 : decode cX7_done 1 = .ok (.getfield 243, 3) := by decide +kernel
theorem dX7_done_4 : decode cX7_done 4 = .ok (.ifCond .le 48, 3) := by decide +kernel
theorem dX7_done_7 : decode cX7_done 7 = .ok (.aload_n 0, 1) := by decide +kernel
theorem dX7_done_8 : decode cX7_done 8 = .ok (.getfield 117, 3) := by decide +kernel
theorem dX7_done_11 : decode cX7_done 11 = .ok (.aload_n 0, 1) := by decide +kernel
theorem dX7_done_12 : decode cX7_done 12 = .ok (.getfield 243, 3) := by decide +kernel
theorem dX7_done_15 : decode cX7_done 15 = .ok (.iconst 1, 1) := by decide +kernel
theorem dX7_done_16 : decode cX7_done 16 = .ok (.isub, 1) := by decide +kernel
theorem dX7_done_17 : decode cX7_done 17 = .ok (.iaload, 1) := by decide +kernel
theorem dX7_done_18 : decode cX7_done 18 = .ok (.invokestatic 246, 3) := by decide +kernel
theorem dX7_done_21 : decode cX7_done 21 = .ok (.iload_n 1, 1) := by decide +kernel
theorem dX7_done_22 : decode cX7_done 22 = .ok (.if_icmp .lt 30, 3) := by decide +kernel
theorem dX7_done_25 : decode cX7_done 25 = .ok (.aload_n 0, 1) := by decide +kernel
theorem dX7_done_26 : decode cX7_done 26 = .ok (.dup, 1) := by decide +kernel
theorem dX7_done_27 : decode cX7_done 27 = .ok (.getfield 243, 3) := by decide +kernel
theorem dX7_done_30 : decode cX7_done 30 = .ok (.iconst 1, 1) := by decide +kernel
theorem dX7_done_31 : decode cX7_done 31 = .ok (.isub, 1) := by decide +kernel
theorem dX7_done_32 : decode cX7_done 32 = .ok (.putfield 243, 3) := by decide +kernel
theorem dX7_done_35 : decode cX7_done 35 = .ok (.aload_n 0, 1) := by decide +kernel
theorem dX7_done_36 : decode cX7_done 36 = .ok (.aload_n 0, 1) := by decide +kernel
theorem dX7_done_37 : decode cX7_done 37 = .ok (.getfield 117, 3) := by decide +kernel
theorem dX7_done_40 : decode cX7_done 40 = .ok (.aload_n 0, 1) := by decide +kernel
theorem dX7_done_41 : decode cX7_done 41 = .ok (.getfield 243, 3) := by decide +kernel
theorem dX7_done_44 : decode cX7_done 44 = .ok (.iaload, 1) := by decide +kernel
theorem dX7_done_45 : decode cX7_done 45 = .ok (.iconst 0, 1) := by decide +kernel
theorem dX7_done_46 : decode cX7_done 46 = .ok (.invokevirtual 249, 3) := by decide +kernel
theorem dX7_done_49 : decode cX7_done 49 = .ok (.goto (-49), 3) := by decide +kernel
theorem dX7_done_52 : decode cX7_done 52 = .ok (.return_, 1) := by decide +kernel
theorem dX7_opened_0 : decode cX7_opened 0 = .ok (.iconst 0, 1) := by decide +kernel
theorem dX7_opened_1 : decode cX7_opened 1 = .ok (.istore_n 1, 1) := by decide +kernel
theorem dX7_opened_2 : decode cX7_opened 2 = .ok (.iconst 0, 1) := by decide +kernel
theorem dX7_opened_3 : decode cX7_opened 3 = .ok (.istore_n 2, 1) := by decide +kernel
theorem dX7_opened_4 : decode cX7_opened 4 = .ok (.iload_n 2, 1) := by decide +kernel
theorem dX7_opened_5 : decode cX7_opened 5 = .ok (.aload_n 0, 1) := by decide +kernel
theorem dX7_opened_6 : decode cX7_opened 6 = .ok (.getfield 243, 3) := by decide +kernel
theorem dX7_opened_9 : decode cX7_opened 9 = .ok (.if_icmp .ge 49, 3) := by decide +kernel
theorem dX7_opened_12 : decode cX7_opened 12 = .ok (.iload_n 1, 1) := by decide +kernel
theorem dX7_opened_13 : decode cX7_opened 13 = .ok (.aload_n 0, 1) := by decide +kernel
theorem dX7_opened_14 : decode cX7_opened 14 = .ok (.getfield 117, 3) := by decide +kernel
theorem dX7_opened_17 : decode cX7_opened 17 = .ok (.iload_n 2, 1) := by decide +kernel
theorem dX7_opened_18 : decode cX7_opened 18 = .ok (.iaload, 1) := by decide +kernel
theorem dX7_opened_19 : decode cX7_opened 19 = .ok (.iconst 5, 1) := by decide +kernel
theorem dX7_opened_20 : decode cX7_opened 20 = .ok (.if_icmp .eq 25, 3) := by decide +kernel
theorem dX7_opened_23 : decode cX7_opened 23 = .ok (.aload_n 0, 1) := by decide +kernel
theorem dX7_opened_24 : decode cX7_opened 24 = .ok (.getfield 117, 3) := by decide +kernel
theorem dX7_opened_27 : decode cX7_opened 27 = .ok (.iload_n 2, 1) := by decide +kernel
theorem dX7_opened_28 : decode cX7_opened 28 = .ok (.iaload, 1) := by decide +kernel
theorem dX7_opened_29 : decode cX7_opened 29 = .ok (.bipush 30, 2) := by decide +kernel
theorem dX7_opened_31 : decode cX7_opened 31 = .ok (.if_icmp .eq 14, 3) := by decide +kernel
theorem dX7_opened_34 : decode cX7_opened 34 = .ok (.aload_n 0, 1) := by decide +kernel
theorem dX7_opened_35 : decode cX7_opened 35 = .ok (.getfield 117, 3) := by decide +kernel
theorem dX7_opened_38 : decode cX7_opened 38 = .ok (.iload_n 2, 1) := by decide +kernel
theorem dX7_opened_39 : decode cX7_opened 39 = .ok (.iaload, 1) := by decide +kernel
theorem dX7_opened_40 : decode cX7_opened 40 = .ok (.bipush 70, 2) := by decide +kernel
theorem dX7_opened_42 : decode cX7_opened 42 = .ok (.if_icmp .ne 7, 3) := by decide +kernel
theorem dX7_opened_45 : decode cX7_opened 45 = .ok (.iconst 1, 1) := by decide +kernel
theorem dX7_opened_46 : decode cX7_opened 46 = .ok (.goto 4, 3) := by decide +kernel
theorem dX7_opened_49 : decode cX7_opened 49 = .ok (.iconst 0, 1) := by decide +kernel
theorem dX7_opened_50 : decode cX7_opened 50 = .ok (.iadd, 1) := by decide +kernel
theorem dX7_opened_51 : decode cX7_opened 51 = .ok (.istore_n 1, 1) := by decide +kernel
theorem dX7_opened_52 : decode cX7_opened 52 = .ok (.iinc 2 1, 3) := by decide +kernel
theorem dX7_opened_55 : decode cX7_opened 55 = .ok (.goto (-51), 3) := by decide +kernel
theorem dX7_opened_58 : decode cX7_opened 58 = .ok (.iload_n 1, 1) := by decide +kernel
theorem dX7_opened_59 : decode cX7_opened 59 = .ok (.ireturn, 1) := by decide +kernel
theorem dX7_isWaiting_0 : decode cX7_isWaiting 0 = .ok (.aload_n 0, 1) := by decide +kernel
theorem dX7_isWaiting_1 : decode cX7_isWaiting 1 = .ok (.getfield 243, 3) := by decide +kernel
theorem dX7_isWaiting_4 : decode cX7_isWaiting 4 = .ok (.ifCond .le 25, 3) := by decide +kernel
theorem dX7_isWaiting_7 : decode cX7_isWaiting 7 = .ok (.aload_n 0, 1) := by decide +kernel
theorem dX7_isWaiting_8 : decode cX7_isWaiting 8 = .ok (.getfield 117, 3) := by decide +kernel
theorem dX7_isWaiting_11 : decode cX7_isWaiting 11 = .ok (.aload_n 0, 1) := by decide +kernel
theorem dX7_isWaiting_12 : decode cX7_isWaiting 12 = .ok (.getfield 243, 3) := by decide +kernel
theorem dX7_isWaiting_15 : decode cX7_isWaiting 15 = .ok (.iconst 1, 1) := by decide +kernel
theorem dX7_isWaiting_16 : decode cX7_isWaiting 16 = .ok (.isub, 1) := by decide +kernel
theorem dX7_isWaiting_17 : decode cX7_isWaiting 17 = .ok (.iaload, 1) := by decide +kernel
theorem dX7_isWaiting_18 : decode cX7_isWaiting 18 = .ok (.invokestatic 246, 3) := by decide +kernel
theorem dX7_isWaiting_21 : decode cX7_isWaiting 21 = .ok (.iload_n 1, 1) := by decide +kernel
theorem dX7_isWaiting_22 : decode cX7_isWaiting 22 = .ok (.if_icmp .ne 7, 3) := by decide +kernel
theorem dX7_isWaiting_25 : decode cX7_isWaiting 25 = .ok (.iconst 1, 1) := by decide +kernel
theorem dX7_isWaiting_26 : decode cX7_isWaiting 26 = .ok (.goto 4, 3) := by decide +kernel
theorem dX7_isWaiting_29 : decode cX7_isWaiting 29 = .ok (.iconst 0, 1) := by decide +kernel
theorem dX7_isWaiting_30 : decode cX7_isWaiting 30 = .ok (.ireturn, 1) := by decide +kernel
theorem dX7_read_0 : decode cX7_read 0 = .ok (.aload_n 0, 1) := by decide +kernel
theorem dX7_read_1 : decode cX7_read 1 = .ok (.iconst 0, 1) := by decide +kernel
theorem dX7_read_2 : decode cX7_read 2 = .ok (.putfield 178, 3) := by decide +kernel
theorem dX7_read_5 : decode cX7_read 5 = .ok (.aload_n 0, 1) := by decide +kernel
theorem dX7_read_6 : decode cX7_read 6 = .ok (.iconst (-1), 1) := by decide +kernel
theorem dX7_read_7 : decode cX7_read 7 = .ok (.putfield 253, 3) := by decide +kernel
theorem dX7_read_10 : decode cX7_read 10 = .ok (.aload_n 0, 1) := by decide +kernel
theorem dX7_read_11 : decode cX7_read 11 = .ok (.iconst 0, 1) := by decide +kernel
theorem dX7_read_12 : decode cX7_read 12 = .ok (.putfield 243, 3) := by decide +kernel
theorem dX7_read_15 : decode cX7_read 15 = .ok (.aload_n 0, 1) := by decide +kernel
theorem dX7_read_16 : decode cX7_read 16 = .ok (.aload_n 0, 1) := by decide +kernel
theorem dX7_read_17 : decode cX7_read 17 = .ok (.getfield 108, 3) := by decide +kernel
theorem dX7_read_20 : decode cX7_read 20 = .ok (.aload_n 0, 1) := by decide +kernel
theorem dX7_read_21 : decode cX7_read 21 = .ok (.getfield 256, 3) := by decide +kernel
theorem dX7_read_24 : decode cX7_read 24 = .ok (.iaload, 1) := by decide +kernel
theorem dX7_read_25 : decode cX7_read 25 = .ok (.putfield 240, 3) := by decide +kernel
theorem dX7_read_28 : decode cX7_read 28 = .ok (.iconst 1, 1) := by decide +kernel
theorem dX7_read_29 : decode cX7_read 29 = .ok (.istore_n 1, 1) := by decide +kernel
theorem dX7_read_30 : decode cX7_read 30 = .ok (.iconst 1, 1) := by decide +kernel
theorem dX7_read_31 : decode cX7_read 31 = .ok (.istore_n 2, 1) := by decide +kernel
theorem dX7_read_32 : decode cX7_read 32 = .ok (.iconst 1, 1) := by decide +kernel
theorem dX7_read_33 : decode cX7_read 33 = .ok (.istore_n 3, 1) := by decide +kernel
theorem dX7_read_34 : decode cX7_read 34 = .ok (.aload_n 0, 1) := by decide +kernel
theorem dX7_read_35 : decode cX7_read 35 = .ok (.invokevirtual 259, 3) := by decide +kernel
theorem dX7_read_38 : decode cX7_read 38 = .ok (.iload_n 3, 1) := by decide +kernel
theorem dX7_read_39 : decode cX7_read 39 = .ok (.ifCond .eq 375, 3) := by decide +kernel
theorem dX7_read_42 : decode cX7_read 42 = .ok (.aload_n 0, 1) := by decide +kernel
theorem dX7_read_43 : decode cX7_read 43 = .ok (.getfield 253, 3) := by decide +kernel
theorem dX7_read_46 : decode cX7_read 46 = .ok (.ifCond .ge 368, 3) := by decide +kernel
theorem dX7_read_49 : decode cX7_read 49 = .ok (.iload_n 1, 1) := by decide +kernel
theorem dX7_read_50 : decode cX7_read 50 = .ok (.ifCond .eq 149, 3) := by decide +kernel
theorem dX7_read_53 : decode cX7_read 53 = .ok (.aload_n 0, 1) := by decide +kernel
theorem dX7_read_54 : decode cX7_read 54 = .ok (.getfield 184, 3) := by decide +kernel
theorem dX7_read_57 : decode cX7_read 57 = .ok (.bipush 30, 2) := by decide +kernel
theorem dX7_read_59 : decode cX7_read 59 = .ok (.if_icmp .ne 7, 3) := by decide +kernel
theorem dX7_read_62 : decode cX7_read 62 = .ok (.iload_n 2, 1) := by decide +kernel
theorem dX7_read_63 : decode cX7_read 63 = .ok (.ifCond .ne 20, 3) := by decide +kernel
theorem dX7_read_66 : decode cX7_read 66 = .ok (.aload_n 0, 1) := by decide +kernel
theorem dX7_read_67 : decode cX7_read 67 = .ok (.getfield 184, 3) := by decide +kernel
theorem dX7_read_70 : decode cX7_read 70 = .ok (.bipush 51, 2) := by decide +kernel
theorem dX7_read_72 : decode cX7_read 72 = .ok (.if_icmp .eq 11, 3) := by decide +kernel
theorem dX7_read_75 : decode cX7_read 75 = .ok (.aload_n 0, 1) := by decide +kernel
theorem dX7_read_76 : decode cX7_read 76 = .ok (.getfield 184, 3) := by decide +kernel
theorem dX7_read_79 : decode cX7_read 79 = .ok (.iconst 5, 1) := by decide +kernel
theorem dX7_read_80 : decode cX7_read 80 = .ok (.if_icmp .ne 76, 3) := by decide +kernel
theorem dX7_read_83 : decode cX7_read 83 = .ok (.aload_n 0, 1) := by decide +kernel
theorem dX7_read_84 : decode cX7_read 84 = .ok (.invokevirtual 262, 3) := by decide +kernel
theorem dX7_read_87 : decode cX7_read 87 = .ok (.bipush 12, 2) := by decide +kernel
theorem dX7_read_89 : decode cX7_read 89 = .ok (.if_icmp .ne 8, 3) := by decide +kernel
theorem dX7_read_92 : decode cX7_read 92 = .ok (.aload_n 0, 1) := by decide +kernel
theorem dX7_read_93 : decode cX7_read 93 = .ok (.getfield 181, 3) := by decide +kernel
theorem dX7_read_96 : decode cX7_read 96 = .ok (.ireturn, 1) := by decide +kernel
theorem dX7_read_97 : decode cX7_read 97 = .ok (.aload_n 0, 1) := by decide +kernel
theorem dX7_read_98 : decode cX7_read 98 = .ok (.getfield 117, 3) := by decide +kernel
theorem dX7_read_101 : decode cX7_read 101 = .ok (.aload_n 0, 1) := by decide +kernel
theorem dX7_read_102 : decode cX7_read 102 = .ok (.getfield 243, 3) := by decide +kernel
theorem dX7_read_105 : decode cX7_read 105 = .ok (.aload_n 0, 1) := by decide +kernel
theorem dX7_read_106 : decode cX7_read 106 = .ok (.getfield 184, 3) := by decide +kernel
theorem dX7_read_109 : decode cX7_read 109 = .ok (.bipush 51, 2) := by decide +kernel
theorem dX7_read_111 : decode cX7_read 111 = .ok (.if_icmp .ne 8, 3) := by decide +kernel
theorem dX7_read_114 : decode cX7_read 114 = .ok (.bipush 70, 2) := by decide +kernel
theorem dX7_read_116 : decode cX7_read 116 = .ok (.goto 7, 3) := by decide +kernel
theorem dX7_read_119 : decode cX7_read 119 = .ok (.aload_n 0, 1) := by decide +kernel
theorem dX7_read_120 : decode cX7_read 120 = .ok (.getfield 184, 3) := by decide +kernel
theorem dX7_read_123 : decode cX7_read 123 = .ok (.iastore, 1) := by decide +kernel
theorem dX7_read_124 : decode cX7_read 124 = .ok (.aload_n 0, 1) := by decide +kernel
theorem dX7_read_125 : decode cX7_read 125 = .ok (.dup, 1) := by decide +kernel
theorem dX7_read_126 : decode cX7_read 126 = .ok (.getfield 243, 3) := by decide +kernel
theorem dX7_read_129 : decode cX7_read 129 = .ok (.iconst 1, 1) := by decide +kernel
theorem dX7_read_130 : decode cX7_read 130 = .ok (.iadd, 1) := by decide +kernel
theorem dX7_read_131 : decode cX7_read 131 = .ok (.putfield 243, 3) := by decide +kernel
theorem dX7_read_134 : decode cX7_read 134 = .ok (.aload_n 0, 1) := by decide +kernel
theorem dX7_read_135 : decode cX7_read 135 = .ok (.getfield 184, 3) := by decide +kernel
theorem dX7_read_138 : decode cX7_read 138 = .ok (.bipush 51, 2) := by decide +kernel
theorem dX7_read_140 : decode cX7_read 140 = .ok (.if_icmp .eq 7, 3) := by decide +kernel
theorem dX7_read_143 : decode cX7_read 143 = .ok (.iconst 1, 1) := by decide +kernel
theorem dX7_read_144 : decode cX7_read 144 = .ok (.goto 4, 3) := by decide +kernel
theorem dX7_read_147 : decode cX7_read 147 = .ok (.iconst 0, 1) := by decide +kernel
theorem dX7_read_148 : decode cX7_read 148 = .ok (.istore_n 2, 1) := by decide +kernel
theorem dX7_read_149 : decode cX7_read 149 = .ok (.aload_n 0, 1) := by decide +kernel
theorem dX7_read_150 : decode cX7_read 150 = .ok (.invokevirtual 259, 3) := by decide +kernel
theorem dX7_read_153 : decode cX7_read 153 = .ok (.goto (-115), 3) := by decide +kernel
theorem dX7_read_156 : decode cX7_read 156 = .ok (.aload_n 0, 1) := by decide +kernel
theorem dX7_read_157 : decode cX7_read 157 = .ok (.getfield 184, 3) := by decide +kernel
theorem dX7_read_160 : decode cX7_read 160 = .ok (.iconst 1, 1) := by decide +kernel
theorem dX7_read_161 : decode cX7_read 161 = .ok (.if_icmp .eq 17, 3) := by decide +kernel
theorem dX7_read_164 : decode cX7_read 164 = .ok (.aload_n 0, 1) := by decide +kernel
theorem dX7_read_165 : decode cX7_read 165 = .ok (.getfield 184, 3) := by decide +kernel
theorem dX7_read_168 : decode cX7_read 168 = .ok (.bipush 100, 2) := by decide +kernel
theorem dX7_read_170 : decode cX7_read 170 = .ok (.if_icmp .ge 8, 3) := by decide +kernel
theorem dX7_read_173 : decode cX7_read 173 = .ok (.aload_n 0, 1) := by decide +kernel
theorem dX7_read_174 : decode cX7_read 174 = .ok (.getfield 181, 3) := by decide +kernel
theorem dX7_read_177 : decode cX7_read 177 = .ok (.ireturn, 1) := by decide +kernel
theorem dX7_read_178 : decode cX7_read 178 = .ok (.aload_n 0, 1) := by decide +kernel
theorem dX7_read_179 : decode cX7_read 179 = .ok (.aload_n 0, 1) := by decide +kernel
theorem dX7_read_180 : decode cX7_read 180 = .ok (.getfield 184, 3) := by decide +kernel
theorem dX7_read_183 : decode cX7_read 183 = .ok (.aload_n 0, 1) := by decide +kernel
theorem dX7_read_184 : decode cX7_read 184 = .ok (.getfield 201, 3) := by decide +kernel
theorem dX7_read_187 : decode cX7_read 187 = .ok (.invokevirtual 249, 3) := by decide +kernel
theorem dX7_read_190 : decode cX7_read 190 = .ok (.iconst 0, 1) := by decide +kernel
theorem dX7_read_191 : decode cX7_read 191 = .ok (.istore_n 1, 1) := by decide +kernel
theorem dX7_read_192 : decode cX7_read 192 = .ok (.aload_n 0, 1) := by decide +kernel
theorem dX7_read_193 : decode cX7_read 193 = .ok (.invokevirtual 259, 3) := by decide +kernel
theorem dX7_read_196 : decode cX7_read 196 = .ok (.goto (-158), 3) := by decide +kernel
theorem dX7_read_199 : decode cX7_read 199 = .ok (.aload_n 0, 1) := by decide +kernel
theorem dX7_read_200 : decode cX7_read 200 = .ok (.getfield 184, 3) := by decide +kernel
theorem dX7_read_203 : decode cX7_read 203 = .ok (.bipush 6, 2) := by decide +kernel
theorem dX7_read_205 : decode cX7_read 205 = .ok (.if_icmp .ne 37, 3) := by decide +kernel
theorem dX7_read_208 : decode cX7_read 208 = .ok (.aload_n 0, 1) := by decide +kernel
theorem dX7_read_209 : decode cX7_read 209 = .ok (.iconst 1, 1) := by decide +kernel
theorem dX7_read_210 : decode cX7_read 210 = .ok (.invokevirtual 266, 3) := by decide +kernel
theorem dX7_read_213 : decode cX7_read 213 = .ok (.aload_n 0, 1) := by decide +kernel
theorem dX7_read_214 : decode cX7_read 214 = .ok (.getfield 243, 3) := by decide +kernel
theorem dX7_read_217 : decode cX7_read 217 = .ok (.ifCond .ne 8, 3) := by decide +kernel
theorem dX7_read_220 : decode cX7_read 220 = .ok (.aload_n 0, 1) := by decide +kernel
theorem dX7_read_221 : decode cX7_read 221 = .ok (.getfield 181, 3) := by decide +kernel
theorem dX7_read_224 : decode cX7_read 224 = .ok (.ireturn, 1) := by decide +kernel
theorem dX7_read_225 : decode cX7_read 225 = .ok (.aload_n 0, 1) := by decide +kernel
theorem dX7_read_226 : decode cX7_read 226 = .ok (.dup, 1) := by decide +kernel
theorem dX7_read_227 : decode cX7_read 227 = .ok (.getfield 243, 3) := by decide +kernel
theorem dX7_read_230 : decode cX7_read 230 = .ok (.iconst 1, 1) := by decide +kernel
theorem dX7_read_231 : decode cX7_read 231 = .ok (.isub, 1) := by decide +kernel
theorem dX7_read_232 : decode cX7_read 232 = .ok (.putfield 243, 3) := by decide +kernel
theorem dX7_read_235 : decode cX7_read 235 = .ok (.aload_n 0, 1) := by decide +kernel
theorem dX7_read_236 : decode cX7_read 236 = .ok (.invokevirtual 259, 3) := by decide +kernel
theorem dX7_read_239 : decode cX7_read 239 = .ok (.goto (-201), 3) := by decide +kernel
theorem dX7_read_242 : decode cX7_read 242 = .ok (.aload_n 0, 1) := by decide +kernel
theorem dX7_read_243 : decode cX7_read 243 = .ok (.getfield 184, 3) := by decide +kernel
theorem dX7_read_246 : decode cX7_read 246 = .ok (.ifCond .ne 24, 3) := by decide +kernel
theorem dX7_read_249 : decode cX7_read 249 = .ok (.aload_n 0, 1) := by decide +kernel
theorem dX7_read_250 : decode cX7_read 250 = .ok (.iconst 1, 1) := by decide +kernel
theorem dX7_read_251 : decode cX7_read 251 = .ok (.invokevirtual 266, 3) := by decide +kernel
theorem dX7_read_254 : decode cX7_read 254 = .ok (.aload_n 0, 1) := by decide +kernel
theorem dX7_read_255 : decode cX7_read 255 = .ok (.getfield 243, 3) := by decide +kernel
theorem dX7_read_258 : decode cX7_read 258 = .ok (.ifCond .ne 7, 3) := by decide +kernel
theorem dX7_read_261 : decode cX7_read 261 = .ok (.iconst (-1), 1) := by decide +kernel
theorem dX7_read_262 : decode cX7_read 262 = .ok (.goto 7, 3) := by decide +kernel
theorem dX7_read_265 : decode cX7_read 265 = .ok (.aload_n 0, 1) := by decide +kernel
theorem dX7_read_266 : decode cX7_read 266 = .ok (.getfield 181, 3) := by decide +kernel
theorem dX7_read_269 : decode cX7_read 269 = .ok (.ireturn, 1) := by decide +kernel
theorem dX7_read_270 : decode cX7_read 270 = .ok (.aload_n 0, 1) := by decide +kernel
theorem dX7_read_271 : decode cX7_read 271 = .ok (.getfield 184, 3) := by decide +kernel
theorem dX7_read_274 : decode cX7_read 274 = .ok (.bipush 10, 2) := by decide +kernel
theorem dX7_read_276 : decode cX7_read 276 = .ok (.if_icmp .lt 21, 3) := by decide +kernel
theorem dX7_read_279 : decode cX7_read 279 = .ok (.aload_n 0, 1) := by decide +kernel
theorem dX7_read_280 : decode cX7_read 280 = .ok (.getfield 184, 3) := by decide +kernel
theorem dX7_read_283 : decode cX7_read 283 = .ok (.bipush 70, 2) := by decide +kernel
theorem dX7_read_285 : decode cX7_read 285 = .ok (.if_icmp .ge 12, 3) := by decide +kernel
theorem dX7_read_288 : decode cX7_read 288 = .ok (.aload_n 0, 1) := by decide +kernel
theorem dX7_read_289 : decode cX7_read 289 = .ok (.getfield 184, 3) := by decide +kernel
theorem dX7_read_292 : decode cX7_read 292 = .ok (.bipush 30, 2) := by decide +kernel
theorem dX7_read_294 : decode cX7_read 294 = .ok (.if_icmp .ne 8, 3) := by decide +kernel
theorem dX7_read_297 : decode cX7_read 297 = .ok (.aload_n 0, 1) := by decide +kernel
theorem dX7_read_298 : decode cX7_read 298 = .ok (.getfield 181, 3) := by decide +kernel
theorem dX7_read_301 : decode cX7_read 301 = .ok (.ireturn, 1) := by decide +kernel
theorem dX7_read_302 : decode cX7_read 302 = .ok (.aload_n 0, 1) := by decide +kernel
theorem dX7_read_303 : decode cX7_read 303 = .ok (.getfield 184, 3) := by decide +kernel
theorem dX7_read_306 : decode cX7_read 306 = .ok (.invokestatic 246, 3) := by decide +kernel
theorem dX7_read_309 : decode cX7_read 309 = .ok (.iconst 4, 1) := by decide +kernel
theorem dX7_read_310 : decode cX7_read 310 = .ok (.if_icmp .ne 7, 3) := by decide +kernel
theorem dX7_read_313 : decode cX7_read 313 = .ok (.iconst 1, 1) := by decide +kernel
theorem dX7_read_314 : decode cX7_read 314 = .ok (.goto 4, 3) := by decide +kernel
theorem dX7_read_317 : decode cX7_read 317 = .ok (.iconst 0, 1) := by decide +kernel
theorem dX7_read_318 : decode cX7_read 318 = .ok (.istore 4, 2) := by decide +kernel
theorem dX7_read_320 : decode cX7_read 320 = .ok (.aload_n 0, 1) := by decide +kernel
theorem dX7_read_321 : decode cX7_read 321 = .ok (.iload 4, 2) := by decide +kernel
theorem dX7_read_323 : decode cX7_read 323 = .ok (.ifCond .eq 7, 3) := by decide +kernel
theorem dX7_read_326 : decode cX7_read 326 = .ok (.iconst 5, 1) := by decide +kernel
theorem dX7_read_327 : decode cX7_read 327 = .ok (.goto 10, 3) := by decide +kernel
theorem dX7_read_330 : decode cX7_read 330 = .ok (.aload_n 0, 1) := by decide +kernel
theorem dX7_read_331 : decode cX7_read 331 = .ok (.getfield 184, 3) := by decide +kernel
theorem dX7_read_334 : decode cX7_read 334 = .ok (.invokestatic 246, 3) := by decide +kernel
theorem dX7_read_337 : decode cX7_read 337 = .ok (.invokevirtual 266, 3) := by decide +kernel
theorem dX7_read_340 : decode cX7_read 340 = .ok (.iload 4, 2) := by decide +kernel
theorem dX7_read_342 : decode cX7_read 342 = .ok (.ifCond .eq 16, 3) := by decide +kernel
theorem dX7_read_345 : decode cX7_read 345 = .ok (.aload_n 0, 1) := by decide +kernel
theorem dX7_read_346 : decode cX7_read 346 = .ok (.iconst 4, 1) := by decide +kernel
theorem dX7_read_347 : decode cX7_read 347 = .ok (.invokevirtual 270, 3) := by decide +kernel
theorem dX7_read_350 : decode cX7_read 350 = .ok (.ifCond .eq 8, 3) := by decide +kernel
theorem dX7_read_353 : decode cX7_read 353 = .ok (.aload_n 0, 1) := by decide +kernel
theorem dX7_read_354 : decode cX7_read 354 = .ok (.getfield 181, 3) := by decide +kernel
theorem dX7_read_357 : decode cX7_read 357 = .ok (.ireturn, 1) := by decide +kernel
theorem dX7_read_358 : decode cX7_read 358 = .ok (.aload_n 0, 1) := by decide +kernel
theorem dX7_read_359 : decode cX7_read 359 = .ok (.getfield 117, 3) := by decide +kernel
theorem dX7_read_362 : decode cX7_read 362 = .ok (.aload_n 0, 1) := by decide +kernel
theorem dX7_read_363 : decode cX7_read 363 = .ok (.getfield 243, 3) := by decide +kernel
theorem dX7_read_366 : decode cX7_read 366 = .ok (.aload_n 0, 1) := by decide +kernel
theorem dX7_read_367 : decode cX7_read 367 = .ok (.getfield 184, 3) := by decide +kernel
theorem dX7_read_370 : decode cX7_read 370 = .ok (.iastore, 1) := by decide +kernel
theorem dX7_read_371 : decode cX7_read 371 = .ok (.aload_n 0, 1) := by decide +kernel
theorem dX7_read_372 : decode cX7_read 372 = .ok (.dup, 1) := by decide +kernel
theorem dX7_read_373 : decode cX7_read 373 = .ok (.getfield 243, 3) := by decide +kernel
theorem dX7_read_376 : decode cX7_read 376 = .ok (.iconst 1, 1) := by decide +kernel
theorem dX7_read_377 : decode cX7_read 377 = .ok (.iadd, 1) := by decide +kernel
theorem dX7_read_378 : decode cX7_read 378 = .ok (.putfield 243, 3) := by decide +kernel
theorem dX7_read_381 : decode cX7_read 381 = .ok (.iconst 1, 1) := by decide +kernel
theorem dX7_read_382 : decode cX7_read 382 = .ok (.istore_n 1, 1) := by decide +kernel
theorem dX7_read_383 : decode cX7_read 383 = .ok (.aload_n 0, 1) := by decide +kernel
theorem dX7_read_384 : decode cX7_read 384 = .ok (.getfield 184, 3) := by decide +kernel
theorem dX7_read_387 : decode cX7_read 387 = .ok (.bipush 10, 2) := by decide +kernel
theorem dX7_read_389 : decode cX7_read 389 = .ok (.if_icmp .eq 12, 3) := by decide +kernel
theorem dX7_read_392 : decode cX7_read 392 = .ok (.aload_n 0, 1) := by decide +kernel
theorem dX7_read_393 : decode cX7_read 393 = .ok (.getfield 184, 3) := by decide +kernel
theorem dX7_read_396 : decode cX7_read 396 = .ok (.bipush 20, 2) := by decide +kernel
theorem dX7_read_398 : decode cX7_read 398 = .ok (.if_icmp .ne 7, 3) := by decide +kernel
theorem dX7_read_401 : decode cX7_read 401 = .ok (.iconst 1, 1) := by decide +kernel
theorem dX7_read_402 : decode cX7_read 402 = .ok (.goto 4, 3) := by decide +kernel
theorem dX7_read_405 : decode cX7_read 405 = .ok (.iconst 0, 1) := by decide +kernel
theorem dX7_read_406 : decode cX7_read 406 = .ok (.istore_n 2, 1) := by decide +kernel
theorem dX7_read_407 : decode cX7_read 407 = .ok (.aload_n 0, 1) := by decide +kernel
theorem dX7_read_408 : decode cX7_read 408 = .ok (.invokevirtual 259, 3) := by decide +kernel
theorem dX7_read_411 : decode cX7_read 411 = .ok (.goto (-373), 3) := by decide +kernel
theorem dX7_read_414 : decode cX7_read 414 = .ok (.aload_n 0, 1) := by decide +kernel
theorem dX7_read_415 : decode cX7_read 415 = .ok (.getfield 253, 3) := by decide +kernel
theorem dX7_read_418 : decode cX7_read 418 = .ok (.ireturn, 1) := by decide +kernel
theorem dX7_vote_0 : decode cX7_vote 0 = .ok (.iload_n 1, 1) := by decide +kernel
theorem dX7_vote_1 : decode cX7_vote 1 = .ok (.iconst 0, 1) := by decide +kernel
theorem dX7_vote_2 : decode cX7_vote 2 = .ok (.iconst 2, 1) := by decide +kernel
theorem dX7_vote_3 : decode cX7_vote 3 = .ok (.invokestatic 133, 3) := by decide +kernel
theorem dX7_vote_6 : decode cX7_vote 6 = .ok (.ifCond .ne 5, 3) := by decide +kernel
theorem dX7_vote_9 : decode cX7_vote 9 = .ok (.iconst (-1), 1) := by decide +kernel
theorem dX7_vote_10 : decode cX7_vote 10 = .ok (.ireturn, 1) := by decide +kernel
theorem dX7_vote_11 : decode cX7_vote 11 = .ok (.aload_n 0, 1) := by decide +kernel
theorem dX7_vote_12 : decode cX7_vote 12 = .ok (.getfield 256, 3) := by decide +kernel
theorem dX7_vote_15 : decode cX7_vote 15 = .ok (.bipush 30, 2) := by decide +kernel
theorem dX7_vote_17 : decode cX7_vote 17 = .ok (.if_icmp .ne 6, 3) := by decide +kernel
theorem dX7_vote_20 : decode cX7_vote 20 = .ok (.bipush (-3), 2) := by decide +kernel
theorem dX7_vote_22 : decode cX7_vote 22 = .ok (.ireturn, 1) := by decide +kernel
theorem dX7_vote_23 : decode cX7_vote 23 = .ok (.aload_n 0, 1) := by decide +kernel
theorem dX7_vote_24 : decode cX7_vote 24 = .ok (.invokevirtual 273, 3) := by decide +kernel
theorem dX7_vote_27 : decode cX7_vote 27 = .ok (.istore_n 2, 1) := by decide +kernel
theorem dX7_vote_28 : decode cX7_vote 28 = .ok (.aload_n 0, 1) := by decide +kernel
theorem dX7_vote_29 : decode cX7_vote 29 = .ok (.iconst 0, 1) := by decide +kernel
theorem dX7_vote_30 : decode cX7_vote 30 = .ok (.putfield 175, 3) := by decide +kernel
theorem dX7_vote_33 : decode cX7_vote 33 = .ok (.iload_n 2, 1) := by decide +kernel
theorem dX7_vote_34 : decode cX7_vote 34 = .ok (.ifCond .lt 8, 3) := by decide +kernel
theorem dX7_vote_37 : decode cX7_vote 37 = .ok (.bipush (-100), 2) := by decide +kernel
theorem dX7_vote_39 : decode cX7_vote 39 = .ok (.iload_n 2, 1) := by decide +kernel
theorem dX7_vote_40 : decode cX7_vote 40 = .ok (.isub, 1) := by decide +kernel
theorem dX7_vote_41 : decode cX7_vote 41 = .ok (.ireturn, 1) := by decide +kernel
theorem dX7_vote_42 : decode cX7_vote 42 = .ok (.aload_n 0, 1) := by decide +kernel
theorem dX7_vote_43 : decode cX7_vote 43 = .ok (.getfield 102, 3) := by decide +kernel
theorem dX7_vote_46 : decode cX7_vote 46 = .ok (.aload_n 0, 1) := by decide +kernel
theorem dX7_vote_47 : decode cX7_vote 47 = .ok (.getfield 256, 3) := by decide +kernel
theorem dX7_vote_50 : decode cX7_vote 50 = .ok (.iload_n 1, 1) := by decide +kernel
theorem dX7_vote_51 : decode cX7_vote 51 = .ok (.iastore, 1) := by decide +kernel
theorem dX7_vote_52 : decode cX7_vote 52 = .ok (.aload_n 0, 1) := by decide +kernel
theorem dX7_vote_53 : decode cX7_vote 53 = .ok (.getfield 105, 3) := by decide +kernel
theorem dX7_vote_56 : decode cX7_vote 56 = .ok (.aload_n 0, 1) := by decide +kernel
theorem dX7_vote_57 : decode cX7_vote 57 = .ok (.getfield 256, 3) := by decide +kernel
theorem dX7_vote_60 : decode cX7_vote 60 = .ok (.aload_n 0, 1) := by decide +kernel
theorem dX7_vote_61 : decode cX7_vote 61 = .ok (.getfield 165, 3) := by decide +kernel
theorem dX7_vote_64 : decode cX7_vote 64 = .ok (.iastore, 1) := by decide +kernel
theorem dX7_vote_65 : decode cX7_vote 65 = .ok (.aload_n 0, 1) := by decide +kernel
theorem dX7_vote_66 : decode cX7_vote 66 = .ok (.dup, 1) := by decide +kernel
theorem dX7_vote_67 : decode cX7_vote 67 = .ok (.getfield 256, 3) := by decide +kernel
theorem dX7_vote_70 : decode cX7_vote 70 = .ok (.iconst 1, 1) := by decide +kernel
theorem dX7_vote_71 : decode cX7_vote 71 = .ok (.iadd, 1) := by decide +kernel
theorem dX7_vote_72 : decode cX7_vote 72 = .ok (.putfield 256, 3) := by decide +kernel
theorem dX7_vote_75 : decode cX7_vote 75 = .ok (.aload_n 0, 1) := by decide +kernel
theorem dX7_vote_76 : decode cX7_vote 76 = .ok (.getfield 108, 3) := by decide +kernel
theorem dX7_vote_79 : decode cX7_vote 79 = .ok (.aload_n 0, 1) := by decide +kernel
theorem dX7_vote_80 : decode cX7_vote 80 = .ok (.getfield 256, 3) := by decide +kernel
theorem dX7_vote_83 : decode cX7_vote 83 = .ok (.aload_n 0, 1) := by decide +kernel
theorem dX7_vote_84 : decode cX7_vote 84 = .ok (.getfield 240, 3) := by decide +kernel
theorem dX7_vote_87 : decode cX7_vote 87 = .ok (.iastore, 1) := by decide +kernel
theorem dX7_vote_88 : decode cX7_vote 88 = .ok (.aload_n 0, 1) := by decide +kernel
theorem dX7_vote_89 : decode cX7_vote 89 = .ok (.getfield 256, 3) := by decide +kernel
theorem dX7_vote_92 : decode cX7_vote 92 = .ok (.ireturn, 1) := by decide +kernel
theorem dX7_knownAt_0 : decode cX7_knownAt 0 = .ok (.aload_n 0, 1) := by decide +kernel
theorem dX7_knownAt_1 : decode cX7_knownAt 1 = .ok (.getfield 256, 3) := by decide +kernel
theorem dX7_knownAt_4 : decode cX7_knownAt 4 = .ok (.iconst 1, 1) := by decide +kernel
theorem dX7_knownAt_5 : decode cX7_knownAt 5 = .ok (.isub, 1) := by decide +kernel
theorem dX7_knownAt_6 : decode cX7_knownAt 6 = .ok (.istore_n 3, 1) := by decide +kernel
theorem dX7_knownAt_7 : decode cX7_knownAt 7 = .ok (.iload_n 3, 1) := by decide +kernel
theorem dX7_knownAt_8 : decode cX7_knownAt 8 = .ok (.ifCond .lt 41, 3) := by decide +kernel
theorem dX7_knownAt_11 : decode cX7_knownAt 11 = .ok (.aload_n 0, 1) := by decide +kernel
theorem dX7_knownAt_12 : decode cX7_knownAt 12 = .ok (.getfield 102, 3) := by decide +kernel
theorem dX7_knownAt_15 : decode cX7_knownAt 15 = .ok (.iload_n 3, 1) := by decide +kernel
theorem dX7_knownAt_16 : decode cX7_knownAt 16 = .ok (.iaload, 1) := by decide +kernel
theorem dX7_knownAt_17 : decode cX7_knownAt 17 = .ok (.iload_n 1, 1) := by decide +kernel
theorem dX7_knownAt_18 : decode cX7_knownAt 18 = .ok (.if_icmp .ne 25, 3) := by decide +kernel
theorem dX7_knownAt_21 : decode cX7_knownAt 21 = .ok (.aload_n 0, 1) := by decide +kernel
theorem dX7_knownAt_22 : decode cX7_knownAt 22 = .ok (.getfield 105, 3) := by decide +kernel
theorem dX7_knownAt_25 : decode cX7_knownAt 25 = .ok (.iload_n 3, 1) := by decide +kernel
theorem dX7_knownAt_26 : decode cX7_knownAt 26 = .ok (.iaload, 1) := by decide +kernel
theorem dX7_knownAt_27 : decode cX7_knownAt 27 = .ok (.aload_n 0, 1) := by decide +kernel
theorem dX7_knownAt_28 : decode cX7_knownAt 28 = .ok (.getfield 165, 3) := by decide +kernel
theorem dX7_knownAt_31 : decode cX7_knownAt 31 = .ok (.aload_n 0, 1) := by decide +kernel
theorem dX7_knownAt_32 : decode cX7_knownAt 32 = .ok (.getfield 16, 3) := by decide +kernel
theorem dX7_knownAt_35 : decode cX7_knownAt 35 = .ok (.iload_n 2, 1) := by decide +kernel
theorem dX7_knownAt_36 : decode cX7_knownAt 36 = .ok (.iaload, 1) := by decide +kernel
theorem dX7_knownAt_37 : decode cX7_knownAt 37 = .ok (.isub, 1) := by decide +kernel
theorem dX7_knownAt_38 : decode cX7_knownAt 38 = .ok (.if_icmp .gt 5, 3) := by decide +kernel
theorem dX7_knownAt_41 : decode cX7_knownAt 41 = .ok (.iload_n 3, 1) := by decide +kernel
theorem dX7_knownAt_42 : decode cX7_knownAt 42 = .ok (.ireturn, 1) := by decide +kernel
theorem dX7_knownAt_43 : decode cX7_knownAt 43 = .ok (.iinc 3 (-1), 3) := by decide +kernel
theorem dX7_knownAt_46 : decode cX7_knownAt 46 = .ok (.goto (-39), 3) := by decide +kernel
theorem dX7_knownAt_49 : decode cX7_knownAt 49 = .ok (.bipush (-2), 2) := by decide +kernel
theorem dX7_knownAt_51 : decode cX7_knownAt 51 = .ok (.ireturn, 1) := by decide +kernel
theorem dX7_known_0 : decode cX7_known 0 = .ok (.iload_n 1, 1) := by decide +kernel
theorem dX7_known_1 : decode cX7_known 1 = .ok (.iconst 0, 1) := by decide +kernel
theorem dX7_known_2 : decode cX7_known 2 = .ok (.iconst 2, 1) := by decide +kernel
theorem dX7_known_3 : decode cX7_known 3 = .ok (.invokestatic 133, 3) := by decide +kernel
theorem dX7_known_6 : decode cX7_known 6 = .ok (.ifCond .eq 11, 3) := by decide +kernel
theorem dX7_known_9 : decode cX7_known 9 = .ok (.aload_n 0, 1) := by decide +kernel
theorem dX7_known_10 : decode cX7_known 10 = .ok (.iload_n 2, 1) := by decide +kernel
theorem dX7_known_11 : decode cX7_known 11 = .ok (.invokevirtual 162, 3) := by decide +kernel
theorem dX7_known_14 : decode cX7_known 14 = .ok (.ifCond .ne 7, 3) := by decide +kernel
theorem dX7_known_17 : decode cX7_known 17 = .ok (.iconst (-1), 1) := by decide +kernel
theorem dX7_known_18 : decode cX7_known 18 = .ok (.goto 9, 3) := by decide +kernel
theorem dX7_known_21 : decode cX7_known 21 = .ok (.aload_n 0, 1) := by decide +kernel
theorem dX7_known_22 : decode cX7_known 22 = .ok (.iload_n 1, 1) := by decide +kernel
theorem dX7_known_23 : decode cX7_known 23 = .ok (.iload_n 2, 1) := by decide +kernel
theorem dX7_known_24 : decode cX7_known 24 = .ok (.invokevirtual 276, 3) := by decide +kernel
theorem dX7_known_27 : decode cX7_known 27 = .ok (.ireturn, 1) := by decide +kernel
theorem dX7_inPort_0 : decode cX7_inPort 0 = .ok (.iconst 0, 1) := by decide +kernel
theorem dX7_inPort_1 : decode cX7_inPort 1 = .ok (.istore_n 2, 1) := by decide +kernel
theorem dX7_inPort_2 : decode cX7_inPort 2 = .ok (.iconst 0, 1) := by decide +kernel
theorem dX7_inPort_3 : decode cX7_inPort 3 = .ok (.istore_n 3, 1) := by decide +kernel
theorem dX7_inPort_4 : decode cX7_inPort 4 = .ok (.iload_n 3, 1) := by decide +kernel
theorem dX7_inPort_5 : decode cX7_inPort 5 = .ok (.aload_n 0, 1) := by decide +kernel
theorem dX7_inPort_6 : decode cX7_inPort 6 = .ok (.getfield 140, 3) := by decide +kernel
theorem dX7_inPort_9 : decode cX7_inPort 9 = .ok (.if_icmp .ge 37, 3) := by decide +kernel
theorem dX7_inPort_12 : decode cX7_inPort 12 = .ok (.iload_n 2, 1) := by decide +kernel
theorem dX7_inPort_13 : decode cX7_inPort 13 = .ok (.aload_n 0, 1) := by decide +kernel
theorem dX7_inPort_14 : decode cX7_inPort 14 = .ok (.getfield 34, 3) := by decide +kernel
theorem dX7_inPort_17 : decode cX7_inPort 17 = .ok (.iload_n 3, 1) := by decide +kernel
theorem dX7_inPort_18 : decode cX7_inPort 18 = .ok (.iaload, 1) := by decide +kernel
theorem dX7_inPort_19 : decode cX7_inPort 19 = .ok (.iconst 1, 1) := by decide +kernel
theorem dX7_inPort_20 : decode cX7_inPort 20 = .ok (.if_icmp .ne 17, 3) := by decide +kernel
theorem dX7_inPort_23 : decode cX7_inPort 23 = .ok (.aload_n 0, 1) := by decide +kernel
theorem dX7_inPort_24 : decode cX7_inPort 24 = .ok (.getfield 37, 3) := by decide +kernel
theorem dX7_inPort_27 : decode cX7_inPort 27 = .ok (.iload_n 3, 1) := by decide +kernel
theorem dX7_inPort_28 : decode cX7_inPort 28 = .ok (.iaload, 1) := by decide +kernel
theorem dX7_inPort_29 : decode cX7_inPort 29 = .ok (.iload_n 1, 1) := by decide +kernel
theorem dX7_inPort_30 : decode cX7_inPort 30 = .ok (.if_icmp .ne 7, 3) := by decide +kernel
theorem dX7_inPort_33 : decode cX7_inPort 33 = .ok (.iconst 1, 1) := by decide +kernel
theorem dX7_inPort_34 : decode cX7_inPort 34 = .ok (.goto 4, 3) := by decide +kernel
theorem dX7_inPort_37 : decode cX7_inPort 37 = .ok (.iconst 0, 1) := by decide +kernel
theorem dX7_inPort_38 : decode cX7_inPort 38 = .ok (.iadd, 1) := by decide +kernel
theorem dX7_inPort_39 : decode cX7_inPort 39 = .ok (.istore_n 2, 1) := by decide +kernel
theorem dX7_inPort_40 : decode cX7_inPort 40 = .ok (.iinc 3 1, 3) := by decide +kernel
theorem dX7_inPort_43 : decode cX7_inPort 43 = .ok (.goto (-39), 3) := by decide +kernel
theorem dX7_inPort_46 : decode cX7_inPort 46 = .ok (.iload_n 2, 1) := by decide +kernel
theorem dX7_inPort_47 : decode cX7_inPort 47 = .ok (.ireturn, 1) := by decide +kernel
theorem dX7_value_0 : decode cX7_value 0 = .ok (.iload_n 1, 1) := by decide +kernel
theorem dX7_value_1 : decode cX7_value 1 = .ok (.tableswitch 118 100 106 #[43, 50, 55, 67, 78, 99, 111], 43) := by decide +kernel
theorem dX7_value_44 : decode cX7_value 44 = .ok (.aload_n 0, 1) := by decide +kernel
theorem dX7_value_45 : decode cX7_value 45 = .ok (.getfield 37, 3) := by decide +kernel
theorem dX7_value_48 : decode cX7_value 48 = .ok (.iload_n 3, 1) := by decide +kernel
theorem dX7_value_49 : decode cX7_value 49 = .ok (.iaload, 1) := by decide +kernel
theorem dX7_value_50 : decode cX7_value 50 = .ok (.ireturn, 1) := by decide +kernel
theorem dX7_value_51 : decode cX7_value 51 = .ok (.aload_n 0, 1) := by decide +kernel
theorem dX7_value_52 : decode cX7_value 52 = .ok (.getfield 165, 3) := by decide +kernel
theorem dX7_value_55 : decode cX7_value 55 = .ok (.ireturn, 1) := by decide +kernel
theorem dX7_value_56 : decode cX7_value 56 = .ok (.iload_n 2, 1) := by decide +kernel
theorem dX7_value_57 : decode cX7_value 57 = .ok (.iconst 2, 1) := by decide +kernel
theorem dX7_value_58 : decode cX7_value 58 = .ok (.if_icmp .ne 8, 3) := by decide +kernel
theorem dX7_value_61 : decode cX7_value 61 = .ok (.iload 4, 2) := by decide +kernel
theorem dX7_value_63 : decode cX7_value 63 = .ok (.goto 4, 3) := by decide +kernel
theorem dX7_value_66 : decode cX7_value 66 = .ok (.iload_n 3, 1) := by decide +kernel
theorem dX7_value_67 : decode cX7_value 67 = .ok (.ireturn, 1) := by decide +kernel
theorem dX7_value_68 : decode cX7_value 68 = .ok (.aload_n 0, 1) := by decide +kernel
theorem dX7_value_69 : decode cX7_value 69 = .ok (.aload_n 0, 1) := by decide +kernel
theorem dX7_value_70 : decode cX7_value 70 = .ok (.getfield 37, 3) := by decide +kernel
theorem dX7_value_73 : decode cX7_value 73 = .ok (.iload_n 3, 1) := by decide +kernel
theorem dX7_value_74 : decode cX7_value 74 = .ok (.iaload, 1) := by decide +kernel
theorem dX7_value_75 : decode cX7_value 75 = .ok (.invokevirtual 280, 3) := by decide +kernel
theorem dX7_value_78 : decode cX7_value 78 = .ok (.ireturn, 1) := by decide +kernel
theorem dX7_value_79 : decode cX7_value 79 = .ok (.iload_n 2, 1) := by decide +kernel
theorem dX7_value_80 : decode cX7_value 80 = .ok (.iconst 2, 1) := by decide +kernel
theorem dX7_value_81 : decode cX7_value 81 = .ok (.if_icmp .ne 17, 3) := by decide +kernel
theorem dX7_value_84 : decode cX7_value 84 = .ok (.aload_n 0, 1) := by decide +kernel
theorem dX7_value_85 : decode cX7_value 85 = .ok (.getfield 165, 3) := by decide +kernel
theorem dX7_value_88 : decode cX7_value 88 = .ok (.aload_n 0, 1) := by decide +kernel
theorem dX7_value_89 : decode cX7_value 89 = .ok (.getfield 40, 3) := by decide +kernel
theorem dX7_value_92 : decode cX7_value 92 = .ok (.iload_n 3, 1) := by decide +kernel
theorem dX7_value_93 : decode cX7_value 93 = .ok (.iaload, 1) := by decide +kernel
theorem dX7_value_94 : decode cX7_value 94 = .ok (.isub, 1) := by decide +kernel
theorem dX7_value_95 : decode cX7_value 95 = .ok (.goto 4, 3) := by decide +kernel
theorem dX7_value_98 : decode cX7_value 98 = .ok (.iconst 0, 1) := by decide +kernel
theorem dX7_value_99 : decode cX7_value 99 = .ok (.ireturn, 1) := by decide +kernel
theorem dX7_value_100 : decode cX7_value 100 = .ok (.aload_n 0, 1) := by decide +kernel
theorem dX7_value_101 : decode cX7_value 101 = .ok (.getfield 165, 3) := by decide +kernel
theorem dX7_value_104 : decode cX7_value 104 = .ok (.aload_n 0, 1) := by decide +kernel
theorem dX7_value_105 : decode cX7_value 105 = .ok (.getfield 40, 3) := by decide +kernel
theorem dX7_value_108 : decode cX7_value 108 = .ok (.iload_n 3, 1) := by decide +kernel
theorem dX7_value_109 : decode cX7_value 109 = .ok (.iaload, 1) := by decide +kernel
theorem dX7_value_110 : decode cX7_value 110 = .ok (.isub, 1) := by decide +kernel
theorem dX7_value_111 : decode cX7_value 111 = .ok (.ireturn, 1) := by decide +kernel
theorem dX7_value_112 : decode cX7_value 112 = .ok (.aload_n 0, 1) := by decide +kernel
theorem dX7_value_113 : decode cX7_value 113 = .ok (.iload_n 3, 1) := by decide +kernel
theorem dX7_value_114 : decode cX7_value 114 = .ok (.iconst 0, 1) := by decide +kernel
theorem dX7_value_115 : decode cX7_value 115 = .ok (.invokevirtual 283, 3) := by decide +kernel
theorem dX7_value_118 : decode cX7_value 118 = .ok (.ireturn, 1) := by decide +kernel
theorem dX7_value_119 : decode cX7_value 119 = .ok (.iload_n 2, 1) := by decide +kernel
theorem dX7_value_120 : decode cX7_value 120 = .ok (.iconst 1, 1) := by decide +kernel
theorem dX7_value_121 : decode cX7_value 121 = .ok (.if_icmp .ne 13, 3) := by decide +kernel
theorem dX7_value_124 : decode cX7_value 124 = .ok (.aload_n 0, 1) := by decide +kernel
theorem dX7_value_125 : decode cX7_value 125 = .ok (.iload_n 1, 1) := by decide +kernel
theorem dX7_value_126 : decode cX7_value 126 = .ok (.iload 4, 2) := by decide +kernel
theorem dX7_value_128 : decode cX7_value 128 = .ok (.invokevirtual 287, 3) := by decide +kernel
theorem dX7_value_131 : decode cX7_value 131 = .ok (.goto 4, 3) := by decide +kernel
theorem dX7_value_134 : decode cX7_value 134 = .ok (.iconst 0, 1) := by decide +kernel
theorem dX7_value_135 : decode cX7_value 135 = .ok (.ireturn, 1) := by decide +kernel
theorem dX7_ofBale_0 : decode cX7_ofBale 0 = .ok (.iload_n 1, 1) := by decide +kernel
theorem dX7_ofBale_1 : decode cX7_ofBale 1 = .ok (.tableswitch 70 107 111 #[35, 42, 49, 56, 63], 35) := by decide +kernel
theorem dX7_ofBale_36 : decode cX7_ofBale 36 = .ok (.aload_n 0, 1) := by decide +kernel
theorem dX7_ofBale_37 : decode cX7_ofBale 37 = .ok (.getfield 71, 3) := by decide +kernel
theorem dX7_ofBale_40 : decode cX7_ofBale 40 = .ok (.iload_n 2, 1) := by decide +kernel
theorem dX7_ofBale_41 : decode cX7_ofBale 41 = .ok (.iaload, 1) := by decide +kernel
theorem dX7_ofBale_42 : decode cX7_ofBale 42 = .ok (.ireturn, 1) := by decide +kernel
theorem dX7_ofBale_43 : decode cX7_ofBale 43 = .ok (.aload_n 0, 1) := by decide +kernel
theorem dX7_ofBale_44 : decode cX7_ofBale 44 = .ok (.getfield 74, 3) := by decide +kernel
theorem dX7_ofBale_47 : decode cX7_ofBale 47 = .ok (.iload_n 2, 1) := by decide +kernel
theorem dX7_ofBale_48 : decode cX7_ofBale 48 = .ok (.iaload, 1) := by decide +kernel
theorem dX7_ofBale_49 : decode cX7_ofBale 49 = .ok (.ireturn, 1) := by decide +kernel
theorem dX7_ofBale_50 : decode cX7_ofBale 50 = .ok (.aload_n 0, 1) := by decide +kernel
theorem dX7_ofBale_51 : decode cX7_ofBale 51 = .ok (.getfield 77, 3) := by decide +kernel
theorem dX7_ofBale_54 : decode cX7_ofBale 54 = .ok (.iload_n 2, 1) := by decide +kernel
theorem dX7_ofBale_55 : decode cX7_ofBale 55 = .ok (.iaload, 1) := by decide +kernel
theorem dX7_ofBale_56 : decode cX7_ofBale 56 = .ok (.ireturn, 1) := by decide +kernel
theorem dX7_ofBale_57 : decode cX7_ofBale 57 = .ok (.aload_n 0, 1) := by decide +kernel
theorem dX7_ofBale_58 : decode cX7_ofBale 58 = .ok (.getfield 80, 3) := by decide +kernel
theorem dX7_ofBale_61 : decode cX7_ofBale 61 = .ok (.iload_n 2, 1) := by decide +kernel
theorem dX7_ofBale_62 : decode cX7_ofBale 62 = .ok (.iaload, 1) := by decide +kernel
theorem dX7_ofBale_63 : decode cX7_ofBale 63 = .ok (.ireturn, 1) := by decide +kernel
theorem dX7_ofBale_64 : decode cX7_ofBale 64 = .ok (.aload_n 0, 1) := by decide +kernel
theorem dX7_ofBale_65 : decode cX7_ofBale 65 = .ok (.getfield 83, 3) := by decide +kernel
theorem dX7_ofBale_68 : decode cX7_ofBale 68 = .ok (.iload_n 2, 1) := by decide +kernel
theorem dX7_ofBale_69 : decode cX7_ofBale 69 = .ok (.iaload, 1) := by decide +kernel
theorem dX7_ofBale_70 : decode cX7_ofBale 70 = .ok (.ireturn, 1) := by decide +kernel
theorem dX7_ofBale_71 : decode cX7_ofBale 71 = .ok (.aload_n 0, 1) := by decide +kernel
theorem dX7_ofBale_72 : decode cX7_ofBale 72 = .ok (.getfield 165, 3) := by decide +kernel
theorem dX7_ofBale_75 : decode cX7_ofBale 75 = .ok (.aload_n 0, 1) := by decide +kernel
theorem dX7_ofBale_76 : decode cX7_ofBale 76 = .ok (.getfield 86, 3) := by decide +kernel
theorem dX7_ofBale_79 : decode cX7_ofBale 79 = .ok (.iload_n 2, 1) := by decide +kernel
theorem dX7_ofBale_80 : decode cX7_ofBale 80 = .ok (.iaload, 1) := by decide +kernel
theorem dX7_ofBale_81 : decode cX7_ofBale 81 = .ok (.isub, 1) := by decide +kernel
theorem dX7_ofBale_82 : decode cX7_ofBale 82 = .ok (.ireturn, 1) := by decide +kernel
theorem dX7_both_0 : decode cX7_both 0 = .ok (.iload_n 0, 1) := by decide +kernel
theorem dX7_both_1 : decode cX7_both 1 = .ok (.lookupswitch 136 #[(10, 67), (20, 81), (40, 95), (41, 106), (42, 117), (50, 128), (51, 132)], 67) := by decide +kernel
theorem dX7_both_68 : decode cX7_both 68 = .ok (.iload_n 1, 1) := by decide +kernel
theorem dX7_both_69 : decode cX7_both 69 = .ok (.ifCond .ne 7, 3) := by decide +kernel
theorem dX7_both_72 : decode cX7_both 72 = .ok (.iload_n 2, 1) := by decide +kernel
theorem dX7_both_73 : decode cX7_both 73 = .ok (.ifCond .eq 7, 3) := by decide +kernel
theorem dX7_both_76 : decode cX7_both 76 = .ok (.iconst 1, 1) := by decide +kernel
theorem dX7_both_77 : decode cX7_both 77 = .ok (.goto 4, 3) := by decide +kernel
theorem dX7_both_80 : decode cX7_both 80 = .ok (.iconst 0, 1) := by decide +kernel
theorem dX7_both_81 : decode cX7_both 81 = .ok (.ireturn, 1) := by decide +kernel
theorem dX7_both_82 : decode cX7_both 82 = .ok (.iload_n 1, 1) := by decide +kernel
theorem dX7_both_83 : decode cX7_both 83 = .ok (.ifCond .eq 11, 3) := by decide +kernel
theorem dX7_both_86 : decode cX7_both 86 = .ok (.iload_n 2, 1) := by decide +kernel
theorem dX7_both_87 : decode cX7_both 87 = .ok (.ifCond .eq 7, 3) := by decide +kernel
theorem dX7_both_90 : decode cX7_both 90 = .ok (.iconst 1, 1) := by decide +kernel
theorem dX7_both_91 : decode cX7_both 91 = .ok (.goto 4, 3) := by decide +kernel
theorem dX7_both_94 : decode cX7_both 94 = .ok (.iconst 0, 1) := by decide +kernel
theorem dX7_both_95 : decode cX7_both 95 = .ok (.ireturn, 1) := by decide +kernel
theorem dX7_both_96 : decode cX7_both 96 = .ok (.iload_n 1, 1) := by decide +kernel
theorem dX7_both_97 : decode cX7_both 97 = .ok (.iload_n 2, 1) := by decide +kernel
theorem dX7_both_98 : decode cX7_both 98 = .ok (.if_icmp .ge 7, 3) := by decide +kernel
theorem dX7_both_101 : decode cX7_both 101 = .ok (.iconst 1, 1) := by decide +kernel
theorem dX7_both_102 : decode cX7_both 102 = .ok (.goto 4, 3) := by decide +kernel
theorem dX7_both_105 : decode cX7_both 105 = .ok (.iconst 0, 1) := by decide +kernel
theorem dX7_both_106 : decode cX7_both 106 = .ok (.ireturn, 1) := by decide +kernel
theorem dX7_both_107 : decode cX7_both 107 = .ok (.iload_n 1, 1) := by decide +kernel
theorem dX7_both_108 : decode cX7_both 108 = .ok (.iload_n 2, 1) := by decide +kernel
theorem dX7_both_109 : decode cX7_both 109 = .ok (.if_icmp .ne 7, 3) := by decide +kernel
theorem dX7_both_112 : decode cX7_both 112 = .ok (.iconst 1, 1) := by decide +kernel
theorem dX7_both_113 : decode cX7_both 113 = .ok (.goto 4, 3) := by decide +kernel
theorem dX7_both_116 : decode cX7_both 116 = .ok (.iconst 0, 1) := by decide +kernel
theorem dX7_both_117 : decode cX7_both 117 = .ok (.ireturn, 1) := by decide +kernel
theorem dX7_both_118 : decode cX7_both 118 = .ok (.iload_n 1, 1) := by decide +kernel
theorem dX7_both_119 : decode cX7_both 119 = .ok (.iload_n 2, 1) := by decide +kernel
theorem dX7_both_120 : decode cX7_both 120 = .ok (.if_icmp .le 7, 3) := by decide +kernel
theorem dX7_both_123 : decode cX7_both 123 = .ok (.iconst 1, 1) := by decide +kernel
theorem dX7_both_124 : decode cX7_both 124 = .ok (.goto 4, 3) := by decide +kernel
theorem dX7_both_127 : decode cX7_both 127 = .ok (.iconst 0, 1) := by decide +kernel
theorem dX7_both_128 : decode cX7_both 128 = .ok (.ireturn, 1) := by decide +kernel
theorem dX7_both_129 : decode cX7_both 129 = .ok (.iload_n 1, 1) := by decide +kernel
theorem dX7_both_130 : decode cX7_both 130 = .ok (.iload_n 2, 1) := by decide +kernel
theorem dX7_both_131 : decode cX7_both 131 = .ok (.iadd, 1) := by decide +kernel
theorem dX7_both_132 : decode cX7_both 132 = .ok (.ireturn, 1) := by decide +kernel
theorem dX7_both_133 : decode cX7_both 133 = .ok (.iload_n 1, 1) := by decide +kernel
theorem dX7_both_134 : decode cX7_both 134 = .ok (.iload_n 2, 1) := by decide +kernel
theorem dX7_both_135 : decode cX7_both 135 = .ok (.isub, 1) := by decide +kernel
theorem dX7_both_136 : decode cX7_both 136 = .ok (.ireturn, 1) := by decide +kernel
theorem dX7_both_137 : decode cX7_both 137 = .ok (.iload_n 1, 1) := by decide +kernel
theorem dX7_both_138 : decode cX7_both 138 = .ok (.iload_n 2, 1) := by decide +kernel
theorem dX7_both_139 : decode cX7_both 139 = .ok (.imul, 1) := by decide +kernel
theorem dX7_both_140 : decode cX7_both 140 = .ok (.ireturn, 1) := by decide +kernel
theorem dX7_says0_0 : decode cX7_says0 0 = .ok (.aload_n 0, 1) := by decide +kernel
theorem dX7_says0_1 : decode cX7_says0 1 = .ok (.iload_n 1, 1) := by decide +kernel
theorem dX7_says0_2 : decode cX7_says0 2 = .ok (.aload_n 0, 1) := by decide +kernel
theorem dX7_says0_3 : decode cX7_says0 3 = .ok (.getfield 37, 3) := by decide +kernel
theorem dX7_says0_6 : decode cX7_says0 6 = .ok (.iload_n 2, 1) := by decide +kernel
theorem dX7_says0_7 : decode cX7_says0 7 = .ok (.iaload, 1) := by decide +kernel
theorem dX7_says0_8 : decode cX7_says0 8 = .ok (.invokevirtual 276, 3) := by decide +kernel
theorem dX7_says0_11 : decode cX7_says0 11 = .ok (.istore 4, 2) := by decide +kernel
theorem dX7_says0_13 : decode cX7_says0 13 = .ok (.iload 4, 2) := by decide +kernel
theorem dX7_says0_15 : decode cX7_says0 15 = .ok (.ifCond .ge 14, 3) := by decide +kernel
theorem dX7_says0_18 : decode cX7_says0 18 = .ok (.iload_n 1, 1) := by decide +kernel
theorem dX7_says0_19 : decode cX7_says0 19 = .ok (.iconst 2, 1) := by decide +kernel
theorem dX7_says0_20 : decode cX7_says0 20 = .ok (.if_icmp .ne 7, 3) := by decide +kernel
theorem dX7_says0_23 : decode cX7_says0 23 = .ok (.iconst 0, 1) := by decide +kernel
theorem dX7_says0_24 : decode cX7_says0 24 = .ok (.goto 4, 3) := by decide +kernel
theorem dX7_says0_27 : decode cX7_says0 27 = .ok (.iconst 1, 1) := by decide +kernel
theorem dX7_says0_28 : decode cX7_says0 28 = .ok (.ireturn, 1) := by decide +kernel
theorem dX7_says0_29 : decode cX7_says0 29 = .ok (.iconst 0, 1) := by decide +kernel
theorem dX7_says0_30 : decode cX7_says0 30 = .ok (.istore 5, 2) := by decide +kernel
theorem dX7_says0_32 : decode cX7_says0 32 = .ok (.aload_n 0, 1) := by decide +kernel
theorem dX7_says0_33 : decode cX7_says0 33 = .ok (.getfield 108, 3) := by decide +kernel
theorem dX7_says0_36 : decode cX7_says0 36 = .ok (.iload 4, 2) := by decide +kernel
theorem dX7_says0_38 : decode cX7_says0 38 = .ok (.iaload, 1) := by decide +kernel
theorem dX7_says0_39 : decode cX7_says0 39 = .ok (.istore 6, 2) := by decide +kernel
theorem dX7_says0_41 : decode cX7_says0 41 = .ok (.iload 6, 2) := by decide +kernel
theorem dX7_says0_43 : decode cX7_says0 43 = .ok (.aload_n 0, 1) := by decide +kernel
theorem dX7_says0_44 : decode cX7_says0 44 = .ok (.getfield 108, 3) := by decide +kernel
theorem dX7_says0_47 : decode cX7_says0 47 = .ok (.iload 4, 2) := by decide +kernel
theorem dX7_says0_49 : decode cX7_says0 49 = .ok (.iconst 1, 1) := by decide +kernel
theorem dX7_says0_50 : decode cX7_says0 50 = .ok (.iadd, 1) := by decide +kernel
theorem dX7_says0_51 : decode cX7_says0 51 = .ok (.iaload, 1) := by decide +kernel
theorem dX7_says0_52 : decode cX7_says0 52 = .ok (.if_icmp .ge 165, 3) := by decide +kernel
theorem dX7_says0_55 : decode cX7_says0 55 = .ok (.aload_n 0, 1) := by decide +kernel
theorem dX7_says0_56 : decode cX7_says0 56 = .ok (.getfield 111, 3) := by decide +kernel
theorem dX7_says0_59 : decode cX7_says0 59 = .ok (.iload 6, 2) := by decide +kernel
theorem dX7_says0_61 : decode cX7_says0 61 = .ok (.iaload, 1) := by decide +kernel
theorem dX7_says0_62 : decode cX7_says0 62 = .ok (.istore 7, 2) := by decide +kernel
theorem dX7_says0_64 : decode cX7_says0 64 = .ok (.iload 7, 2) := by decide +kernel
theorem dX7_says0_66 : decode cX7_says0 66 = .ok (.iconst 1, 1) := by decide +kernel
theorem dX7_says0_67 : decode cX7_says0 67 = .ok (.if_icmp .eq 10, 3) := by decide +kernel
theorem dX7_says0_70 : decode cX7_says0 70 = .ok (.iload 7, 2) := by decide +kernel
theorem dX7_says0_72 : decode cX7_says0 72 = .ok (.bipush 100, 2) := by decide +kernel
theorem dX7_says0_74 : decode cX7_says0 74 = .ok (.if_icmp .lt 41, 3) := by decide +kernel
theorem dX7_says0_77 : decode cX7_says0 77 = .ok (.aload_n 0, 1) := by decide +kernel
theorem dX7_says0_78 : decode cX7_says0 78 = .ok (.getfield 120, 3) := by decide +kernel
theorem dX7_says0_81 : decode cX7_says0 81 = .ok (.iload 5, 2) := by decide +kernel
theorem dX7_says0_83 : decode cX7_says0 83 = .ok (.iload 7, 2) := by decide +kernel
theorem dX7_says0_85 : decode cX7_says0 85 = .ok (.iconst 1, 1) := by decide +kernel
theorem dX7_says0_86 : decode cX7_says0 86 = .ok (.if_icmp .ne 13, 3) := by decide +kernel
theorem dX7_says0_89 : decode cX7_says0 89 = .ok (.aload_n 0, 1) := by decide +kernel
theorem dX7_says0_90 : decode cX7_says0 90 = .ok (.getfield 114, 3) := by decide +kernel
theorem dX7_says0_93 : decode cX7_says0 93 = .ok (.iload 6, 2) := by decide +kernel
theorem dX7_says0_95 : decode cX7_says0 95 = .ok (.iaload, 1) := by decide +kernel
theorem dX7_says0_96 : decode cX7_says0 96 = .ok (.goto 12, 3) := by decide +kernel
theorem dX7_says0_99 : decode cX7_says0 99 = .ok (.aload_n 0, 1) := by decide +kernel
theorem dX7_says0_100 : decode cX7_says0 100 = .ok (.iload 7, 2) := by decide +kernel
theorem dX7_says0_102 : decode cX7_says0 102 = .ok (.iload_n 1, 1) := by decide +kernel
theorem dX7_says0_103 : decode cX7_says0 103 = .ok (.iload_n 2, 1) := by decide +kernel
theorem dX7_says0_104 : decode cX7_says0 104 = .ok (.iload_n 3, 1) := by decide +kernel
theorem dX7_says0_105 : decode cX7_says0 105 = .ok (.invokevirtual 290, 3) := by decide +kernel
theorem dX7_says0_108 : decode cX7_says0 108 = .ok (.iastore, 1) := by decide +kernel
theorem dX7_says0_109 : decode cX7_says0 109 = .ok (.iinc 5 1, 3) := by decide +kernel
theorem dX7_says0_112 : decode cX7_says0 112 = .ok (.goto 99, 3) := by decide +kernel
theorem dX7_says0_115 : decode cX7_says0 115 = .ok (.iload 7, 2) := by decide +kernel
theorem dX7_says0_117 : decode cX7_says0 117 = .ok (.bipush 30, 2) := by decide +kernel
theorem dX7_says0_119 : decode cX7_says0 119 = .ok (.if_icmp .eq 10, 3) := by decide +kernel
theorem dX7_says0_122 : decode cX7_says0 122 = .ok (.iload 7, 2) := by decide +kernel
theorem dX7_says0_124 : decode cX7_says0 124 = .ok (.bipush 70, 2) := by decide +kernel
theorem dX7_says0_126 : decode cX7_says0 126 = .ok (.if_icmp .ne 52, 3) := by decide +kernel
theorem dX7_says0_129 : decode cX7_says0 129 = .ok (.aload_n 0, 1) := by decide +kernel
theorem dX7_says0_130 : decode cX7_says0 130 = .ok (.getfield 120, 3) := by decide +kernel
theorem dX7_says0_133 : decode cX7_says0 133 = .ok (.iload 5, 2) := by decide +kernel
theorem dX7_says0_135 : decode cX7_says0 135 = .ok (.iconst 1, 1) := by decide +kernel
theorem dX7_says0_136 : decode cX7_says0 136 = .ok (.isub, 1) := by decide +kernel
theorem dX7_says0_137 : decode cX7_says0 137 = .ok (.iload 7, 2) := by decide +kernel
theorem dX7_says0_139 : decode cX7_says0 139 = .ok (.bipush 70, 2) := by decide +kernel
theorem dX7_says0_141 : decode cX7_says0 141 = .ok (.if_icmp .ne 16, 3) := by decide +kernel
theorem dX7_says0_144 : decode cX7_says0 144 = .ok (.aload_n 0, 1) := by decide +kernel
theorem dX7_says0_145 : decode cX7_says0 145 = .ok (.getfield 120, 3) := by decide +kernel
theorem dX7_says0_148 : decode cX7_says0 148 = .ok (.iload 5, 2) := by decide +kernel
theorem dX7_says0_150 : decode cX7_says0 150 = .ok (.iconst 1, 1) := by decide +kernel
theorem dX7_says0_151 : decode cX7_says0 151 = .ok (.isub, 1) := by decide +kernel
theorem dX7_says0_152 : decode cX7_says0 152 = .ok (.iaload, 1) := by decide +kernel
theorem dX7_says0_153 : decode cX7_says0 153 = .ok (.ineg, 1) := by decide +kernel
theorem dX7_says0_154 : decode cX7_says0 154 = .ok (.goto 20, 3) := by decide +kernel
theorem dX7_says0_157 : decode cX7_says0 157 = .ok (.aload_n 0, 1) := by decide +kernel
theorem dX7_says0_158 : decode cX7_says0 158 = .ok (.getfield 120, 3) := by decide +kernel
theorem dX7_says0_161 : decode cX7_says0 161 = .ok (.iload 5, 2) := by decide +kernel
theorem dX7_says0_163 : decode cX7_says0 163 = .ok (.iconst 1, 1) := by decide +kernel
theorem dX7_says0_164 : decode cX7_says0 164 = .ok (.isub, 1) := by decide +kernel
theorem dX7_says0_165 : decode cX7_says0 165 = .ok (.iaload, 1) := by decide +kernel
theorem dX7_says0_166 : decode cX7_says0 166 = .ok (.ifCond .ne 7, 3) := by decide +kernel
theorem dX7_says0_169 : decode cX7_says0 169 = .ok (.iconst 1, 1) := by decide +kernel
theorem dX7_says0_170 : decode cX7_says0 170 = .ok (.goto 4, 3) := by decide +kernel
theorem dX7_says0_173 : decode cX7_says0 173 = .ok (.iconst 0, 1) := by decide +kernel
theorem dX7_says0_174 : decode cX7_says0 174 = .ok (.iastore, 1) := by decide +kernel
theorem dX7_says0_175 : decode cX7_says0 175 = .ok (.goto 36, 3) := by decide +kernel
theorem dX7_says0_178 : decode cX7_says0 178 = .ok (.iinc 5 (-1), 3) := by decide +kernel
theorem dX7_says0_181 : decode cX7_says0 181 = .ok (.aload_n 0, 1) := by decide +kernel
theorem dX7_says0_182 : decode cX7_says0 182 = .ok (.getfield 120, 3) := by decide +kernel
theorem dX7_says0_185 : decode cX7_says0 185 = .ok (.iload 5, 2) := by decide +kernel
theorem dX7_says0_187 : decode cX7_says0 187 = .ok (.iconst 1, 1) := by decide +kernel
theorem dX7_says0_188 : decode cX7_says0 188 = .ok (.isub, 1) := by decide +kernel
theorem dX7_says0_189 : decode cX7_says0 189 = .ok (.iload 7, 2) := by decide +kernel
theorem dX7_says0_191 : decode cX7_says0 191 = .ok (.aload_n 0, 1) := by decide +kernel
theorem dX7_says0_192 : decode cX7_says0 192 = .ok (.getfield 120, 3) := by decide +kernel
theorem dX7_says0_195 : decode cX7_says0 195 = .ok (.iload 5, 2) := by decide +kernel
theorem dX7_says0_197 : decode cX7_says0 197 = .ok (.iconst 1, 1) := by decide +kernel
theorem dX7_says0_198 : decode cX7_says0 198 = .ok (.isub, 1) := by decide +kernel
theorem dX7_says0_199 : decode cX7_says0 199 = .ok (.iaload, 1) := by decide +kernel
theorem dX7_says0_200 : decode cX7_says0 200 = .ok (.aload_n 0, 1) := by decide +kernel
theorem dX7_says0_201 : decode cX7_says0 201 = .ok (.getfield 120, 3) := by decide +kernel
theorem dX7_says0_204 : decode cX7_says0 204 = .ok (.iload 5, 2) := by decide +kernel
theorem dX7_says0_206 : decode cX7_says0 206 = .ok (.iaload, 1) := by decide +kernel
theorem dX7_says0_207 : decode cX7_says0 207 = .ok (.invokestatic 294, 3) := by decide +kernel
theorem dX7_says0_210 : decode cX7_says0 210 = .ok (.iastore, 1) := by decide +kernel
theorem dX7_says0_211 : decode cX7_says0 211 = .ok (.iinc 6 1, 3) := by decide +kernel
theorem dX7_says0_214 : decode cX7_says0 214 = .ok (.goto (-173), 3) := by decide +kernel
theorem dX7_says0_217 : decode cX7_says0 217 = .ok (.aload_n 0, 1) := by decide +kernel
theorem dX7_says0_218 : decode cX7_says0 218 = .ok (.getfield 120, 3) := by decide +kernel
theorem dX7_says0_221 : decode cX7_says0 221 = .ok (.iconst 0, 1) := by decide +kernel
theorem dX7_says0_222 : decode cX7_says0 222 = .ok (.iaload, 1) := by decide +kernel
theorem dX7_says0_223 : decode cX7_says0 223 = .ok (.ireturn, 1) := by decide +kernel
theorem dX7_says_0 : decode cX7_says 0 = .ok (.iload_n 1, 1) := by decide +kernel
theorem dX7_says_1 : decode cX7_says 1 = .ok (.iconst 0, 1) := by decide +kernel
theorem dX7_says_2 : decode cX7_says 2 = .ok (.iconst 2, 1) := by decide +kernel
theorem dX7_says_3 : decode cX7_says 3 = .ok (.invokestatic 133, 3) := by decide +kernel
theorem dX7_says_6 : decode cX7_says 6 = .ok (.ifCond .eq 21, 3) := by decide +kernel
theorem dX7_says_9 : decode cX7_says 9 = .ok (.aload_n 0, 1) := by decide +kernel
theorem dX7_says_10 : decode cX7_says 10 = .ok (.iload_n 2, 1) := by decide +kernel
theorem dX7_says_11 : decode cX7_says 11 = .ok (.invokevirtual 155, 3) := by decide +kernel
theorem dX7_says_14 : decode cX7_says 14 = .ok (.ifCond .eq 13, 3) := by decide +kernel
theorem dX7_says_17 : decode cX7_says 17 = .ok (.aload_n 0, 1) := by decide +kernel
theorem dX7_says_18 : decode cX7_says 18 = .ok (.getfield 34, 3) := by decide +kernel
theorem dX7_says_21 : decode cX7_says 21 = .ok (.iload_n 2, 1) := by decide +kernel
theorem dX7_says_22 : decode cX7_says 22 = .ok (.iaload, 1) := by decide +kernel
theorem dX7_says_23 : decode cX7_says 23 = .ok (.iconst 1, 1) := by decide +kernel
theorem dX7_says_24 : decode cX7_says 24 = .ok (.if_icmp .eq 6, 3) := by decide +kernel
theorem dX7_says_27 : decode cX7_says 27 = .ok (.ldc 151, 2) := by decide +kernel
theorem dX7_says_29 : decode cX7_says 29 = .ok (.ireturn, 1) := by decide +kernel
theorem dX7_says_30 : decode cX7_says 30 = .ok (.iload_n 1, 1) := by decide +kernel
theorem dX7_says_31 : decode cX7_says 31 = .ok (.iconst 1, 1) := by decide +kernel
theorem dX7_says_32 : decode cX7_says 32 = .ok (.if_icmp .ne 11, 3) := by decide +kernel
theorem dX7_says_35 : decode cX7_says 35 = .ok (.aload_n 0, 1) := by decide +kernel
theorem dX7_says_36 : decode cX7_says 36 = .ok (.iload_n 3, 1) := by decide +kernel
theorem dX7_says_37 : decode cX7_says 37 = .ok (.invokevirtual 168, 3) := by decide +kernel
theorem dX7_says_40 : decode cX7_says 40 = .ok (.ifCond .eq 21, 3) := by decide +kernel
theorem dX7_says_43 : decode cX7_says 43 = .ok (.iload_n 1, 1) := by decide +kernel
theorem dX7_says_44 : decode cX7_says 44 = .ok (.iconst 2, 1) := by decide +kernel
theorem dX7_says_45 : decode cX7_says 45 = .ok (.if_icmp .ne 19, 3) := by decide +kernel
theorem dX7_says_48 : decode cX7_says 48 = .ok (.aload_n 0, 1) := by decide +kernel
theorem dX7_says_49 : decode cX7_says 49 = .ok (.iload_n 3, 1) := by decide +kernel
theorem dX7_says_50 : decode cX7_says 50 = .ok (.invokevirtual 155, 3) := by decide +kernel
theorem dX7_says_53 : decode cX7_says 53 = .ok (.ifCond .eq 8, 3) := by decide +kernel
theorem dX7_says_56 : decode cX7_says 56 = .ok (.iload_n 3, 1) := by decide +kernel
theorem dX7_says_57 : decode cX7_says 57 = .ok (.iload_n 2, 1) := by decide +kernel
theorem dX7_says_58 : decode cX7_says 58 = .ok (.if_icmp .ne 6, 3) := by decide +kernel
theorem dX7_says_61 : decode cX7_says 61 = .ok (.ldc 151, 2) := by decide +kernel
theorem dX7_says_63 : decode cX7_says 63 = .ok (.ireturn, 1) := by decide +kernel
theorem dX7_says_64 : decode cX7_says 64 = .ok (.aload_n 0, 1) := by decide +kernel
theorem dX7_says_65 : decode cX7_says 65 = .ok (.iload_n 1, 1) := by decide +kernel
theorem dX7_says_66 : decode cX7_says 66 = .ok (.iload_n 2, 1) := by decide +kernel
theorem dX7_says_67 : decode cX7_says 67 = .ok (.iload_n 3, 1) := by decide +kernel
theorem dX7_says_68 : decode cX7_says 68 = .ok (.invokevirtual 298, 3) := by decide +kernel
theorem dX7_says_71 : decode cX7_says 71 = .ok (.ireturn, 1) := by decide +kernel
theorem dX7_start_0 : decode cX7_start 0 = .ok (.aload_n 0, 1) := by decide +kernel
theorem dX7_start_1 : decode cX7_start 1 = .ok (.iload_n 1, 1) := by decide +kernel
theorem dX7_start_2 : decode cX7_start 2 = .ok (.invokevirtual 155, 3) := by decide +kernel
theorem dX7_start_5 : decode cX7_start 5 = .ok (.ifCond .ne 5, 3) := by decide +kernel
theorem dX7_start_8 : decode cX7_start 8 = .ok (.iconst (-1), 1) := by decide +kernel
theorem dX7_start_9 : decode cX7_start 9 = .ok (.ireturn, 1) := by decide +kernel
theorem dX7_start_10 : decode cX7_start 10 = .ok (.aload_n 0, 1) := by decide +kernel
theorem dX7_start_11 : decode cX7_start 11 = .ok (.getfield 34, 3) := by decide +kernel
theorem dX7_start_14 : decode cX7_start 14 = .ok (.iload_n 1, 1) := by decide +kernel
theorem dX7_start_15 : decode cX7_start 15 = .ok (.iaload, 1) := by decide +kernel
theorem dX7_start_16 : decode cX7_start 16 = .ok (.ifCond .ne 11, 3) := by decide +kernel
theorem dX7_start_19 : decode cX7_start 19 = .ok (.aload_n 0, 1) := by decide +kernel
theorem dX7_start_20 : decode cX7_start 20 = .ok (.getfield 137, 3) := by decide +kernel
theorem dX7_start_23 : decode cX7_start 23 = .ok (.iconst 2, 1) := by decide +kernel
theorem dX7_start_24 : decode cX7_start 24 = .ok (.if_icmp .ge 6, 3) := by decide +kernel
theorem dX7_start_27 : decode cX7_start 27 = .ok (.bipush (-2), 2) := by decide +kernel
theorem dX7_start_29 : decode cX7_start 29 = .ok (.ireturn, 1) := by decide +kernel
theorem dX7_start_30 : decode cX7_start 30 = .ok (.aload_n 0, 1) := by decide +kernel
theorem dX7_start_31 : decode cX7_start 31 = .ok (.getfield 34, 3) := by decide +kernel
theorem dX7_start_34 : decode cX7_start 34 = .ok (.iload_n 1, 1) := by decide +kernel
theorem dX7_start_35 : decode cX7_start 35 = .ok (.iconst 1, 1) := by decide +kernel
theorem dX7_start_36 : decode cX7_start 36 = .ok (.iastore, 1) := by decide +kernel
theorem dX7_start_37 : decode cX7_start 37 = .ok (.aload_n 0, 1) := by decide +kernel
theorem dX7_start_38 : decode cX7_start 38 = .ok (.getfield 37, 3) := by decide +kernel
theorem dX7_start_41 : decode cX7_start 41 = .ok (.iload_n 1, 1) := by decide +kernel
theorem dX7_start_42 : decode cX7_start 42 = .ok (.iconst 0, 1) := by decide +kernel
theorem dX7_start_43 : decode cX7_start 43 = .ok (.iastore, 1) := by decide +kernel
theorem dX7_start_44 : decode cX7_start 44 = .ok (.aload_n 0, 1) := by decide +kernel
theorem dX7_start_45 : decode cX7_start 45 = .ok (.getfield 40, 3) := by decide +kernel
theorem dX7_start_48 : decode cX7_start 48 = .ok (.iload_n 1, 1) := by decide +kernel
theorem dX7_start_49 : decode cX7_start 49 = .ok (.aload_n 0, 1) := by decide +kernel
theorem dX7_start_50 : decode cX7_start 50 = .ok (.getfield 165, 3) := by decide +kernel
theorem dX7_start_53 : decode cX7_start 53 = .ok (.iastore, 1) := by decide +kernel
theorem dX7_start_54 : decode cX7_start 54 = .ok (.iconst 1, 1) := by decide +kernel
theorem dX7_start_55 : decode cX7_start 55 = .ok (.ireturn, 1) := by decide +kernel
theorem dX7_day_0 : decode cX7_day 0 = .ok (.iload_n 1, 1) := by decide +kernel
theorem dX7_day_1 : decode cX7_day 1 = .ok (.iconst 1, 1) := by decide +kernel
theorem dX7_day_2 : decode cX7_day 2 = .ok (.bipush 100, 2) := by decide +kernel
theorem dX7_day_4 : decode cX7_day 4 = .ok (.invokestatic 133, 3) := by decide +kernel
theorem dX7_day_7 : decode cX7_day 7 = .ok (.ifCond .eq 15, 3) := by decide +kernel
theorem dX7_day_10 : decode cX7_day 10 = .ok (.aload_n 0, 1) := by decide +kernel
theorem dX7_day_11 : decode cX7_day 11 = .ok (.getfield 165, 3) := by decide +kernel
theorem dX7_day_14 : decode cX7_day 14 = .ok (.iload_n 1, 1) := by decide +kernel
theorem dX7_day_15 : decode cX7_day 15 = .ok (.iadd, 1) := by decide +kernel
theorem dX7_day_16 : decode cX7_day 16 = .ok (.sipush 2000, 3) := by decide +kernel
theorem dX7_day_19 : decode cX7_day 19 = .ok (.if_icmp .le 5, 3) := by decide +kernel
theorem dX7_day_22 : decode cX7_day 22 = .ok (.iconst (-1), 1) := by decide +kernel
theorem dX7_day_23 : decode cX7_day 23 = .ok (.ireturn, 1) := by decide +kernel
theorem dX7_day_24 : decode cX7_day 24 = .ok (.iconst 0, 1) := by decide +kernel
theorem dX7_day_25 : decode cX7_day 25 = .ok (.istore_n 2, 1) := by decide +kernel
theorem dX7_day_26 : decode cX7_day 26 = .ok (.iload_n 2, 1) := by decide +kernel
theorem dX7_day_27 : decode cX7_day 27 = .ok (.iload_n 1, 1) := by decide +kernel
theorem dX7_day_28 : decode cX7_day 28 = .ok (.if_icmp .ge 89, 3) := by decide +kernel
theorem dX7_day_31 : decode cX7_day 31 = .ok (.aload_n 0, 1) := by decide +kernel
theorem dX7_day_32 : decode cX7_day 32 = .ok (.dup, 1) := by decide +kernel
theorem dX7_day_33 : decode cX7_day 33 = .ok (.getfield 165, 3) := by decide +kernel
theorem dX7_day_36 : decode cX7_day 36 = .ok (.iconst 1, 1) := by decide +kernel
theorem dX7_day_37 : decode cX7_day 37 = .ok (.iadd, 1) := by decide +kernel
theorem dX7_day_38 : decode cX7_day 38 = .ok (.putfield 165, 3) := by decide +kernel
theorem dX7_day_41 : decode cX7_day 41 = .ok (.iconst 0, 1) := by decide +kernel
theorem dX7_day_42 : decode cX7_day 42 = .ok (.istore_n 3, 1) := by decide +kernel
theorem dX7_day_43 : decode cX7_day 43 = .ok (.iload_n 3, 1) := by decide +kernel
theorem dX7_day_44 : decode cX7_day 44 = .ok (.aload_n 0, 1) := by decide +kernel
theorem dX7_day_45 : decode cX7_day 45 = .ok (.getfield 140, 3) := by decide +kernel
theorem dX7_day_48 : decode cX7_day 48 = .ok (.if_icmp .ge 63, 3) := by decide +kernel
theorem dX7_day_51 : decode cX7_day 51 = .ok (.aload_n 0, 1) := by decide +kernel
theorem dX7_day_52 : decode cX7_day 52 = .ok (.getfield 34, 3) := by decide +kernel
theorem dX7_day_55 : decode cX7_day 55 = .ok (.iload_n 3, 1) := by decide +kernel
theorem dX7_day_56 : decode cX7_day 56 = .ok (.iaload, 1) := by decide +kernel
theorem dX7_day_57 : decode cX7_day 57 = .ok (.iconst 2, 1) := by decide +kernel
theorem dX7_day_58 : decode cX7_day 58 = .ok (.if_icmp .ne 11, 3) := by decide +kernel
theorem dX7_day_61 : decode cX7_day 61 = .ok (.aload_n 0, 1) := by decide +kernel
theorem dX7_day_62 : decode cX7_day 62 = .ok (.iload_n 3, 1) := by decide +kernel
theorem dX7_day_63 : decode cX7_day 63 = .ok (.invokevirtual 301, 3) := by decide +kernel
theorem dX7_day_66 : decode cX7_day 66 = .ok (.goto 39, 3) := by decide +kernel
theorem dX7_day_69 : decode cX7_day 69 = .ok (.aload_n 0, 1) := by decide +kernel
theorem dX7_day_70 : decode cX7_day 70 = .ok (.getfield 34, 3) := by decide +kernel
theorem dX7_day_73 : decode cX7_day 73 = .ok (.iload_n 3, 1) := by decide +kernel
theorem dX7_day_74 : decode cX7_day 74 = .ok (.iaload, 1) := by decide +kernel
theorem dX7_day_75 : decode cX7_day 75 = .ok (.iconst 1, 1) := by decide +kernel
theorem dX7_day_76 : decode cX7_day 76 = .ok (.if_icmp .ne 29, 3) := by decide +kernel
theorem dX7_day_79 : decode cX7_day 79 = .ok (.aload_n 0, 1) := by decide +kernel
theorem dX7_day_80 : decode cX7_day 80 = .ok (.getfield 40, 3) := by decide +kernel
theorem dX7_day_83 : decode cX7_day 83 = .ok (.iload_n 3, 1) := by decide +kernel
theorem dX7_day_84 : decode cX7_day 84 = .ok (.iaload, 1) := by decide +kernel
theorem dX7_day_85 : decode cX7_day 85 = .ok (.aload_n 0, 1) := by decide +kernel
theorem dX7_day_86 : decode cX7_day 86 = .ok (.getfield 165, 3) := by decide +kernel
theorem dX7_day_89 : decode cX7_day 89 = .ok (.if_icmp .ge 16, 3) := by decide +kernel
theorem dX7_day_92 : decode cX7_day 92 = .ok (.aload_n 0, 1) := by decide +kernel
theorem dX7_day_93 : decode cX7_day 93 = .ok (.iload_n 3, 1) := by decide +kernel
theorem dX7_day_94 : decode cX7_day 94 = .ok (.invokevirtual 304, 3) := by decide +kernel
theorem dX7_day_97 : decode cX7_day 97 = .ok (.ifCond .eq 8, 3) := by decide +kernel
theorem dX7_day_100 : decode cX7_day 100 = .ok (.aload_n 0, 1) := by decide +kernel
theorem dX7_day_101 : decode cX7_day 101 = .ok (.iload_n 3, 1) := by decide +kernel
theorem dX7_day_102 : decode cX7_day 102 = .ok (.invokevirtual 307, 3) := by decide +kernel
theorem dX7_day_105 : decode cX7_day 105 = .ok (.iinc 3 1, 3) := by decide +kernel
theorem dX7_day_108 : decode cX7_day 108 = .ok (.goto (-65), 3) := by decide +kernel
theorem dX7_day_111 : decode cX7_day 111 = .ok (.iinc 2 1, 3) := by decide +kernel
theorem dX7_day_114 : decode cX7_day 114 = .ok (.goto (-88), 3) := by decide +kernel
theorem dX7_day_117 : decode cX7_day 117 = .ok (.aload_n 0, 1) := by decide +kernel
theorem dX7_day_118 : decode cX7_day 118 = .ok (.getfield 165, 3) := by decide +kernel
theorem dX7_day_121 : decode cX7_day 121 = .ok (.ireturn, 1) := by decide +kernel
theorem dX7_sails_0 : decode cX7_sails 0 = .ok (.aload_n 0, 1) := by decide +kernel
theorem dX7_sails_1 : decode cX7_sails 1 = .ok (.getfield 28, 3) := by decide +kernel
theorem dX7_sails_4 : decode cX7_sails 4 = .ok (.iload_n 1, 1) := by decide +kernel
theorem dX7_sails_5 : decode cX7_sails 5 = .ok (.iaload, 1) := by decide +kernel
theorem dX7_sails_6 : decode cX7_sails 6 = .ok (.aload_n 0, 1) := by decide +kernel
theorem dX7_sails_7 : decode cX7_sails 7 = .ok (.getfield 19, 3) := by decide +kernel
theorem dX7_sails_10 : decode cX7_sails 10 = .ok (.aload_n 0, 1) := by decide +kernel
theorem dX7_sails_11 : decode cX7_sails 11 = .ok (.getfield 165, 3) := by decide +kernel
theorem dX7_sails_14 : decode cX7_sails 14 = .ok (.bipush 30, 2) := by decide +kernel
theorem dX7_sails_16 : decode cX7_sails 16 = .ok (.irem, 1) := by decide +kernel
theorem dX7_sails_17 : decode cX7_sails 17 = .ok (.iaload, 1) := by decide +kernel
theorem dX7_sails_18 : decode cX7_sails 18 = .ok (.iadd, 1) := by decide +kernel
theorem dX7_sails_19 : decode cX7_sails 19 = .ok (.istore_n 2, 1) := by decide +kernel
theorem dX7_sails_20 : decode cX7_sails 20 = .ok (.aload_n 0, 1) := by decide +kernel
theorem dX7_sails_21 : decode cX7_sails 21 = .ok (.getfield 43, 3) := by decide +kernel
theorem dX7_sails_24 : decode cX7_sails 24 = .ok (.iload_n 1, 1) := by decide +kernel
theorem dX7_sails_25 : decode cX7_sails 25 = .ok (.dup2, 1) := by decide +kernel
theorem dX7_sails_26 : decode cX7_sails 26 = .ok (.iaload, 1) := by decide +kernel
theorem dX7_sails_27 : decode cX7_sails 27 = .ok (.iload_n 2, 1) := by decide +kernel
theorem dX7_sails_28 : decode cX7_sails 28 = .ok (.iconst 1, 1) := by decide +kernel
theorem dX7_sails_29 : decode cX7_sails 29 = .ok (.if_icmp .ge 7, 3) := by decide +kernel
theorem dX7_sails_32 : decode cX7_sails 32 = .ok (.iconst 1, 1) := by decide +kernel
theorem dX7_sails_33 : decode cX7_sails 33 = .ok (.goto 4, 3) := by decide +kernel
theorem dX7_sails_36 : decode cX7_sails 36 = .ok (.iload_n 2, 1) := by decide +kernel
theorem dX7_sails_37 : decode cX7_sails 37 = .ok (.iadd, 1) := by decide +kernel
theorem dX7_sails_38 : decode cX7_sails 38 = .ok (.iastore, 1) := by decide +kernel
theorem dX7_sails_39 : decode cX7_sails 39 = .ok (.aload_n 0, 1) := by decide +kernel
theorem dX7_sails_40 : decode cX7_sails 40 = .ok (.getfield 37, 3) := by decide +kernel
theorem dX7_sails_43 : decode cX7_sails 43 = .ok (.iload_n 1, 1) := by decide +kernel
theorem dX7_sails_44 : decode cX7_sails 44 = .ok (.iaload, 1) := by decide +kernel
theorem dX7_sails_45 : decode cX7_sails 45 = .ok (.istore_n 3, 1) := by decide +kernel
theorem dX7_sails_46 : decode cX7_sails 46 = .ok (.aload_n 0, 1) := by decide +kernel
theorem dX7_sails_47 : decode cX7_sails 47 = .ok (.getfield 43, 3) := by decide +kernel
theorem dX7_sails_50 : decode cX7_sails 50 = .ok (.iload_n 1, 1) := by decide +kernel
theorem dX7_sails_51 : decode cX7_sails 51 = .ok (.iaload, 1) := by decide +kernel
theorem dX7_sails_52 : decode cX7_sails 52 = .ok (.bipush 10, 2) := by decide +kernel
theorem dX7_sails_54 : decode cX7_sails 54 = .ok (.aload_n 0, 1) := by decide +kernel
theorem dX7_sails_55 : decode cX7_sails 55 = .ok (.getfield 13, 3) := by decide +kernel
theorem dX7_sails_58 : decode cX7_sails 58 = .ok (.iload_n 3, 1) := by decide +kernel
theorem dX7_sails_59 : decode cX7_sails 59 = .ok (.iaload, 1) := by decide +kernel
theorem dX7_sails_60 : decode cX7_sails 60 = .ok (.imul, 1) := by decide +kernel
theorem dX7_sails_61 : decode cX7_sails 61 = .ok (.if_icmp .ge 4, 3) := by decide +kernel
theorem dX7_sails_64 : decode cX7_sails 64 = .ok (.return_, 1) := by decide +kernel
theorem dX7_sails_65 : decode cX7_sails 65 = .ok (.aload_n 0, 1) := by decide +kernel
theorem dX7_sails_66 : decode cX7_sails 66 = .ok (.getfield 34, 3) := by decide +kernel
theorem dX7_sails_69 : decode cX7_sails 69 = .ok (.iload_n 1, 1) := by decide +kernel
theorem dX7_sails_70 : decode cX7_sails 70 = .ok (.iconst 1, 1) := by decide +kernel
theorem dX7_sails_71 : decode cX7_sails 71 = .ok (.iastore, 1) := by decide +kernel
theorem dX7_sails_72 : decode cX7_sails 72 = .ok (.aload_n 0, 1) := by decide +kernel
theorem dX7_sails_73 : decode cX7_sails 73 = .ok (.getfield 43, 3) := by decide +kernel
theorem dX7_sails_76 : decode cX7_sails 76 = .ok (.iload_n 1, 1) := by decide +kernel
theorem dX7_sails_77 : decode cX7_sails 77 = .ok (.iconst 0, 1) := by decide +kernel
theorem dX7_sails_78 : decode cX7_sails 78 = .ok (.iastore, 1) := by decide +kernel
theorem dX7_sails_79 : decode cX7_sails 79 = .ok (.aload_n 0, 1) := by decide +kernel
theorem dX7_sails_80 : decode cX7_sails 80 = .ok (.getfield 40, 3) := by decide +kernel
theorem dX7_sails_83 : decode cX7_sails 83 = .ok (.iload_n 1, 1) := by decide +kernel
theorem dX7_sails_84 : decode cX7_sails 84 = .ok (.aload_n 0, 1) := by decide +kernel
theorem dX7_sails_85 : decode cX7_sails 85 = .ok (.getfield 165, 3) := by decide +kernel
theorem dX7_sails_88 : decode cX7_sails 88 = .ok (.iastore, 1) := by decide +kernel
theorem dX7_sails_89 : decode cX7_sails 89 = .ok (.iconst 0, 1) := by decide +kernel
theorem dX7_sails_90 : decode cX7_sails 90 = .ok (.istore 4, 2) := by decide +kernel
theorem dX7_sails_92 : decode cX7_sails 92 = .ok (.iload 4, 2) := by decide +kernel
theorem dX7_sails_94 : decode cX7_sails 94 = .ok (.aload_n 0, 1) := by decide +kernel
theorem dX7_sails_95 : decode cX7_sails 95 = .ok (.getfield 143, 3) := by decide +kernel
theorem dX7_sails_98 : decode cX7_sails 98 = .ok (.if_icmp .ge 37, 3) := by decide +kernel
theorem dX7_sails_101 : decode cX7_sails 101 = .ok (.aload_n 0, 1) := by decide +kernel
theorem dX7_sails_102 : decode cX7_sails 102 = .ok (.iload 4, 2) := by decide +kernel
theorem dX7_sails_104 : decode cX7_sails 104 = .ok (.iload_n 1, 1) := by decide +kernel
theorem dX7_sails_105 : decode cX7_sails 105 = .ok (.invokevirtual 171, 3) := by decide +kernel
theorem dX7_sails_108 : decode cX7_sails 108 = .ok (.ifCond .eq 21, 3) := by decide +kernel
theorem dX7_sails_111 : decode cX7_sails 111 = .ok (.aload_n 0, 1) := by decide +kernel
theorem dX7_sails_112 : decode cX7_sails 112 = .ok (.getfield 68, 3) := by decide +kernel
theorem dX7_sails_115 : decode cX7_sails 115 = .ok (.iload 4, 2) := by decide +kernel
theorem dX7_sails_117 : decode cX7_sails 117 = .ok (.iaload, 1) := by decide +kernel
theorem dX7_sails_118 : decode cX7_sails 118 = .ok (.iload_n 3, 1) := by decide +kernel
theorem dX7_sails_119 : decode cX7_sails 119 = .ok (.if_icmp .ne 10, 3) := by decide +kernel
theorem dX7_sails_122 : decode cX7_sails 122 = .ok (.aload_n 0, 1) := by decide +kernel
theorem dX7_sails_123 : decode cX7_sails 123 = .ok (.iload 4, 2) := by decide +kernel
theorem dX7_sails_125 : decode cX7_sails 125 = .ok (.iload_n 1, 1) := by decide +kernel
theorem dX7_sails_126 : decode cX7_sails 126 = .ok (.invokevirtual 310, 3) := by decide +kernel
theorem dX7_sails_129 : decode cX7_sails 129 = .ok (.iinc 4 1, 3) := by decide +kernel
theorem dX7_sails_132 : decode cX7_sails 132 = .ok (.goto (-40), 3) := by decide +kernel
theorem dX7_sails_135 : decode cX7_sails 135 = .ok (.return_, 1) := by decide +kernel
theorem dX7_givesOut_0 : decode cX7_givesOut 0 = .ok (.aload_n 0, 1) := by decide +kernel
theorem dX7_givesOut_1 : decode cX7_givesOut 1 = .ok (.iload_n 1, 1) := by decide +kernel
theorem dX7_givesOut_2 : decode cX7_givesOut 2 = .ok (.iconst 2, 1) := by decide +kernel
theorem dX7_givesOut_3 : decode cX7_givesOut 3 = .ok (.invokevirtual 313, 3) := by decide +kernel
theorem dX7_givesOut_6 : decode cX7_givesOut 6 = .ok (.aload_n 0, 1) := by decide +kernel
theorem dX7_givesOut_7 : decode cX7_givesOut 7 = .ok (.getfield 83, 3) := by decide +kernel
theorem dX7_givesOut_10 : decode cX7_givesOut 10 = .ok (.iload_n 1, 1) := by decide +kernel
theorem dX7_givesOut_11 : decode cX7_givesOut 11 = .ok (.iaload, 1) := by decide +kernel
theorem dX7_givesOut_12 : decode cX7_givesOut 12 = .ok (.istore_n 3, 1) := by decide +kernel
theorem dX7_givesOut_13 : decode cX7_givesOut 13 = .ok (.aload_n 0, 1) := by decide +kernel
theorem dX7_givesOut_14 : decode cX7_givesOut 14 = .ok (.getfield 7, 3) := by decide +kernel
theorem dX7_givesOut_17 : decode cX7_givesOut 17 = .ok (.aload_n 0, 1) := by decide +kernel
theorem dX7_givesOut_18 : decode cX7_givesOut 18 = .ok (.getfield 62, 3) := by decide +kernel
theorem dX7_givesOut_21 : decode cX7_givesOut 21 = .ok (.iload_n 1, 1) := by decide +kernel
theorem dX7_givesOut_22 : decode cX7_givesOut 22 = .ok (.iaload, 1) := by decide +kernel
theorem dX7_givesOut_23 : decode cX7_givesOut 23 = .ok (.dup2, 1) := by decide +kernel
theorem dX7_givesOut_24 : decode cX7_givesOut 24 = .ok (.iaload, 1) := by decide +kernel
theorem dX7_givesOut_25 : decode cX7_givesOut 25 = .ok (.iload_n 3, 1) := by decide +kernel
theorem dX7_givesOut_26 : decode cX7_givesOut 26 = .ok (.isub, 1) := by decide +kernel
theorem dX7_givesOut_27 : decode cX7_givesOut 27 = .ok (.iastore, 1) := by decide +kernel
theorem dX7_givesOut_28 : decode cX7_givesOut 28 = .ok (.aload_n 0, 1) := by decide +kernel
theorem dX7_givesOut_29 : decode cX7_givesOut 29 = .ok (.getfield 46, 3) := by decide +kernel
theorem dX7_givesOut_32 : decode cX7_givesOut 32 = .ok (.iload_n 2, 1) := by decide +kernel
theorem dX7_givesOut_33 : decode cX7_givesOut 33 = .ok (.dup2, 1) := by decide +kernel
theorem dX7_givesOut_34 : decode cX7_givesOut 34 = .ok (.iaload, 1) := by decide +kernel
theorem dX7_givesOut_35 : decode cX7_givesOut 35 = .ok (.iload_n 3, 1) := by decide +kernel
theorem dX7_givesOut_36 : decode cX7_givesOut 36 = .ok (.iadd, 1) := by decide +kernel
theorem dX7_givesOut_37 : decode cX7_givesOut 37 = .ok (.iastore, 1) := by decide +kernel
theorem dX7_givesOut_38 : decode cX7_givesOut 38 = .ok (.iload_n 3, 1) := by decide +kernel
theorem dX7_givesOut_39 : decode cX7_givesOut 39 = .ok (.istore 4, 2) := by decide +kernel
theorem dX7_givesOut_41 : decode cX7_givesOut 41 = .ok (.iconst 0, 1) := by decide +kernel
theorem dX7_givesOut_42 : decode cX7_givesOut 42 = .ok (.istore 5, 2) := by decide +kernel
theorem dX7_givesOut_44 : decode cX7_givesOut 44 = .ok (.iload 5, 2) := by decide +kernel
theorem dX7_givesOut_46 : decode cX7_givesOut 46 = .ok (.bipush 10, 2) := by decide +kernel
theorem dX7_givesOut_48 : decode cX7_givesOut 48 = .ok (.if_icmp .ge 47, 3) := by decide +kernel
theorem dX7_givesOut_51 : decode cX7_givesOut 51 = .ok (.iload_n 3, 1) := by decide +kernel
theorem dX7_givesOut_52 : decode cX7_givesOut 52 = .ok (.aload_n 0, 1) := by decide +kernel
theorem dX7_givesOut_53 : decode cX7_givesOut 53 = .ok (.getfield 59, 3) := by decide +kernel
theorem dX7_givesOut_56 : decode cX7_givesOut 56 = .ok (.bipush 10, 2) := by decide +kernel
theorem dX7_givesOut_58 : decode cX7_givesOut 58 = .ok (.iload_n 2, 1) := by decide +kernel
theorem dX7_givesOut_59 : decode cX7_givesOut 59 = .ok (.imul, 1) := by decide +kernel
theorem dX7_givesOut_60 : decode cX7_givesOut 60 = .ok (.iload 5, 2) := by decide +kernel
theorem dX7_givesOut_62 : decode cX7_givesOut 62 = .ok (.iadd, 1) := by decide +kernel
theorem dX7_givesOut_63 : decode cX7_givesOut 63 = .ok (.iaload, 1) := by decide +kernel
theorem dX7_givesOut_64 : decode cX7_givesOut 64 = .ok (.imul, 1) := by decide +kernel
theorem dX7_givesOut_65 : decode cX7_givesOut 65 = .ok (.bipush 24, 2) := by decide +kernel
theorem dX7_givesOut_67 : decode cX7_givesOut 67 = .ok (.idiv, 1) := by decide +kernel
theorem dX7_givesOut_68 : decode cX7_givesOut 68 = .ok (.istore 6, 2) := by decide +kernel
theorem dX7_givesOut_70 : decode cX7_givesOut 70 = .ok (.aload_n 0, 1) := by decide +kernel
theorem dX7_givesOut_71 : decode cX7_givesOut 71 = .ok (.getfield 7, 3) := by decide +kernel
theorem dX7_givesOut_74 : decode cX7_givesOut 74 = .ok (.iload 5, 2) := by decide +kernel
theorem dX7_givesOut_76 : decode cX7_givesOut 76 = .ok (.dup2, 1) := by decide +kernel
theorem dX7_givesOut_77 : decode cX7_givesOut 77 = .ok (.iaload, 1) := by decide +kernel
theorem dX7_givesOut_78 : decode cX7_givesOut 78 = .ok (.iload 6, 2) := by decide +kernel
theorem dX7_givesOut_80 : decode cX7_givesOut 80 = .ok (.iadd, 1) := by decide +kernel
theorem dX7_givesOut_81 : decode cX7_givesOut 81 = .ok (.iastore, 1) := by decide +kernel
theorem dX7_givesOut_82 : decode cX7_givesOut 82 = .ok (.iload 4, 2) := by decide +kernel
theorem dX7_givesOut_84 : decode cX7_givesOut 84 = .ok (.iload 6, 2) := by decide +kernel
theorem dX7_givesOut_86 : decode cX7_givesOut 86 = .ok (.isub, 1) := by decide +kernel
theorem dX7_givesOut_87 : decode cX7_givesOut 87 = .ok (.istore 4, 2) := by decide +kernel
theorem dX7_givesOut_89 : decode cX7_givesOut 89 = .ok (.iinc 5 1, 3) := by decide +kernel
theorem dX7_givesOut_92 : decode cX7_givesOut 92 = .ok (.goto (-48), 3) := by decide +kernel
theorem dX7_givesOut_95 : decode cX7_givesOut 95 = .ok (.aload_n 0, 1) := by decide +kernel
theorem dX7_givesOut_96 : decode cX7_givesOut 96 = .ok (.dup, 1) := by decide +kernel
theorem dX7_givesOut_97 : decode cX7_givesOut 97 = .ok (.getfield 159, 3) := by decide +kernel
theorem dX7_givesOut_100 : decode cX7_givesOut 100 = .ok (.iload 4, 2) := by decide +kernel
theorem dX7_givesOut_102 : decode cX7_givesOut 102 = .ok (.iadd, 1) := by decide +kernel
theorem dX7_givesOut_103 : decode cX7_givesOut 103 = .ok (.putfield 159, 3) := by decide +kernel
theorem dX7_givesOut_106 : decode cX7_givesOut 106 = .ok (.return_, 1) := by decide +kernel
theorem dX7_leaves_0 : decode cX7_leaves 0 = .ok (.aload_n 0, 1) := by decide +kernel
theorem dX7_leaves_1 : decode cX7_leaves 1 = .ok (.iconst 0, 1) := by decide +kernel
theorem dX7_leaves_2 : decode cX7_leaves 2 = .ok (.iload_n 1, 1) := by decide +kernel
theorem dX7_leaves_3 : decode cX7_leaves 3 = .ok (.iconst 0, 1) := by decide +kernel
theorem dX7_leaves_4 : decode cX7_leaves 4 = .ok (.invokevirtual 298, 3) := by decide +kernel
theorem dX7_leaves_7 : decode cX7_leaves 7 = .ok (.istore_n 2, 1) := by decide +kernel
theorem dX7_leaves_8 : decode cX7_leaves 8 = .ok (.iload_n 2, 1) := by decide +kernel
theorem dX7_leaves_9 : decode cX7_leaves 9 = .ok (.ifCond .ge 7, 3) := by decide +kernel
theorem dX7_leaves_12 : decode cX7_leaves 12 = .ok (.iconst 0, 1) := by decide +kernel
theorem dX7_leaves_13 : decode cX7_leaves 13 = .ok (.goto 15, 3) := by decide +kernel
theorem dX7_leaves_16 : decode cX7_leaves 16 = .ok (.iload_n 2, 1) := by decide +kernel
theorem dX7_leaves_17 : decode cX7_leaves 17 = .ok (.bipush 30, 2) := by decide +kernel
theorem dX7_leaves_19 : decode cX7_leaves 19 = .ok (.if_icmp .le 8, 3) := by decide +kernel
theorem dX7_leaves_22 : decode cX7_leaves 22 = .ok (.bipush 30, 2) := by decide +kernel
theorem dX7_leaves_24 : decode cX7_leaves 24 = .ok (.goto 4, 3) := by decide +kernel
theorem dX7_leaves_27 : decode cX7_leaves 27 = .ok (.iload_n 2, 1) := by decide +kernel
theorem dX7_leaves_28 : decode cX7_leaves 28 = .ok (.istore_n 2, 1) := by decide +kernel
theorem dX7_leaves_29 : decode cX7_leaves 29 = .ok (.aload_n 0, 1) := by decide +kernel
theorem dX7_leaves_30 : decode cX7_leaves 30 = .ok (.getfield 165, 3) := by decide +kernel
theorem dX7_leaves_33 : decode cX7_leaves 33 = .ok (.aload_n 0, 1) := by decide +kernel
theorem dX7_leaves_34 : decode cX7_leaves 34 = .ok (.getfield 40, 3) := by decide +kernel
theorem dX7_leaves_37 : decode cX7_leaves 37 = .ok (.iload_n 1, 1) := by decide +kernel
theorem dX7_leaves_38 : decode cX7_leaves 38 = .ok (.iaload, 1) := by decide +kernel
theorem dX7_leaves_39 : decode cX7_leaves 39 = .ok (.isub, 1) := by decide +kernel
theorem dX7_leaves_40 : decode cX7_leaves 40 = .ok (.iload_n 2, 1) := by decide +kernel
theorem dX7_leaves_41 : decode cX7_leaves 41 = .ok (.if_icmp .ge 5, 3) := by decide +kernel
theorem dX7_leaves_44 : decode cX7_leaves 44 = .ok (.iconst 0, 1) := by decide +kernel
theorem dX7_leaves_45 : decode cX7_leaves 45 = .ok (.ireturn, 1) := by decide +kernel
theorem dX7_leaves_46 : decode cX7_leaves 46 = .ok (.iconst 0, 1) := by decide +kernel
theorem dX7_leaves_47 : decode cX7_leaves 47 = .ok (.istore_n 3, 1) := by decide +kernel
theorem dX7_leaves_48 : decode cX7_leaves 48 = .ok (.iload_n 3, 1) := by decide +kernel
theorem dX7_leaves_49 : decode cX7_leaves 49 = .ok (.aload_n 0, 1) := by decide +kernel
theorem dX7_leaves_50 : decode cX7_leaves 50 = .ok (.getfield 140, 3) := by decide +kernel
theorem dX7_leaves_53 : decode cX7_leaves 53 = .ok (.if_icmp .ge 51, 3) := by decide +kernel
theorem dX7_leaves_56 : decode cX7_leaves 56 = .ok (.iload_n 3, 1) := by decide +kernel
theorem dX7_leaves_57 : decode cX7_leaves 57 = .ok (.iload_n 1, 1) := by decide +kernel
theorem dX7_leaves_58 : decode cX7_leaves 58 = .ok (.if_icmp .eq 40, 3) := by decide +kernel
theorem dX7_leaves_61 : decode cX7_leaves 61 = .ok (.aload_n 0, 1) := by decide +kernel
theorem dX7_leaves_62 : decode cX7_leaves 62 = .ok (.getfield 34, 3) := by decide +kernel
theorem dX7_leaves_65 : decode cX7_leaves 65 = .ok (.iload_n 3, 1) := by decide +kernel
theorem dX7_leaves_66 : decode cX7_leaves 66 = .ok (.iaload, 1) := by decide +kernel
theorem dX7_leaves_67 : decode cX7_leaves 67 = .ok (.iconst 2, 1) := by decide +kernel
theorem dX7_leaves_68 : decode cX7_leaves 68 = .ok (.if_icmp .ne 30, 3) := by decide +kernel
theorem dX7_leaves_71 : decode cX7_leaves 71 = .ok (.aload_n 0, 1) := by decide +kernel
theorem dX7_leaves_72 : decode cX7_leaves 72 = .ok (.getfield 37, 3) := by decide +kernel
theorem dX7_leaves_75 : decode cX7_leaves 75 = .ok (.iload_n 3, 1) := by decide +kernel
theorem dX7_leaves_76 : decode cX7_leaves 76 = .ok (.iaload, 1) := by decide +kernel
theorem dX7_leaves_77 : decode cX7_leaves 77 = .ok (.aload_n 0, 1) := by decide +kernel
theorem dX7_leaves_78 : decode cX7_leaves 78 = .ok (.getfield 37, 3) := by decide +kernel
theorem dX7_leaves_81 : decode cX7_leaves 81 = .ok (.iload_n 1, 1) := by decide +kernel
theorem dX7_leaves_82 : decode cX7_leaves 82 = .ok (.iaload, 1) := by decide +kernel
theorem dX7_leaves_83 : decode cX7_leaves 83 = .ok (.if_icmp .ne 15, 3) := by decide +kernel
theorem dX7_leaves_86 : decode cX7_leaves 86 = .ok (.aload_n 0, 1) := by decide +kernel
theorem dX7_leaves_87 : decode cX7_leaves 87 = .ok (.iconst 2, 1) := by decide +kernel
theorem dX7_leaves_88 : decode cX7_leaves 88 = .ok (.iload_n 1, 1) := by decide +kernel
theorem dX7_leaves_89 : decode cX7_leaves 89 = .ok (.iload_n 3, 1) := by decide +kernel
theorem dX7_leaves_90 : decode cX7_leaves 90 = .ok (.invokevirtual 298, 3) := by decide +kernel
theorem dX7_leaves_93 : decode cX7_leaves 93 = .ok (.ifCond .le 5, 3) := by decide +kernel
theorem dX7_leaves_96 : decode cX7_leaves 96 = .ok (.iconst 0, 1) := by decide +kernel
theorem dX7_leaves_97 : decode cX7_leaves 97 = .ok (.ireturn, 1) := by decide +kernel
theorem dX7_leaves_98 : decode cX7_leaves 98 = .ok (.iinc 3 1, 3) := by decide +kernel
theorem dX7_leaves_101 : decode cX7_leaves 101 = .ok (.goto (-53), 3) := by decide +kernel
theorem dX7_leaves_104 : decode cX7_leaves 104 = .ok (.iconst 1, 1) := by decide +kernel
theorem dX7_leaves_105 : decode cX7_leaves 105 = .ok (.ireturn, 1) := by decide +kernel
theorem dX7_goes_0 : decode cX7_goes 0 = .ok (.aload_n 0, 1) := by decide +kernel
theorem dX7_goes_1 : decode cX7_goes 1 = .ok (.getfield 37, 3) := by decide +kernel
theorem dX7_goes_4 : decode cX7_goes 4 = .ok (.iload_n 1, 1) := by decide +kernel
theorem dX7_goes_5 : decode cX7_goes 5 = .ok (.iaload, 1) := by decide +kernel
theorem dX7_goes_6 : decode cX7_goes 6 = .ok (.istore_n 2, 1) := by decide +kernel
theorem dX7_goes_7 : decode cX7_goes 7 = .ok (.iload_n 2, 1) := by decide +kernel
theorem dX7_goes_8 : decode cX7_goes 8 = .ok (.aload_n 0, 1) := by decide +kernel
theorem dX7_goes_9 : decode cX7_goes 9 = .ok (.getfield 137, 3) := by decide +kernel
theorem dX7_goes_12 : decode cX7_goes 12 = .ok (.iconst 1, 1) := by decide +kernel
theorem dX7_goes_13 : decode cX7_goes 13 = .ok (.isub, 1) := by decide +kernel
theorem dX7_goes_14 : decode cX7_goes 14 = .ok (.if_icmp .ne 11, 3) := by decide +kernel
theorem dX7_goes_17 : decode cX7_goes 17 = .ok (.aload_n 0, 1) := by decide +kernel
theorem dX7_goes_18 : decode cX7_goes 18 = .ok (.getfield 34, 3) := by decide +kernel
theorem dX7_goes_21 : decode cX7_goes 21 = .ok (.iload_n 1, 1) := by decide +kernel
theorem dX7_goes_22 : decode cX7_goes 22 = .ok (.iconst 3, 1) := by decide +kernel
theorem dX7_goes_23 : decode cX7_goes 23 = .ok (.iastore, 1) := by decide +kernel
theorem dX7_goes_24 : decode cX7_goes 24 = .ok (.return_, 1) := by decide +kernel
theorem dX7_goes_25 : decode cX7_goes 25 = .ok (.iconst 0, 1) := by decide +kernel
theorem dX7_goes_26 : decode cX7_goes 26 = .ok (.istore_n 3, 1) := by decide +kernel
theorem dX7_goes_27 : decode cX7_goes 27 = .ok (.iload_n 3, 1) := by decide +kernel
theorem dX7_goes_28 : decode cX7_goes 28 = .ok (.aload_n 0, 1) := by decide +kernel
theorem dX7_goes_29 : decode cX7_goes 29 = .ok (.getfield 143, 3) := by decide +kernel
theorem dX7_goes_32 : decode cX7_goes 32 = .ok (.if_icmp .ge 77, 3) := by decide +kernel
theorem dX7_goes_35 : decode cX7_goes 35 = .ok (.aload_n 0, 1) := by decide +kernel
theorem dX7_goes_36 : decode cX7_goes 36 = .ok (.getfield 89, 3) := by decide +kernel
theorem dX7_goes_39 : decode cX7_goes 39 = .ok (.iload_n 3, 1) := by decide +kernel
theorem dX7_goes_40 : decode cX7_goes 40 = .ok (.iaload, 1) := by decide +kernel
theorem dX7_goes_41 : decode cX7_goes 41 = .ok (.ifCond .ne 17, 3) := by decide +kernel
theorem dX7_goes_44 : decode cX7_goes 44 = .ok (.aload_n 0, 1) := by decide +kernel
theorem dX7_goes_45 : decode cX7_goes 45 = .ok (.getfield 65, 3) := by decide +kernel
theorem dX7_goes_48 : decode cX7_goes 48 = .ok (.iload_n 3, 1) := by decide +kernel
theorem dX7_goes_49 : decode cX7_goes 49 = .ok (.iaload, 1) := by decide +kernel
theorem dX7_goes_50 : decode cX7_goes 50 = .ok (.iload_n 2, 1) := by decide +kernel
theorem dX7_goes_51 : decode cX7_goes 51 = .ok (.if_icmp .ne 7, 3) := by decide +kernel
theorem dX7_goes_54 : decode cX7_goes 54 = .ok (.iconst 1, 1) := by decide +kernel
theorem dX7_goes_55 : decode cX7_goes 55 = .ok (.goto 4, 3) := by decide +kernel
theorem dX7_goes_58 : decode cX7_goes 58 = .ok (.iconst 0, 1) := by decide +kernel
theorem dX7_goes_59 : decode cX7_goes 59 = .ok (.istore 4, 2) := by decide +kernel
theorem dX7_goes_61 : decode cX7_goes 61 = .ok (.aload_n 0, 1) := by decide +kernel
theorem dX7_goes_62 : decode cX7_goes 62 = .ok (.getfield 123, 3) := by decide +kernel
theorem dX7_goes_65 : decode cX7_goes 65 = .ok (.iload_n 3, 1) := by decide +kernel
theorem dX7_goes_66 : decode cX7_goes 66 = .ok (.iload 4, 2) := by decide +kernel
theorem dX7_goes_68 : decode cX7_goes 68 = .ok (.ifCond .eq 13, 3) := by decide +kernel
theorem dX7_goes_71 : decode cX7_goes 71 = .ok (.aload_n 0, 1) := by decide +kernel
theorem dX7_goes_72 : decode cX7_goes 72 = .ok (.iconst 1, 1) := by decide +kernel
theorem dX7_goes_73 : decode cX7_goes 73 = .ok (.iload_n 1, 1) := by decide +kernel
theorem dX7_goes_74 : decode cX7_goes 74 = .ok (.iload_n 3, 1) := by decide +kernel
theorem dX7_goes_75 : decode cX7_goes 75 = .ok (.invokevirtual 298, 3) := by decide +kernel
theorem dX7_goes_78 : decode cX7_goes 78 = .ok (.goto 4, 3) := by decide +kernel
theorem dX7_goes_81 : decode cX7_goes 81 = .ok (.iconst 0, 1) := by decide +kernel
theorem dX7_goes_82 : decode cX7_goes 82 = .ok (.iastore, 1) := by decide +kernel
theorem dX7_goes_83 : decode cX7_goes 83 = .ok (.aload_n 0, 1) := by decide +kernel
theorem dX7_goes_84 : decode cX7_goes 84 = .ok (.getfield 126, 3) := by decide +kernel
theorem dX7_goes_87 : decode cX7_goes 87 = .ok (.iload_n 3, 1) := by decide +kernel
theorem dX7_goes_88 : decode cX7_goes 88 = .ok (.aload_n 0, 1) := by decide +kernel
theorem dX7_goes_89 : decode cX7_goes 89 = .ok (.getfield 123, 3) := by decide +kernel
theorem dX7_goes_92 : decode cX7_goes 92 = .ok (.iload_n 3, 1) := by decide +kernel
theorem dX7_goes_93 : decode cX7_goes 93 = .ok (.iaload, 1) := by decide +kernel
theorem dX7_goes_94 : decode cX7_goes 94 = .ok (.ifCond .gt 7, 3) := by decide +kernel
theorem dX7_goes_97 : decode cX7_goes 97 = .ok (.iconst 1, 1) := by decide +kernel
theorem dX7_goes_98 : decode cX7_goes 98 = .ok (.goto 4, 3) := by decide +kernel
theorem dX7_goes_101 : decode cX7_goes 101 = .ok (.iconst 0, 1) := by decide +kernel
theorem dX7_goes_102 : decode cX7_goes 102 = .ok (.bastore, 1) := by decide +kernel
theorem dX7_goes_103 : decode cX7_goes 103 = .ok (.iinc 3 1, 3) := by decide +kernel
theorem dX7_goes_106 : decode cX7_goes 106 = .ok (.goto (-79), 3) := by decide +kernel
theorem dX7_goes_109 : decode cX7_goes 109 = .ok (.aload_n 0, 1) := by decide +kernel
theorem dX7_goes_110 : decode cX7_goes 110 = .ok (.invokevirtual 316, 3) := by decide +kernel
theorem dX7_goes_113 : decode cX7_goes 113 = .ok (.istore_n 3, 1) := by decide +kernel
theorem dX7_goes_114 : decode cX7_goes 114 = .ok (.iload_n 3, 1) := by decide +kernel
theorem dX7_goes_115 : decode cX7_goes 115 = .ok (.ifCond .lt 120, 3) := by decide +kernel
theorem dX7_goes_118 : decode cX7_goes 118 = .ok (.aload_n 0, 1) := by decide +kernel
theorem dX7_goes_119 : decode cX7_goes 119 = .ok (.getfield 126, 3) := by decide +kernel
theorem dX7_goes_122 : decode cX7_goes 122 = .ok (.iload_n 3, 1) := by decide +kernel
theorem dX7_goes_123 : decode cX7_goes 123 = .ok (.iconst 1, 1) := by decide +kernel
theorem dX7_goes_124 : decode cX7_goes 124 = .ok (.bastore, 1) := by decide +kernel
theorem dX7_goes_125 : decode cX7_goes 125 = .ok (.aload_n 0, 1) := by decide +kernel
theorem dX7_goes_126 : decode cX7_goes 126 = .ok (.iload_n 1, 1) := by decide +kernel
theorem dX7_goes_127 : decode cX7_goes 127 = .ok (.invokevirtual 319, 3) := by decide +kernel
theorem dX7_goes_130 : decode cX7_goes 130 = .ok (.aload_n 0, 1) := by decide +kernel
theorem dX7_goes_131 : decode cX7_goes 131 = .ok (.getfield 74, 3) := by decide +kernel
theorem dX7_goes_134 : decode cX7_goes 134 = .ok (.iload_n 3, 1) := by decide +kernel
theorem dX7_goes_135 : decode cX7_goes 135 = .ok (.iaload, 1) := by decide +kernel
theorem dX7_goes_136 : decode cX7_goes 136 = .ok (.iadd, 1) := by decide +kernel
theorem dX7_goes_137 : decode cX7_goes 137 = .ok (.aload_n 0, 1) := by decide +kernel
theorem dX7_goes_138 : decode cX7_goes 138 = .ok (.getfield 22, 3) := by decide +kernel
theorem dX7_goes_141 : decode cX7_goes 141 = .ok (.iload_n 1, 1) := by decide +kernel
theorem dX7_goes_142 : decode cX7_goes 142 = .ok (.iaload, 1) := by decide +kernel
theorem dX7_goes_143 : decode cX7_goes 143 = .ok (.if_icmp .gt 29, 3) := by decide +kernel
theorem dX7_goes_146 : decode cX7_goes 146 = .ok (.aload_n 0, 1) := by decide +kernel
theorem dX7_goes_147 : decode cX7_goes 147 = .ok (.iload_n 1, 1) := by decide +kernel
theorem dX7_goes_148 : decode cX7_goes 148 = .ok (.iconst 0, 1) := by decide +kernel
theorem dX7_goes_149 : decode cX7_goes 149 = .ok (.invokevirtual 283, 3) := by decide +kernel
theorem dX7_goes_152 : decode cX7_goes 152 = .ok (.aload_n 0, 1) := by decide +kernel
theorem dX7_goes_153 : decode cX7_goes 153 = .ok (.getfield 77, 3) := by decide +kernel
theorem dX7_goes_156 : decode cX7_goes 156 = .ok (.iload_n 3, 1) := by decide +kernel
theorem dX7_goes_157 : decode cX7_goes 157 = .ok (.iaload, 1) := by decide +kernel
theorem dX7_goes_158 : decode cX7_goes 158 = .ok (.iadd, 1) := by decide +kernel
theorem dX7_goes_159 : decode cX7_goes 159 = .ok (.aload_n 0, 1) := by decide +kernel
theorem dX7_goes_160 : decode cX7_goes 160 = .ok (.getfield 25, 3) := by decide +kernel
theorem dX7_goes_163 : decode cX7_goes 163 = .ok (.iload_n 1, 1) := by decide +kernel
theorem dX7_goes_164 : decode cX7_goes 164 = .ok (.iaload, 1) := by decide +kernel
theorem dX7_goes_165 : decode cX7_goes 165 = .ok (.if_icmp .gt 7, 3) := by decide +kernel
theorem dX7_goes_168 : decode cX7_goes 168 = .ok (.iconst 1, 1) := by decide +kernel
theorem dX7_goes_169 : decode cX7_goes 169 = .ok (.goto 4, 3) := by decide +kernel
theorem dX7_goes_172 : decode cX7_goes 172 = .ok (.iconst 0, 1) := by decide +kernel
theorem dX7_goes_173 : decode cX7_goes 173 = .ok (.istore 4, 2) := by decide +kernel
theorem dX7_goes_175 : decode cX7_goes 175 = .ok (.iload 4, 2) := by decide +kernel
theorem dX7_goes_177 : decode cX7_goes 177 = .ok (.ifCond .eq 50, 3) := by decide +kernel
theorem dX7_goes_180 : decode cX7_goes 180 = .ok (.aload_n 0, 1) := by decide +kernel
theorem dX7_goes_181 : decode cX7_goes 181 = .ok (.getfield 71, 3) := by decide +kernel
theorem dX7_goes_184 : decode cX7_goes 184 = .ok (.iload_n 3, 1) := by decide +kernel
theorem dX7_goes_185 : decode cX7_goes 185 = .ok (.iaload, 1) := by decide +kernel
theorem dX7_goes_186 : decode cX7_goes 186 = .ok (.iconst 1, 1) := by decide +kernel
theorem dX7_goes_187 : decode cX7_goes 187 = .ok (.if_icmp .ne 27, 3) := by decide +kernel
theorem dX7_goes_190 : decode cX7_goes 190 = .ok (.aload_n 0, 1) := by decide +kernel
theorem dX7_goes_191 : decode cX7_goes 191 = .ok (.iload_n 1, 1) := by decide +kernel
theorem dX7_goes_192 : decode cX7_goes 192 = .ok (.iconst 1, 1) := by decide +kernel
theorem dX7_goes_193 : decode cX7_goes 193 = .ok (.invokevirtual 283, 3) := by decide +kernel
theorem dX7_goes_196 : decode cX7_goes 196 = .ok (.aload_n 0, 1) := by decide +kernel
theorem dX7_goes_197 : decode cX7_goes 197 = .ok (.getfield 77, 3) := by decide +kernel
theorem dX7_goes_200 : decode cX7_goes 200 = .ok (.iload_n 3, 1) := by decide +kernel
theorem dX7_goes_201 : decode cX7_goes 201 = .ok (.iaload, 1) := by decide +kernel
theorem dX7_goes_202 : decode cX7_goes 202 = .ok (.iadd, 1) := by decide +kernel
theorem dX7_goes_203 : decode cX7_goes 203 = .ok (.aload_n 0, 1) := by decide +kernel
theorem dX7_goes_204 : decode cX7_goes 204 = .ok (.getfield 25, 3) := by decide +kernel
theorem dX7_goes_207 : decode cX7_goes 207 = .ok (.iload_n 1, 1) := by decide +kernel
theorem dX7_goes_208 : decode cX7_goes 208 = .ok (.iaload, 1) := by decide +kernel
theorem dX7_goes_209 : decode cX7_goes 209 = .ok (.iconst 2, 1) := by decide +kernel
theorem dX7_goes_210 : decode cX7_goes 210 = .ok (.idiv, 1) := by decide +kernel
theorem dX7_goes_211 : decode cX7_goes 211 = .ok (.if_icmp .gt 16, 3) := by decide +kernel
theorem dX7_goes_214 : decode cX7_goes 214 = .ok (.aload_n 0, 1) := by decide +kernel
theorem dX7_goes_215 : decode cX7_goes 215 = .ok (.iload_n 3, 1) := by decide +kernel
theorem dX7_goes_216 : decode cX7_goes 216 = .ok (.iconst 1, 1) := by decide +kernel
theorem dX7_goes_217 : decode cX7_goes 217 = .ok (.invokevirtual 313, 3) := by decide +kernel
theorem dX7_goes_220 : decode cX7_goes 220 = .ok (.aload_n 0, 1) := by decide +kernel
theorem dX7_goes_221 : decode cX7_goes 221 = .ok (.getfield 92, 3) := by decide +kernel
theorem dX7_goes_224 : decode cX7_goes 224 = .ok (.iload_n 3, 1) := by decide +kernel
theorem dX7_goes_225 : decode cX7_goes 225 = .ok (.iload_n 1, 1) := by decide +kernel
theorem dX7_goes_226 : decode cX7_goes 226 = .ok (.iastore, 1) := by decide +kernel
theorem dX7_goes_227 : decode cX7_goes 227 = .ok (.aload_n 0, 1) := by decide +kernel
theorem dX7_goes_228 : decode cX7_goes 228 = .ok (.invokevirtual 316, 3) := by decide +kernel
theorem dX7_goes_231 : decode cX7_goes 231 = .ok (.istore_n 3, 1) := by decide +kernel
theorem dX7_goes_232 : decode cX7_goes 232 = .ok (.goto (-118), 3) := by decide +kernel
theorem dX7_goes_235 : decode cX7_goes 235 = .ok (.aload_n 0, 1) := by decide +kernel
theorem dX7_goes_236 : decode cX7_goes 236 = .ok (.getfield 34, 3) := by decide +kernel
theorem dX7_goes_239 : decode cX7_goes 239 = .ok (.iload_n 1, 1) := by decide +kernel
theorem dX7_goes_240 : decode cX7_goes 240 = .ok (.iconst 2, 1) := by decide +kernel
theorem dX7_goes_241 : decode cX7_goes 241 = .ok (.iastore, 1) := by decide +kernel
theorem dX7_goes_242 : decode cX7_goes 242 = .ok (.aload_n 0, 1) := by decide +kernel
theorem dX7_goes_243 : decode cX7_goes 243 = .ok (.getfield 37, 3) := by decide +kernel
theorem dX7_goes_246 : decode cX7_goes 246 = .ok (.iload_n 1, 1) := by decide +kernel
theorem dX7_goes_247 : decode cX7_goes 247 = .ok (.iload_n 2, 1) := by decide +kernel
theorem dX7_goes_248 : decode cX7_goes 248 = .ok (.iconst 1, 1) := by decide +kernel
theorem dX7_goes_249 : decode cX7_goes 249 = .ok (.iadd, 1) := by decide +kernel
theorem dX7_goes_250 : decode cX7_goes 250 = .ok (.iastore, 1) := by decide +kernel
theorem dX7_goes_251 : decode cX7_goes 251 = .ok (.aload_n 0, 1) := by decide +kernel
theorem dX7_goes_252 : decode cX7_goes 252 = .ok (.getfield 40, 3) := by decide +kernel
theorem dX7_goes_255 : decode cX7_goes 255 = .ok (.iload_n 1, 1) := by decide +kernel
theorem dX7_goes_256 : decode cX7_goes 256 = .ok (.aload_n 0, 1) := by decide +kernel
theorem dX7_goes_257 : decode cX7_goes 257 = .ok (.getfield 165, 3) := by decide +kernel
theorem dX7_goes_260 : decode cX7_goes 260 = .ok (.iastore, 1) := by decide +kernel
theorem dX7_goes_261 : decode cX7_goes 261 = .ok (.aload_n 0, 1) := by decide +kernel
theorem dX7_goes_262 : decode cX7_goes 262 = .ok (.getfield 43, 3) := by decide +kernel
theorem dX7_goes_265 : decode cX7_goes 265 = .ok (.iload_n 1, 1) := by decide +kernel
theorem dX7_goes_266 : decode cX7_goes 266 = .ok (.iconst 0, 1) := by decide +kernel
theorem dX7_goes_267 : decode cX7_goes 267 = .ok (.iastore, 1) := by decide +kernel
theorem dX7_goes_268 : decode cX7_goes 268 = .ok (.return_, 1) := by decide +kernel
theorem dX7_nextBale_0 : decode cX7_nextBale 0 = .ok (.iconst (-1), 1) := by decide +kernel
theorem dX7_nextBale_1 : decode cX7_nextBale 1 = .ok (.istore_n 1, 1) := by decide +kernel
theorem dX7_nextBale_2 : decode cX7_nextBale 2 = .ok (.iconst 0, 1) := by decide +kernel
theorem dX7_nextBale_3 : decode cX7_nextBale 3 = .ok (.istore_n 2, 1) := by decide +kernel
theorem dX7_nextBale_4 : decode cX7_nextBale 4 = .ok (.iload_n 2, 1) := by decide +kernel
theorem dX7_nextBale_5 : decode cX7_nextBale 5 = .ok (.aload_n 0, 1) := by decide +kernel
theorem dX7_nextBale_6 : decode cX7_nextBale 6 = .ok (.getfield 143, 3) := by decide +kernel
theorem dX7_nextBale_9 : decode cX7_nextBale 9 = .ok (.if_icmp .ge 39, 3) := by decide +kernel
theorem dX7_nextBale_12 : decode cX7_nextBale 12 = .ok (.aload_n 0, 1) := by decide +kernel
theorem dX7_nextBale_13 : decode cX7_nextBale 13 = .ok (.getfield 126, 3) := by decide +kernel
theorem dX7_nextBale_16 : decode cX7_nextBale 16 = .ok (.iload_n 2, 1) := by decide +kernel
theorem dX7_nextBale_17 : decode cX7_nextBale 17 = .ok (.baload, 1) := by decide +kernel
theorem dX7_nextBale_18 : decode cX7_nextBale 18 = .ok (.ifCond .ne 24, 3) := by decide +kernel
theorem dX7_nextBale_21 : decode cX7_nextBale 21 = .ok (.iload_n 1, 1) := by decide +kernel
theorem dX7_nextBale_22 : decode cX7_nextBale 22 = .ok (.ifCond .lt 18, 3) := by decide +kernel
theorem dX7_nextBale_25 : decode cX7_nextBale 25 = .ok (.aload_n 0, 1) := by decide +kernel
theorem dX7_nextBale_26 : decode cX7_nextBale 26 = .ok (.getfield 123, 3) := by decide +kernel
theorem dX7_nextBale_29 : decode cX7_nextBale 29 = .ok (.iload_n 2, 1) := by decide +kernel
theorem dX7_nextBale_30 : decode cX7_nextBale 30 = .ok (.iaload, 1) := by decide +kernel
theorem dX7_nextBale_31 : decode cX7_nextBale 31 = .ok (.aload_n 0, 1) := by decide +kernel
theorem dX7_nextBale_32 : decode cX7_nextBale 32 = .ok (.getfield 123, 3) := by decide +kernel
theorem dX7_nextBale_35 : decode cX7_nextBale 35 = .ok (.iload_n 1, 1) := by decide +kernel
theorem dX7_nextBale_36 : decode cX7_nextBale 36 = .ok (.iaload, 1) := by decide +kernel
theorem dX7_nextBale_37 : decode cX7_nextBale 37 = .ok (.if_icmp .le 5, 3) := by decide +kernel
theorem dX7_nextBale_40 : decode cX7_nextBale 40 = .ok (.iload_n 2, 1) := by decide +kernel
theorem dX7_nextBale_41 : decode cX7_nextBale 41 = .ok (.istore_n 1, 1) := by decide +kernel
theorem dX7_nextBale_42 : decode cX7_nextBale 42 = .ok (.iinc 2 1, 3) := by decide +kernel
theorem dX7_nextBale_45 : decode cX7_nextBale 45 = .ok (.goto (-41), 3) := by decide +kernel
theorem dX7_nextBale_48 : decode cX7_nextBale 48 = .ok (.iload_n 1, 1) := by decide +kernel
theorem dX7_nextBale_49 : decode cX7_nextBale 49 = .ok (.ireturn, 1) := by decide +kernel
theorem dX7_toss_0 : decode cX7_toss 0 = .ok (.aload_n 0, 1) := by decide +kernel
theorem dX7_toss_1 : decode cX7_toss 1 = .ok (.iload_n 1, 1) := by decide +kernel
theorem dX7_toss_2 : decode cX7_toss 2 = .ok (.invokevirtual 155, 3) := by decide +kernel
theorem dX7_toss_5 : decode cX7_toss 5 = .ok (.ifCond .eq 13, 3) := by decide +kernel
theorem dX7_toss_8 : decode cX7_toss 8 = .ok (.iload_n 2, 1) := by decide +kernel
theorem dX7_toss_9 : decode cX7_toss 9 = .ok (.iconst 1, 1) := by decide +kernel
theorem dX7_toss_10 : decode cX7_toss 10 = .ok (.ldc 150, 2) := by decide +kernel
theorem dX7_toss_12 : decode cX7_toss 12 = .ok (.invokestatic 133, 3) := by decide +kernel
theorem dX7_toss_15 : decode cX7_toss 15 = .ok (.ifCond .ne 5, 3) := by decide +kernel
theorem dX7_toss_18 : decode cX7_toss 18 = .ok (.iconst (-1), 1) := by decide +kernel
theorem dX7_toss_19 : decode cX7_toss 19 = .ok (.ireturn, 1) := by decide +kernel
theorem dX7_toss_20 : decode cX7_toss 20 = .ok (.aload_n 0, 1) := by decide +kernel
theorem dX7_toss_21 : decode cX7_toss 21 = .ok (.getfield 34, 3) := by decide +kernel
theorem dX7_toss_24 : decode cX7_toss 24 = .ok (.iload_n 1, 1) := by decide +kernel
theorem dX7_toss_25 : decode cX7_toss 25 = .ok (.iaload, 1) := by decide +kernel
theorem dX7_toss_26 : decode cX7_toss 26 = .ok (.iconst 2, 1) := by decide +kernel
theorem dX7_toss_27 : decode cX7_toss 27 = .ok (.if_icmp .ne 11, 3) := by decide +kernel
theorem dX7_toss_30 : decode cX7_toss 30 = .ok (.aload_n 0, 1) := by decide +kernel
theorem dX7_toss_31 : decode cX7_toss 31 = .ok (.iload_n 1, 1) := by decide +kernel
theorem dX7_toss_32 : decode cX7_toss 32 = .ok (.invokevirtual 322, 3) := by decide +kernel
theorem dX7_toss_35 : decode cX7_toss 35 = .ok (.ifCond .ne 6, 3) := by decide +kernel
theorem dX7_toss_38 : decode cX7_toss 38 = .ok (.bipush (-2), 2) := by decide +kernel
theorem dX7_toss_40 : decode cX7_toss 40 = .ok (.ireturn, 1) := by decide +kernel
theorem dX7_toss_41 : decode cX7_toss 41 = .ok (.aload_n 0, 1) := by decide +kernel
theorem dX7_toss_42 : decode cX7_toss 42 = .ok (.getfield 31, 3) := by decide +kernel
theorem dX7_toss_45 : decode cX7_toss 45 = .ok (.iload_n 1, 1) := by decide +kernel
theorem dX7_toss_46 : decode cX7_toss 46 = .ok (.iaload, 1) := by decide +kernel
theorem dX7_toss_47 : decode cX7_toss 47 = .ok (.i2l, 1) := by decide +kernel
theorem dX7_toss_48 : decode cX7_toss 48 = .ok (.lstore_n 3, 1) := by decide +kernel
theorem dX7_toss_49 : decode cX7_toss 49 = .ok (.iconst 0, 1) := by decide +kernel
theorem dX7_toss_50 : decode cX7_toss 50 = .ok (.istore 5, 2) := by decide +kernel
theorem dX7_toss_52 : decode cX7_toss 52 = .ok (.iload 5, 2) := by decide +kernel
theorem dX7_toss_54 : decode cX7_toss 54 = .ok (.aload_n 0, 1) := by decide +kernel
theorem dX7_toss_55 : decode cX7_toss 55 = .ok (.getfield 143, 3) := by decide +kernel
theorem dX7_toss_58 : decode cX7_toss 58 = .ok (.if_icmp .ge 48, 3) := by decide +kernel
theorem dX7_toss_61 : decode cX7_toss 61 = .ok (.aload_n 0, 1) := by decide +kernel
theorem dX7_toss_62 : decode cX7_toss 62 = .ok (.getfield 126, 3) := by decide +kernel
theorem dX7_toss_65 : decode cX7_toss 65 = .ok (.iload 5, 2) := by decide +kernel
theorem dX7_toss_67 : decode cX7_toss 67 = .ok (.aload_n 0, 1) := by decide +kernel
theorem dX7_toss_68 : decode cX7_toss 68 = .ok (.iload 5, 2) := by decide +kernel
theorem dX7_toss_70 : decode cX7_toss 70 = .ok (.iload_n 1, 1) := by decide +kernel
theorem dX7_toss_71 : decode cX7_toss 71 = .ok (.invokevirtual 171, 3) := by decide +kernel
theorem dX7_toss_74 : decode cX7_toss 74 = .ok (.bastore, 1) := by decide +kernel
theorem dX7_toss_75 : decode cX7_toss 75 = .ok (.lload_n 3, 1) := by decide +kernel
theorem dX7_toss_76 : decode cX7_toss 76 = .ok (.aload_n 0, 1) := by decide +kernel
theorem dX7_toss_77 : decode cX7_toss 77 = .ok (.getfield 126, 3) := by decide +kernel
theorem dX7_toss_80 : decode cX7_toss 80 = .ok (.iload 5, 2) := by decide +kernel
theorem dX7_toss_82 : decode cX7_toss 82 = .ok (.baload, 1) := by decide +kernel
theorem dX7_toss_83 : decode cX7_toss 83 = .ok (.ifCond .eq 14, 3) := by decide +kernel
theorem dX7_toss_86 : decode cX7_toss 86 = .ok (.aload_n 0, 1) := by decide +kernel
theorem dX7_toss_87 : decode cX7_toss 87 = .ok (.getfield 80, 3) := by decide +kernel
theorem dX7_toss_90 : decode cX7_toss 90 = .ok (.iload 5, 2) := by decide +kernel
theorem dX7_toss_92 : decode cX7_toss 92 = .ok (.iaload, 1) := by decide +kernel
theorem dX7_toss_93 : decode cX7_toss 93 = .ok (.i2l, 1) := by decide +kernel
theorem dX7_toss_94 : decode cX7_toss 94 = .ok (.goto 4, 3) := by decide +kernel
theorem dX7_toss_97 : decode cX7_toss 97 = .ok (.lconst 0, 1) := by decide +kernel
theorem dX7_toss_98 : decode cX7_toss 98 = .ok (.ladd, 1) := by decide +kernel
theorem dX7_toss_99 : decode cX7_toss 99 = .ok (.lstore_n 3, 1) := by decide +kernel
theorem dX7_toss_100 : decode cX7_toss 100 = .ok (.iinc 5 1, 3) := by decide +kernel
theorem dX7_toss_103 : decode cX7_toss 103 = .ok (.goto (-51), 3) := by decide +kernel
theorem dX7_toss_106 : decode cX7_toss 106 = .ok (.iconst 0, 1) := by decide +kernel
theorem dX7_toss_107 : decode cX7_toss 107 = .ok (.istore 5, 2) := by decide +kernel
theorem dX7_toss_109 : decode cX7_toss 109 = .ok (.iconst 0, 1) := by decide +kernel
theorem dX7_toss_110 : decode cX7_toss 110 = .ok (.istore 6, 2) := by decide +kernel
theorem dX7_toss_112 : decode cX7_toss 112 = .ok (.aload_n 0, 1) := by decide +kernel
theorem dX7_toss_113 : decode cX7_toss 113 = .ok (.iload_n 1, 1) := by decide +kernel
theorem dX7_toss_114 : decode cX7_toss 114 = .ok (.invokevirtual 325, 3) := by decide +kernel
theorem dX7_toss_117 : decode cX7_toss 117 = .ok (.istore 7, 2) := by decide +kernel
theorem dX7_toss_119 : decode cX7_toss 119 = .ok (.iload 6, 2) := by decide +kernel
theorem dX7_toss_121 : decode cX7_toss 121 = .ok (.iload_n 2, 1) := by decide +kernel
theorem dX7_toss_122 : decode cX7_toss 122 = .ok (.if_icmp .ge 71, 3) := by decide +kernel
theorem dX7_toss_125 : decode cX7_toss 125 = .ok (.iload 7, 2) := by decide +kernel
theorem dX7_toss_127 : decode cX7_toss 127 = .ok (.ifCond .lt 66, 3) := by decide +kernel
theorem dX7_toss_130 : decode cX7_toss 130 = .ok (.aload_n 0, 1) := by decide +kernel
theorem dX7_toss_131 : decode cX7_toss 131 = .ok (.iload 7, 2) := by decide +kernel
theorem dX7_toss_133 : decode cX7_toss 133 = .ok (.iconst 3, 1) := by decide +kernel
theorem dX7_toss_134 : decode cX7_toss 134 = .ok (.invokevirtual 313, 3) := by decide +kernel
theorem dX7_toss_137 : decode cX7_toss 137 = .ok (.iload 5, 2) := by decide +kernel
theorem dX7_toss_139 : decode cX7_toss 139 = .ok (.aload_n 0, 1) := by decide +kernel
theorem dX7_toss_140 : decode cX7_toss 140 = .ok (.getfield 80, 3) := by decide +kernel
theorem dX7_toss_143 : decode cX7_toss 143 = .ok (.iload 7, 2) := by decide +kernel
theorem dX7_toss_145 : decode cX7_toss 145 = .ok (.iaload, 1) := by decide +kernel
theorem dX7_toss_146 : decode cX7_toss 146 = .ok (.iadd, 1) := by decide +kernel
theorem dX7_toss_147 : decode cX7_toss 147 = .ok (.istore 5, 2) := by decide +kernel
theorem dX7_toss_149 : decode cX7_toss 149 = .ok (.iload 6, 2) := by decide +kernel
theorem dX7_toss_151 : decode cX7_toss 151 = .ok (.aload_n 0, 1) := by decide +kernel
theorem dX7_toss_152 : decode cX7_toss 152 = .ok (.getfield 77, 3) := by decide +kernel
theorem dX7_toss_155 : decode cX7_toss 155 = .ok (.iload 7, 2) := by decide +kernel
theorem dX7_toss_157 : decode cX7_toss 157 = .ok (.iaload, 1) := by decide +kernel
theorem dX7_toss_158 : decode cX7_toss 158 = .ok (.iadd, 1) := by decide +kernel
theorem dX7_toss_159 : decode cX7_toss 159 = .ok (.istore 6, 2) := by decide +kernel
theorem dX7_toss_161 : decode cX7_toss 161 = .ok (.aload_n 0, 1) := by decide +kernel
theorem dX7_toss_162 : decode cX7_toss 162 = .ok (.getfield 7, 3) := by decide +kernel
theorem dX7_toss_165 : decode cX7_toss 165 = .ok (.aload_n 0, 1) := by decide +kernel
theorem dX7_toss_166 : decode cX7_toss 166 = .ok (.getfield 62, 3) := by decide +kernel
theorem dX7_toss_169 : decode cX7_toss 169 = .ok (.iload 7, 2) := by decide +kernel
theorem dX7_toss_171 : decode cX7_toss 171 = .ok (.iaload, 1) := by decide +kernel
theorem dX7_toss_172 : decode cX7_toss 172 = .ok (.dup2, 1) := by decide +kernel
theorem dX7_toss_173 : decode cX7_toss 173 = .ok (.iaload, 1) := by decide +kernel
theorem dX7_toss_174 : decode cX7_toss 174 = .ok (.aload_n 0, 1) := by decide +kernel
theorem dX7_toss_175 : decode cX7_toss 175 = .ok (.getfield 80, 3) := by decide +kernel
theorem dX7_toss_178 : decode cX7_toss 178 = .ok (.iload 7, 2) := by decide +kernel
theorem dX7_toss_180 : decode cX7_toss 180 = .ok (.iaload, 1) := by decide +kernel
theorem dX7_toss_181 : decode cX7_toss 181 = .ok (.iadd, 1) := by decide +kernel
theorem dX7_toss_182 : decode cX7_toss 182 = .ok (.iastore, 1) := by decide +kernel
theorem dX7_toss_183 : decode cX7_toss 183 = .ok (.aload_n 0, 1) := by decide +kernel
theorem dX7_toss_184 : decode cX7_toss 184 = .ok (.iload_n 1, 1) := by decide +kernel
theorem dX7_toss_185 : decode cX7_toss 185 = .ok (.invokevirtual 325, 3) := by decide +kernel
theorem dX7_toss_188 : decode cX7_toss 188 = .ok (.istore 7, 2) := by decide +kernel
theorem dX7_toss_190 : decode cX7_toss 190 = .ok (.goto (-71), 3) := by decide +kernel
theorem dX7_toss_193 : decode cX7_toss 193 = .ok (.iload 5, 2) := by decide +kernel
theorem dX7_toss_195 : decode cX7_toss 195 = .ok (.istore 8, 2) := by decide +kernel
theorem dX7_toss_197 : decode cX7_toss 197 = .ok (.iconst 0, 1) := by decide +kernel
theorem dX7_toss_198 : decode cX7_toss 198 = .ok (.istore 9, 2) := by decide +kernel
theorem dX7_toss_200 : decode cX7_toss 200 = .ok (.iload 9, 2) := by decide +kernel
theorem dX7_toss_202 : decode cX7_toss 202 = .ok (.aload_n 0, 1) := by decide +kernel
theorem dX7_toss_203 : decode cX7_toss 203 = .ok (.getfield 143, 3) := by decide +kernel
theorem dX7_toss_206 : decode cX7_toss 206 = .ok (.if_icmp .ge 63, 3) := by decide +kernel
theorem dX7_toss_209 : decode cX7_toss 209 = .ok (.aload_n 0, 1) := by decide +kernel
theorem dX7_toss_210 : decode cX7_toss 210 = .ok (.getfield 126, 3) := by decide +kernel
theorem dX7_toss_213 : decode cX7_toss 213 = .ok (.iload 9, 2) := by decide +kernel
theorem dX7_toss_215 : decode cX7_toss 215 = .ok (.baload, 1) := by decide +kernel
theorem dX7_toss_216 : decode cX7_toss 216 = .ok (.ifCond .ne 6, 3) := by decide +kernel
theorem dX7_toss_219 : decode cX7_toss 219 = .ok (.goto 44, 3) := by decide +kernel
theorem dX7_toss_222 : decode cX7_toss 222 = .ok (.iload 5, 2) := by decide +kernel
theorem dX7_toss_224 : decode cX7_toss 224 = .ok (.i2l, 1) := by decide +kernel
theorem dX7_toss_225 : decode cX7_toss 225 = .ok (.aload_n 0, 1) := by decide +kernel
theorem dX7_toss_226 : decode cX7_toss 226 = .ok (.getfield 80, 3) := by decide +kernel
theorem dX7_toss_229 : decode cX7_toss 229 = .ok (.iload 9, 2) := by decide +kernel
theorem dX7_toss_231 : decode cX7_toss 231 = .ok (.iaload, 1) := by decide +kernel
theorem dX7_toss_232 : decode cX7_toss 232 = .ok (.i2l, 1) := by decide +kernel
theorem dX7_toss_233 : decode cX7_toss 233 = .ok (.lmul, 1) := by decide +kernel
theorem dX7_toss_234 : decode cX7_toss 234 = .ok (.lload_n 3, 1) := by decide +kernel
theorem dX7_toss_235 : decode cX7_toss 235 = .ok (.ldiv, 1) := by decide +kernel
theorem dX7_toss_236 : decode cX7_toss 236 = .ok (.l2i, 1) := by decide +kernel
theorem dX7_toss_237 : decode cX7_toss 237 = .ok (.istore 10, 2) := by decide +kernel
theorem dX7_toss_239 : decode cX7_toss 239 = .ok (.aload_n 0, 1) := by decide +kernel
theorem dX7_toss_240 : decode cX7_toss 240 = .ok (.getfield 7, 3) := by decide +kernel
theorem dX7_toss_243 : decode cX7_toss 243 = .ok (.aload_n 0, 1) := by decide +kernel
theorem dX7_toss_244 : decode cX7_toss 244 = .ok (.getfield 62, 3) := by decide +kernel
theorem dX7_toss_247 : decode cX7_toss 247 = .ok (.iload 9, 2) := by decide +kernel
theorem dX7_toss_249 : decode cX7_toss 249 = .ok (.iaload, 1) := by decide +kernel
theorem dX7_toss_250 : decode cX7_toss 250 = .ok (.dup2, 1) := by decide +kernel
theorem dX7_toss_251 : decode cX7_toss 251 = .ok (.iaload, 1) := by decide +kernel
theorem dX7_toss_252 : decode cX7_toss 252 = .ok (.iload 10, 2) := by decide +kernel
theorem dX7_toss_254 : decode cX7_toss 254 = .ok (.isub, 1) := by decide +kernel
theorem dX7_toss_255 : decode cX7_toss 255 = .ok (.iastore, 1) := by decide +kernel
theorem dX7_toss_256 : decode cX7_toss 256 = .ok (.iload 8, 2) := by decide +kernel
theorem dX7_toss_258 : decode cX7_toss 258 = .ok (.iload 10, 2) := by decide +kernel
theorem dX7_toss_260 : decode cX7_toss 260 = .ok (.isub, 1) := by decide +kernel
theorem dX7_toss_261 : decode cX7_toss 261 = .ok (.istore 8, 2) := by decide +kernel
theorem dX7_toss_263 : decode cX7_toss 263 = .ok (.iinc 9 1, 3) := by decide +kernel
theorem dX7_toss_266 : decode cX7_toss 266 = .ok (.goto (-66), 3) := by decide +kernel
theorem dX7_toss_269 : decode cX7_toss 269 = .ok (.aload_n 0, 1) := by decide +kernel
theorem dX7_toss_270 : decode cX7_toss 270 = .ok (.dup, 1) := by decide +kernel
theorem dX7_toss_271 : decode cX7_toss 271 = .ok (.getfield 159, 3) := by decide +kernel
theorem dX7_toss_274 : decode cX7_toss 274 = .ok (.iload 8, 2) := by decide +kernel
theorem dX7_toss_276 : decode cX7_toss 276 = .ok (.isub, 1) := by decide +kernel
theorem dX7_toss_277 : decode cX7_toss 277 = .ok (.putfield 159, 3) := by decide +kernel
theorem dX7_toss_280 : decode cX7_toss 280 = .ok (.iload 5, 2) := by decide +kernel
theorem dX7_toss_282 : decode cX7_toss 282 = .ok (.ireturn, 1) := by decide +kernel
theorem dX7_heaviest_0 : decode cX7_heaviest 0 = .ok (.iconst (-1), 1) := by decide +kernel
theorem dX7_heaviest_1 : decode cX7_heaviest 1 = .ok (.istore_n 2, 1) := by decide +kernel
theorem dX7_heaviest_2 : decode cX7_heaviest 2 = .ok (.iconst 0, 1) := by decide +kernel
theorem dX7_heaviest_3 : decode cX7_heaviest 3 = .ok (.istore_n 3, 1) := by decide +kernel
theorem dX7_heaviest_4 : decode cX7_heaviest 4 = .ok (.iload_n 3, 1) := by decide +kernel
theorem dX7_heaviest_5 : decode cX7_heaviest 5 = .ok (.aload_n 0, 1) := by decide +kernel
theorem dX7_heaviest_6 : decode cX7_heaviest 6 = .ok (.getfield 143, 3) := by decide +kernel
theorem dX7_heaviest_9 : decode cX7_heaviest 9 = .ok (.if_icmp .ge 39, 3) := by decide +kernel
theorem dX7_heaviest_12 : decode cX7_heaviest 12 = .ok (.aload_n 0, 1) := by decide +kernel
theorem dX7_heaviest_13 : decode cX7_heaviest 13 = .ok (.iload_n 3, 1) := by decide +kernel
theorem dX7_heaviest_14 : decode cX7_heaviest 14 = .ok (.iload_n 1, 1) := by decide +kernel
theorem dX7_heaviest_15 : decode cX7_heaviest 15 = .ok (.invokevirtual 171, 3) := by decide +kernel
theorem dX7_heaviest_18 : decode cX7_heaviest 18 = .ok (.ifCond .eq 24, 3) := by decide +kernel
theorem dX7_heaviest_21 : decode cX7_heaviest 21 = .ok (.iload_n 2, 1) := by decide +kernel
theorem dX7_heaviest_22 : decode cX7_heaviest 22 = .ok (.ifCond .lt 18, 3) := by decide +kernel
theorem dX7_heaviest_25 : decode cX7_heaviest 25 = .ok (.aload_n 0, 1) := by decide +kernel
theorem dX7_heaviest_26 : decode cX7_heaviest 26 = .ok (.getfield 77, 3) := by decide +kernel
theorem dX7_heaviest_29 : decode cX7_heaviest 29 = .ok (.iload_n 3, 1) := by decide +kernel
theorem dX7_heaviest_30 : decode cX7_heaviest 30 = .ok (.iaload, 1) := by decide +kernel
theorem dX7_heaviest_31 : decode cX7_heaviest 31 = .ok (.aload_n 0, 1) := by decide +kernel
theorem dX7_heaviest_32 : decode cX7_heaviest 32 = .ok (.getfield 77, 3) := by decide +kernel
theorem dX7_heaviest_35 : decode cX7_heaviest 35 = .ok (.iload_n 2, 1) := by decide +kernel
theorem dX7_heaviest_36 : decode cX7_heaviest 36 = .ok (.iaload, 1) := by decide +kernel
theorem dX7_heaviest_37 : decode cX7_heaviest 37 = .ok (.if_icmp .le 5, 3) := by decide +kernel
theorem dX7_heaviest_40 : decode cX7_heaviest 40 = .ok (.iload_n 3, 1) := by decide +kernel
theorem dX7_heaviest_41 : decode cX7_heaviest 41 = .ok (.istore_n 2, 1) := by decide +kernel
theorem dX7_heaviest_42 : decode cX7_heaviest 42 = .ok (.iinc 3 1, 3) := by decide +kernel
theorem dX7_heaviest_45 : decode cX7_heaviest 45 = .ok (.goto (-41), 3) := by decide +kernel
theorem dX7_heaviest_48 : decode cX7_heaviest 48 = .ok (.iload_n 2, 1) := by decide +kernel
theorem dX7_heaviest_49 : decode cX7_heaviest 49 = .ok (.ireturn, 1) := by decide +kernel
theorem dX7_ship_0 : decode cX7_ship 0 = .ok (.aload_n 0, 1) := by decide +kernel
theorem dX7_ship_1 : decode cX7_ship 1 = .ok (.iload_n 1, 1) := by decide +kernel
theorem dX7_ship_2 : decode cX7_ship 2 = .ok (.invokevirtual 155, 3) := by decide +kernel
theorem dX7_ship_5 : decode cX7_ship 5 = .ok (.ifCond .ne 6, 3) := by decide +kernel
theorem dX7_ship_8 : decode cX7_ship 8 = .ok (.bipush (-2), 2) := by decide +kernel
theorem dX7_ship_10 : decode cX7_ship 10 = .ok (.ireturn, 1) := by decide +kernel
theorem dX7_ship_11 : decode cX7_ship 11 = .ok (.iload_n 2, 1) := by decide +kernel
theorem dX7_ship_12 : decode cX7_ship 12 = .ok (.tableswitch 132 0 9 #[56, 63, 70, 77, 84, 90, 96, 103, 110, 117], 56) := by decide +kernel
theorem dX7_ship_68 : decode cX7_ship 68 = .ok (.aload_n 0, 1) := by decide +kernel
theorem dX7_ship_69 : decode cX7_ship 69 = .ok (.getfield 34, 3) := by decide +kernel
theorem dX7_ship_72 : decode cX7_ship 72 = .ok (.iload_n 1, 1) := by decide +kernel
theorem dX7_ship_73 : decode cX7_ship 73 = .ok (.iaload, 1) := by decide +kernel
theorem dX7_ship_74 : decode cX7_ship 74 = .ok (.ireturn, 1) := by decide +kernel
theorem dX7_ship_75 : decode cX7_ship 75 = .ok (.aload_n 0, 1) := by decide +kernel
theorem dX7_ship_76 : decode cX7_ship 76 = .ok (.getfield 37, 3) := by decide +kernel
theorem dX7_ship_79 : decode cX7_ship 79 = .ok (.iload_n 1, 1) := by decide +kernel
theorem dX7_ship_80 : decode cX7_ship 80 = .ok (.iaload, 1) := by decide +kernel
theorem dX7_ship_81 : decode cX7_ship 81 = .ok (.ireturn, 1) := by decide +kernel
theorem dX7_ship_82 : decode cX7_ship 82 = .ok (.aload_n 0, 1) := by decide +kernel
theorem dX7_ship_83 : decode cX7_ship 83 = .ok (.getfield 40, 3) := by decide +kernel
theorem dX7_ship_86 : decode cX7_ship 86 = .ok (.iload_n 1, 1) := by decide +kernel
theorem dX7_ship_87 : decode cX7_ship 87 = .ok (.iaload, 1) := by decide +kernel
theorem dX7_ship_88 : decode cX7_ship 88 = .ok (.ireturn, 1) := by decide +kernel
theorem dX7_ship_89 : decode cX7_ship 89 = .ok (.aload_n 0, 1) := by decide +kernel
theorem dX7_ship_90 : decode cX7_ship 90 = .ok (.getfield 43, 3) := by decide +kernel
theorem dX7_ship_93 : decode cX7_ship 93 = .ok (.iload_n 1, 1) := by decide +kernel
theorem dX7_ship_94 : decode cX7_ship 94 = .ok (.iaload, 1) := by decide +kernel
theorem dX7_ship_95 : decode cX7_ship 95 = .ok (.ireturn, 1) := by decide +kernel
theorem dX7_ship_96 : decode cX7_ship 96 = .ok (.aload_n 0, 1) := by decide +kernel
theorem dX7_ship_97 : decode cX7_ship 97 = .ok (.iload_n 1, 1) := by decide +kernel
theorem dX7_ship_98 : decode cX7_ship 98 = .ok (.invokevirtual 322, 3) := by decide +kernel
theorem dX7_ship_101 : decode cX7_ship 101 = .ok (.ireturn, 1) := by decide +kernel
theorem dX7_ship_102 : decode cX7_ship 102 = .ok (.aload_n 0, 1) := by decide +kernel
theorem dX7_ship_103 : decode cX7_ship 103 = .ok (.iload_n 1, 1) := by decide +kernel
theorem dX7_ship_104 : decode cX7_ship 104 = .ok (.invokevirtual 319, 3) := by decide +kernel
theorem dX7_ship_107 : decode cX7_ship 107 = .ok (.ireturn, 1) := by decide +kernel
theorem dX7_ship_108 : decode cX7_ship 108 = .ok (.aload_n 0, 1) := by decide +kernel
theorem dX7_ship_109 : decode cX7_ship 109 = .ok (.iload_n 1, 1) := by decide +kernel
theorem dX7_ship_110 : decode cX7_ship 110 = .ok (.iconst 0, 1) := by decide +kernel
theorem dX7_ship_111 : decode cX7_ship 111 = .ok (.invokevirtual 283, 3) := by decide +kernel
theorem dX7_ship_114 : decode cX7_ship 114 = .ok (.ireturn, 1) := by decide +kernel
theorem dX7_ship_115 : decode cX7_ship 115 = .ok (.aload_n 0, 1) := by decide +kernel
theorem dX7_ship_116 : decode cX7_ship 116 = .ok (.getfield 46, 3) := by decide +kernel
theorem dX7_ship_119 : decode cX7_ship 119 = .ok (.iload_n 1, 1) := by decide +kernel
theorem dX7_ship_120 : decode cX7_ship 120 = .ok (.iaload, 1) := by decide +kernel
theorem dX7_ship_121 : decode cX7_ship 121 = .ok (.ireturn, 1) := by decide +kernel
theorem dX7_ship_122 : decode cX7_ship 122 = .ok (.aload_n 0, 1) := by decide +kernel
theorem dX7_ship_123 : decode cX7_ship 123 = .ok (.getfield 49, 3) := by decide +kernel
theorem dX7_ship_126 : decode cX7_ship 126 = .ok (.iload_n 1, 1) := by decide +kernel
theorem dX7_ship_127 : decode cX7_ship 127 = .ok (.iaload, 1) := by decide +kernel
theorem dX7_ship_128 : decode cX7_ship 128 = .ok (.ireturn, 1) := by decide +kernel
theorem dX7_ship_129 : decode cX7_ship 129 = .ok (.aload_n 0, 1) := by decide +kernel
theorem dX7_ship_130 : decode cX7_ship 130 = .ok (.getfield 55, 3) := by decide +kernel
theorem dX7_ship_133 : decode cX7_ship 133 = .ok (.iload_n 1, 1) := by decide +kernel
theorem dX7_ship_134 : decode cX7_ship 134 = .ok (.baload, 1) := by decide +kernel
theorem dX7_ship_135 : decode cX7_ship 135 = .ok (.ifCond .eq 7, 3) := by decide +kernel
theorem dX7_ship_138 : decode cX7_ship 138 = .ok (.iconst 1, 1) := by decide +kernel
theorem dX7_ship_139 : decode cX7_ship 139 = .ok (.goto 4, 3) := by decide +kernel
theorem dX7_ship_142 : decode cX7_ship 142 = .ok (.iconst 0, 1) := by decide +kernel
theorem dX7_ship_143 : decode cX7_ship 143 = .ok (.ireturn, 1) := by decide +kernel
theorem dX7_ship_144 : decode cX7_ship 144 = .ok (.bipush (-2), 2) := by decide +kernel
theorem dX7_ship_146 : decode cX7_ship 146 = .ok (.ireturn, 1) := by decide +kernel
theorem dX7_balesAs_0 : decode cX7_balesAs 0 = .ok (.iconst 0, 1) := by decide +kernel
theorem dX7_balesAs_1 : decode cX7_balesAs 1 = .ok (.istore_n 2, 1) := by decide +kernel
theorem dX7_balesAs_2 : decode cX7_balesAs 2 = .ok (.iconst 0, 1) := by decide +kernel
theorem dX7_balesAs_3 : decode cX7_balesAs 3 = .ok (.istore_n 3, 1) := by decide +kernel
theorem dX7_balesAs_4 : decode cX7_balesAs 4 = .ok (.iload_n 3, 1) := by decide +kernel
theorem dX7_balesAs_5 : decode cX7_balesAs 5 = .ok (.aload_n 0, 1) := by decide +kernel
theorem dX7_balesAs_6 : decode cX7_balesAs 6 = .ok (.getfield 143, 3) := by decide +kernel
theorem dX7_balesAs_9 : decode cX7_balesAs 9 = .ok (.if_icmp .ge 27, 3) := by decide +kernel
theorem dX7_balesAs_12 : decode cX7_balesAs 12 = .ok (.iload_n 2, 1) := by decide +kernel
theorem dX7_balesAs_13 : decode cX7_balesAs 13 = .ok (.aload_n 0, 1) := by decide +kernel
theorem dX7_balesAs_14 : decode cX7_balesAs 14 = .ok (.getfield 89, 3) := by decide +kernel
theorem dX7_balesAs_17 : decode cX7_balesAs 17 = .ok (.iload_n 3, 1) := by decide +kernel
theorem dX7_balesAs_18 : decode cX7_balesAs 18 = .ok (.iaload, 1) := by decide +kernel
theorem dX7_balesAs_19 : decode cX7_balesAs 19 = .ok (.iload_n 1, 1) := by decide +kernel
theorem dX7_balesAs_20 : decode cX7_balesAs 20 = .ok (.if_icmp .ne 7, 3) := by decide +kernel
theorem dX7_balesAs_23 : decode cX7_balesAs 23 = .ok (.iconst 1, 1) := by decide +kernel
theorem dX7_balesAs_24 : decode cX7_balesAs 24 = .ok (.goto 4, 3) := by decide +kernel
theorem dX7_balesAs_27 : decode cX7_balesAs 27 = .ok (.iconst 0, 1) := by decide +kernel
theorem dX7_balesAs_28 : decode cX7_balesAs 28 = .ok (.iadd, 1) := by decide +kernel
theorem dX7_balesAs_29 : decode cX7_balesAs 29 = .ok (.istore_n 2, 1) := by decide +kernel
theorem dX7_balesAs_30 : decode cX7_balesAs 30 = .ok (.iinc 3 1, 3) := by decide +kernel
theorem dX7_balesAs_33 : decode cX7_balesAs 33 = .ok (.goto (-29), 3) := by decide +kernel
theorem dX7_balesAs_36 : decode cX7_balesAs 36 = .ok (.iload_n 2, 1) := by decide +kernel
theorem dX7_balesAs_37 : decode cX7_balesAs 37 = .ok (.ireturn, 1) := by decide +kernel
theorem dX7_count_0 : decode cX7_count 0 = .ok (.iload_n 1, 1) := by decide +kernel
theorem dX7_count_1 : decode cX7_count 1 = .ok (.tableswitch 93 0 9 #[55, 60, 65, 70, 75, 80, 80, 80, 80, 88], 55) := by decide +kernel
theorem dX7_count_56 : decode cX7_count 56 = .ok (.aload_n 0, 1) := by decide +kernel
theorem dX7_count_57 : decode cX7_count 57 = .ok (.getfield 137, 3) := by decide +kernel
theorem dX7_count_60 : decode cX7_count 60 = .ok (.ireturn, 1) := by decide +kernel
theorem dX7_count_61 : decode cX7_count 61 = .ok (.aload_n 0, 1) := by decide +kernel
theorem dX7_count_62 : decode cX7_count 62 = .ok (.getfield 140, 3) := by decide +kernel
theorem dX7_count_65 : decode cX7_count 65 = .ok (.ireturn, 1) := by decide +kernel
theorem dX7_count_66 : decode cX7_count 66 = .ok (.aload_n 0, 1) := by decide +kernel
theorem dX7_count_67 : decode cX7_count 67 = .ok (.getfield 143, 3) := by decide +kernel
theorem dX7_count_70 : decode cX7_count 70 = .ok (.ireturn, 1) := by decide +kernel
theorem dX7_count_71 : decode cX7_count 71 = .ok (.aload_n 0, 1) := by decide +kernel
theorem dX7_count_72 : decode cX7_count 72 = .ok (.getfield 256, 3) := by decide +kernel
theorem dX7_count_75 : decode cX7_count 75 = .ok (.ireturn, 1) := by decide +kernel
theorem dX7_count_76 : decode cX7_count 76 = .ok (.aload_n 0, 1) := by decide +kernel
theorem dX7_count_77 : decode cX7_count 77 = .ok (.getfield 165, 3) := by decide +kernel
theorem dX7_count_80 : decode cX7_count 80 = .ok (.ireturn, 1) := by decide +kernel
theorem dX7_count_81 : decode cX7_count 81 = .ok (.aload_n 0, 1) := by decide +kernel
theorem dX7_count_82 : decode cX7_count 82 = .ok (.iload_n 1, 1) := by decide +kernel
theorem dX7_count_83 : decode cX7_count 83 = .ok (.iconst 5, 1) := by decide +kernel
theorem dX7_count_84 : decode cX7_count 84 = .ok (.isub, 1) := by decide +kernel
theorem dX7_count_85 : decode cX7_count 85 = .ok (.invokevirtual 328, 3) := by decide +kernel
theorem dX7_count_88 : decode cX7_count 88 = .ok (.ireturn, 1) := by decide +kernel
theorem dX7_count_89 : decode cX7_count 89 = .ok (.aload_n 0, 1) := by decide +kernel
theorem dX7_count_90 : decode cX7_count 90 = .ok (.getfield 175, 3) := by decide +kernel
theorem dX7_count_93 : decode cX7_count 93 = .ok (.ireturn, 1) := by decide +kernel
theorem dX7_count_94 : decode cX7_count 94 = .ok (.iconst (-1), 1) := by decide +kernel
theorem dX7_count_95 : decode cX7_count 95 = .ok (.ireturn, 1) := by decide +kernel
theorem dX7_coins_0 : decode cX7_coins 0 = .ok (.iload_n 1, 1) := by decide +kernel
theorem dX7_coins_1 : decode cX7_coins 1 = .ok (.invokestatic 146, 3) := by decide +kernel
theorem dX7_coins_4 : decode cX7_coins 4 = .ok (.ifCond .eq 12, 3) := by decide +kernel
theorem dX7_coins_7 : decode cX7_coins 7 = .ok (.aload_n 0, 1) := by decide +kernel
theorem dX7_coins_8 : decode cX7_coins 8 = .ok (.getfield 7, 3) := by decide +kernel
theorem dX7_coins_11 : decode cX7_coins 11 = .ok (.iload_n 1, 1) := by decide +kernel
theorem dX7_coins_12 : decode cX7_coins 12 = .ok (.iaload, 1) := by decide +kernel
theorem dX7_coins_13 : decode cX7_coins 13 = .ok (.goto 31, 3) := by decide +kernel
theorem dX7_coins_16 : decode cX7_coins 16 = .ok (.iload_n 1, 1) := by decide +kernel
theorem dX7_coins_17 : decode cX7_coins 17 = .ok (.bipush 10, 2) := by decide +kernel
theorem dX7_coins_19 : decode cX7_coins 19 = .ok (.if_icmp .ne 10, 3) := by decide +kernel
theorem dX7_coins_22 : decode cX7_coins 22 = .ok (.aload_n 0, 1) := by decide +kernel
theorem dX7_coins_23 : decode cX7_coins 23 = .ok (.getfield 159, 3) := by decide +kernel
theorem dX7_coins_26 : decode cX7_coins 26 = .ok (.goto 18, 3) := by decide +kernel
theorem dX7_coins_29 : decode cX7_coins 29 = .ok (.iload_n 1, 1) := by decide +kernel
theorem dX7_coins_30 : decode cX7_coins 30 = .ok (.bipush 11, 2) := by decide +kernel
theorem dX7_coins_32 : decode cX7_coins 32 = .ok (.if_icmp .ne 10, 3) := by decide +kernel
theorem dX7_coins_35 : decode cX7_coins 35 = .ok (.aload_n 0, 1) := by decide +kernel
theorem dX7_coins_36 : decode cX7_coins 36 = .ok (.getfield 152, 3) := by decide +kernel
theorem dX7_coins_39 : decode cX7_coins 39 = .ok (.goto 5, 3) := by decide +kernel
theorem dX7_coins_42 : decode cX7_coins 42 = .ok (.ldc 151, 2) := by decide +kernel
theorem dX7_coins_44 : decode cX7_coins 44 = .ok (.ireturn, 1) := by decide +kernel
end
section
theorem dX6_init_0 : decode cX6_init 0 = .ok (.aload_n 0, 1) := by decide +kernel
theorem dX6_init_1 : decode cX6_init 1 = .ok (.invokespecial 1, 3) := by decide +kernel
theorem dX6_init_4 : decode cX6_init 4 = .ok (.aload_n 0, 1) := by decide +kernel
theorem dX6_init_5 : decode cX6_init 5 = .ok (.bipush 10, 2) := by decide +kernel
theorem dX6_init_7 : decode cX6_init 7 = .ok (.newarray .int, 2) := by decide +kernel
theorem dX6_init_9 : decode cX6_init 9 = .ok (.putfield 9, 3) := by decide +kernel
theorem dX6_init_12 : decode cX6_init 12 = .ok (.aload_n 0, 1) := by decide +kernel
theorem dX6_init_13 : decode cX6_init 13 = .ok (.bipush 12, 2) := by decide +kernel
theorem dX6_init_15 : decode cX6_init 15 = .ok (.newarray .int, 2) := by decide +kernel
theorem dX6_init_17 : decode cX6_init 17 = .ok (.putfield 13, 3) := by decide +kernel
theorem dX6_init_20 : decode cX6_init 20 = .ok (.aload_n 0, 1) := by decide +kernel
theorem dX6_init_21 : decode cX6_init 21 = .ok (.bipush 12, 2) := by decide +kernel
theorem dX6_init_23 : decode cX6_init 23 = .ok (.newarray .int, 2) := by decide +kernel
theorem dX6_init_25 : decode cX6_init 25 = .ok (.putfield 16, 3) := by decide +kernel
theorem dX6_init_28 : decode cX6_init 28 = .ok (.aload_n 0, 1) := by decide +kernel
theorem dX6_init_29 : decode cX6_init 29 = .ok (.bipush 30, 2) := by decide +kernel
theorem dX6_init_31 : decode cX6_init 31 = .ok (.newarray .int, 2) := by decide +kernel
theorem dX6_init_33 : decode cX6_init 33 = .ok (.putfield 19, 3) := by decide +kernel
theorem dX6_init_36 : decode cX6_init 36 = .ok (.aload_n 0, 1) := by decide +kernel
theorem dX6_init_37 : decode cX6_init 37 = .ok (.new 22, 3) := by decide +kernel
theorem dX6_init_40 : decode cX6_init 40 = .ok (.dup, 1) := by decide +kernel
theorem dX6_init_41 : decode cX6_init 41 = .ok (.invokespecial 24, 3) := by decide +kernel
theorem dX6_init_44 : decode cX6_init 44 = .ok (.putfield 25, 3) := by decide +kernel
theorem dX6_init_47 : decode cX6_init 47 = .ok (.aload_n 0, 1) := by decide +kernel
theorem dX6_init_48 : decode cX6_init 48 = .ok (.new 22, 3) := by decide +kernel
theorem dX6_init_51 : decode cX6_init 51 = .ok (.dup, 1) := by decide +kernel
theorem dX6_init_52 : decode cX6_init 52 = .ok (.invokespecial 24, 3) := by decide +kernel
theorem dX6_init_55 : decode cX6_init 55 = .ok (.putfield 29, 3) := by decide +kernel
theorem dX6_init_58 : decode cX6_init 58 = .ok (.aload_n 0, 1) := by decide +kernel
theorem dX6_init_59 : decode cX6_init 59 = .ok (.new 22, 3) := by decide +kernel
theorem dX6_init_62 : decode cX6_init 62 = .ok (.dup, 1) := by decide +kernel
theorem dX6_init_63 : decode cX6_init 63 = .ok (.invokespecial 24, 3) := by decide +kernel
theorem dX6_init_66 : decode cX6_init 66 = .ok (.putfield 32, 3) := by decide +kernel
theorem dX6_init_69 : decode cX6_init 69 = .ok (.aload_n 0, 1) := by decide +kernel
theorem dX6_init_70 : decode cX6_init 70 = .ok (.new 35, 3) := by decide +kernel
theorem dX6_init_73 : decode cX6_init 73 = .ok (.dup, 1) := by decide +kernel
theorem dX6_init_74 : decode cX6_init 74 = .ok (.invokespecial 37, 3) := by decide +kernel
theorem dX6_init_77 : decode cX6_init 77 = .ok (.putfield 38, 3) := by decide +kernel
theorem dX6_init_80 : decode cX6_init 80 = .ok (.aload_n 0, 1) := by decide +kernel
theorem dX6_init_81 : decode cX6_init 81 = .ok (.new 42, 3) := by decide +kernel
theorem dX6_init_84 : decode cX6_init 84 = .ok (.dup, 1) := by decide +kernel
theorem dX6_init_85 : decode cX6_init 85 = .ok (.invokespecial 44, 3) := by decide +kernel
theorem dX6_init_88 : decode cX6_init 88 = .ok (.putfield 45, 3) := by decide +kernel
theorem dX6_init_91 : decode cX6_init 91 = .ok (.aload_n 0, 1) := by decide +kernel
theorem dX6_init_92 : decode cX6_init 92 = .ok (.new 22, 3) := by decide +kernel
theorem dX6_init_95 : decode cX6_init 95 = .ok (.dup, 1) := by decide +kernel
theorem dX6_init_96 : decode cX6_init 96 = .ok (.invokespecial 24, 3) := by decide +kernel
theorem dX6_init_99 : decode cX6_init 99 = .ok (.putfield 49, 3) := by decide +kernel
theorem dX6_init_102 : decode cX6_init 102 = .ok (.return_, 1) := by decide +kernel
theorem dX6_purse_0 : decode cX6_purse 0 = .ok (.iload_n 1, 1) := by decide +kernel
theorem dX6_purse_1 : decode cX6_purse 1 = .ok (.invokestatic 52, 3) := by decide +kernel
theorem dX6_purse_4 : decode cX6_purse 4 = .ok (.ifCond .eq 13, 3) := by decide +kernel
theorem dX6_purse_7 : decode cX6_purse 7 = .ok (.iload_n 2, 1) := by decide +kernel
theorem dX6_purse_8 : decode cX6_purse 8 = .ok (.iconst 1, 1) := by decide +kernel
theorem dX6_purse_9 : decode cX6_purse 9 = .ok (.ldc 56, 2) := by decide +kernel
theorem dX6_purse_11 : decode cX6_purse 11 = .ok (.invokestatic 57, 3) := by decide +kernel
theorem dX6_purse_14 : decode cX6_purse 14 = .ok (.ifCond .ne 6, 3) := by decide +kernel
theorem dX6_purse_17 : decode cX6_purse 17 = .ok (.ldc 61, 2) := by decide +kernel
theorem dX6_purse_19 : decode cX6_purse 19 = .ok (.ireturn, 1) := by decide +kernel
theorem dX6_purse_20 : decode cX6_purse 20 = .ok (.aload_n 0, 1) := by decide +kernel
theorem dX6_purse_21 : decode cX6_purse 21 = .ok (.getfield 9, 3) := by decide +kernel
theorem dX6_purse_24 : decode cX6_purse 24 = .ok (.iload_n 1, 1) := by decide +kernel
theorem dX6_purse_25 : decode cX6_purse 25 = .ok (.dup2, 1) := by decide +kernel
theorem dX6_purse_26 : decode cX6_purse 26 = .ok (.iaload, 1) := by decide +kernel
theorem dX6_purse_27 : decode cX6_purse 27 = .ok (.iload_n 2, 1) := by decide +kernel
theorem dX6_purse_28 : decode cX6_purse 28 = .ok (.iadd, 1) := by decide +kernel
theorem dX6_purse_29 : decode cX6_purse 29 = .ok (.iastore, 1) := by decide +kernel
theorem dX6_purse_30 : decode cX6_purse 30 = .ok (.aload_n 0, 1) := by decide +kernel
theorem dX6_purse_31 : decode cX6_purse 31 = .ok (.dup, 1) := by decide +kernel
theorem dX6_purse_32 : decode cX6_purse 32 = .ok (.getfield 62, 3) := by decide +kernel
theorem dX6_purse_35 : decode cX6_purse 35 = .ok (.iload_n 2, 1) := by decide +kernel
theorem dX6_purse_36 : decode cX6_purse 36 = .ok (.iadd, 1) := by decide +kernel
theorem dX6_purse_37 : decode cX6_purse 37 = .ok (.putfield 62, 3) := by decide +kernel
theorem dX6_purse_40 : decode cX6_purse 40 = .ok (.aload_n 0, 1) := by decide +kernel
theorem dX6_purse_41 : decode cX6_purse 41 = .ok (.getfield 9, 3) := by decide +kernel
theorem dX6_purse_44 : decode cX6_purse 44 = .ok (.iload_n 1, 1) := by decide +kernel
theorem dX6_purse_45 : decode cX6_purse 45 = .ok (.iaload, 1) := by decide +kernel
theorem dX6_purse_46 : decode cX6_purse 46 = .ok (.ireturn, 1) := by decide +kernel
theorem dX6_port_0 : decode cX6_port 0 = .ok (.aload_n 0, 1) := by decide +kernel
theorem dX6_port_1 : decode cX6_port 1 = .ok (.getfield 66, 3) := by decide +kernel
theorem dX6_port_4 : decode cX6_port 4 = .ok (.ifCond .ne 7, 3) := by decide +kernel
theorem dX6_port_7 : decode cX6_port 7 = .ok (.iconst 1, 1) := by decide +kernel
theorem dX6_port_8 : decode cX6_port 8 = .ok (.goto 4, 3) := by decide +kernel
theorem dX6_port_11 : decode cX6_port 11 = .ok (.iconst 0, 1) := by decide +kernel
theorem dX6_port_12 : decode cX6_port 12 = .ok (.istore_n 2, 1) := by decide +kernel
theorem dX6_port_13 : decode cX6_port 13 = .ok (.iload_n 2, 1) := by decide +kernel
theorem dX6_port_14 : decode cX6_port 14 = .ok (.ifCond .eq 10, 3) := by decide +kernel
theorem dX6_port_17 : decode cX6_port 17 = .ok (.iload_n 1, 1) := by decide +kernel
theorem dX6_port_18 : decode cX6_port 18 = .ok (.ifCond .eq 18, 3) := by decide +kernel
theorem dX6_port_21 : decode cX6_port 21 = .ok (.goto 13, 3) := by decide +kernel
theorem dX6_port_24 : decode cX6_port 24 = .ok (.iload_n 1, 1) := by decide +kernel
theorem dX6_port_25 : decode cX6_port 25 = .ok (.iconst 1, 1) := by decide +kernel
theorem dX6_port_26 : decode cX6_port 26 = .ok (.bipush 9, 2) := by decide +kernel
theorem dX6_port_28 : decode cX6_port 28 = .ok (.invokestatic 57, 3) := by decide +kernel
theorem dX6_port_31 : decode cX6_port 31 = .ok (.ifCond .ne 5, 3) := by decide +kernel
theorem dX6_port_34 : decode cX6_port 34 = .ok (.iconst (-1), 1) := by decide +kernel
theorem dX6_port_35 : decode cX6_port 35 = .ok (.ireturn, 1) := by decide +kernel
theorem dX6_port_36 : decode cX6_port 36 = .ok (.aload_n 0, 1) := by decide +kernel
theorem dX6_port_37 : decode cX6_port 37 = .ok (.invokevirtual 69, 3) := by decide +kernel
theorem dX6_port_40 : decode cX6_port 40 = .ok (.ifCond .ne 6, 3) := by decide +kernel
theorem dX6_port_43 : decode cX6_port 43 = .ok (.bipush (-2), 2) := by decide +kernel
theorem dX6_port_45 : decode cX6_port 45 = .ok (.ireturn, 1) := by decide +kernel
theorem dX6_port_46 : decode cX6_port 46 = .ok (.aload_n 0, 1) := by decide +kernel
theorem dX6_port_47 : decode cX6_port 47 = .ok (.getfield 66, 3) := by decide +kernel
theorem dX6_port_50 : decode cX6_port 50 = .ok (.bipush 12, 2) := by decide +kernel
theorem dX6_port_52 : decode cX6_port 52 = .ok (.if_icmp .lt 6, 3) := by decide +kernel
theorem dX6_port_55 : decode cX6_port 55 = .ok (.bipush (-3), 2) := by decide +kernel
theorem dX6_port_57 : decode cX6_port 57 = .ok (.ireturn, 1) := by decide +kernel
theorem dX6_port_58 : decode cX6_port 58 = .ok (.aload_n 0, 1) := by decide +kernel
theorem dX6_port_59 : decode cX6_port 59 = .ok (.getfield 66, 3) := by decide +kernel
theorem dX6_port_62 : decode cX6_port 62 = .ok (.istore_n 3, 1) := by decide +kernel
theorem dX6_port_63 : decode cX6_port 63 = .ok (.aload_n 0, 1) := by decide +kernel
theorem dX6_port_64 : decode cX6_port 64 = .ok (.getfield 13, 3) := by decide +kernel
theorem dX6_port_67 : decode cX6_port 67 = .ok (.iload_n 3, 1) := by decide +kernel
theorem dX6_port_68 : decode cX6_port 68 = .ok (.iload_n 1, 1) := by decide +kernel
theorem dX6_port_69 : decode cX6_port 69 = .ok (.iastore, 1) := by decide +kernel
theorem dX6_port_70 : decode cX6_port 70 = .ok (.aload_n 0, 1) := by decide +kernel
theorem dX6_port_71 : decode cX6_port 71 = .ok (.getfield 16, 3) := by decide +kernel
theorem dX6_port_74 : decode cX6_port 74 = .ok (.iload_n 3, 1) := by decide +kernel
theorem dX6_port_75 : decode cX6_port 75 = .ok (.iload_n 2, 1) := by decide +kernel
theorem dX6_port_76 : decode cX6_port 76 = .ok (.ifCond .eq 7, 3) := by decide +kernel
theorem dX6_port_79 : decode cX6_port 79 = .ok (.iconst 0, 1) := by decide +kernel
theorem dX6_port_80 : decode cX6_port 80 = .ok (.goto 13, 3) := by decide +kernel
theorem dX6_port_83 : decode cX6_port 83 = .ok (.aload_n 0, 1) := by decide +kernel
theorem dX6_port_84 : decode cX6_port 84 = .ok (.getfield 16, 3) := by decide +kernel
theorem dX6_port_87 : decode cX6_port 87 = .ok (.iload_n 3, 1) := by decide +kernel
theorem dX6_port_88 : decode cX6_port 88 = .ok (.iconst 1, 1) := by decide +kernel
theorem dX6_port_89 : decode cX6_port 89 = .ok (.isub, 1) := by decide +kernel
theorem dX6_port_90 : decode cX6_port 90 = .ok (.iaload, 1) := by decide +kernel
theorem dX6_port_91 : decode cX6_port 91 = .ok (.iload_n 1, 1) := by decide +kernel
theorem dX6_port_92 : decode cX6_port 92 = .ok (.iadd, 1) := by decide +kernel
theorem dX6_port_93 : decode cX6_port 93 = .ok (.iastore, 1) := by decide +kernel
theorem dX6_port_94 : decode cX6_port 94 = .ok (.aload_n 0, 1) := by decide +kernel
theorem dX6_port_95 : decode cX6_port 95 = .ok (.dup, 1) := by decide +kernel
theorem dX6_port_96 : decode cX6_port 96 = .ok (.getfield 66, 3) := by decide +kernel
theorem dX6_port_99 : decode cX6_port 99 = .ok (.iconst 1, 1) := by decide +kernel
theorem dX6_port_100 : decode cX6_port 100 = .ok (.iadd, 1) := by decide +kernel
theorem dX6_port_101 : decode cX6_port 101 = .ok (.putfield 66, 3) := by decide +kernel
theorem dX6_port_104 : decode cX6_port 104 = .ok (.iload_n 3, 1) := by decide +kernel
theorem dX6_port_105 : decode cX6_port 105 = .ok (.ireturn, 1) := by decide +kernel
theorem dX6_wind_0 : decode cX6_wind 0 = .ok (.iload_n 1, 1) := by decide +kernel
theorem dX6_wind_1 : decode cX6_wind 1 = .ok (.iconst 0, 1) := by decide +kernel
theorem dX6_wind_2 : decode cX6_wind 2 = .ok (.bipush 29, 2) := by decide +kernel
theorem dX6_wind_4 : decode cX6_wind 4 = .ok (.invokestatic 57, 3) := by decide +kernel
theorem dX6_wind_7 : decode cX6_wind 7 = .ok (.ifCond .eq 14, 3) := by decide +kernel
theorem dX6_wind_10 : decode cX6_wind 10 = .ok (.iload_n 2, 1) := by decide +kernel
theorem dX6_wind_11 : decode cX6_wind 11 = .ok (.bipush (-9), 2) := by decide +kernel
theorem dX6_wind_13 : decode cX6_wind 13 = .ok (.bipush 9, 2) := by decide +kernel
theorem dX6_wind_15 : decode cX6_wind 15 = .ok (.invokestatic 57, 3) := by decide +kernel
theorem dX6_wind_18 : decode cX6_wind 18 = .ok (.ifCond .ne 6, 3) := by decide +kernel
theorem dX6_wind_21 : decode cX6_wind 21 = .ok (.bipush (-100), 2) := by decide +kernel
theorem dX6_wind_23 : decode cX6_wind 23 = .ok (.ireturn, 1) := by decide +kernel
theorem dX6_wind_24 : decode cX6_wind 24 = .ok (.aload_n 0, 1) := by decide +kernel
theorem dX6_wind_25 : decode cX6_wind 25 = .ok (.getfield 19, 3) := by decide +kernel
theorem dX6_wind_28 : decode cX6_wind 28 = .ok (.iload_n 1, 1) := by decide +kernel
theorem dX6_wind_29 : decode cX6_wind 29 = .ok (.iaload, 1) := by decide +kernel
theorem dX6_wind_30 : decode cX6_wind 30 = .ok (.istore_n 3, 1) := by decide +kernel
theorem dX6_wind_31 : decode cX6_wind 31 = .ok (.aload_n 0, 1) := by decide +kernel
theorem dX6_wind_32 : decode cX6_wind 32 = .ok (.getfield 19, 3) := by decide +kernel
theorem dX6_wind_35 : decode cX6_wind 35 = .ok (.iload_n 1, 1) := by decide +kernel
theorem dX6_wind_36 : decode cX6_wind 36 = .ok (.iload_n 2, 1) := by decide +kernel
theorem dX6_wind_37 : decode cX6_wind 37 = .ok (.iastore, 1) := by decide +kernel
theorem dX6_wind_38 : decode cX6_wind 38 = .ok (.iload_n 3, 1) := by decide +kernel
theorem dX6_wind_39 : decode cX6_wind 39 = .ok (.ireturn, 1) := by decide +kernel
theorem dX6_galley_0 : decode cX6_galley 0 = .ok (.iload_n 1, 1) := by decide +kernel
theorem dX6_galley_1 : decode cX6_galley 1 = .ok (.iconst 1, 1) := by decide +kernel
theorem dX6_galley_2 : decode cX6_galley 2 = .ok (.sipush 999, 3) := by decide +kernel
theorem dX6_galley_5 : decode cX6_galley 5 = .ok (.invokestatic 57, 3) := by decide +kernel
theorem dX6_galley_8 : decode cX6_galley 8 = .ok (.ifCond .eq 36, 3) := by decide +kernel
theorem dX6_galley_11 : decode cX6_galley 11 = .ok (.iload_n 2, 1) := by decide +kernel
theorem dX6_galley_12 : decode cX6_galley 12 = .ok (.iconst 1, 1) := by decide +kernel
theorem dX6_galley_13 : decode cX6_galley 13 = .ok (.sipush 9999, 3) := by decide +kernel
theorem dX6_galley_16 : decode cX6_galley 16 = .ok (.invokestatic 57, 3) := by decide +kernel
theorem dX6_galley_19 : decode cX6_galley 19 = .ok (.ifCond .eq 25, 3) := by decide +kernel
theorem dX6_galley_22 : decode cX6_galley 22 = .ok (.iload_n 3, 1) := by decide +kernel
theorem dX6_galley_23 : decode cX6_galley 23 = .ok (.iconst 1, 1) := by decide +kernel
theorem dX6_galley_24 : decode cX6_galley 24 = .ok (.bipush 9, 2) := by decide +kernel
theorem dX6_galley_26 : decode cX6_galley 26 = .ok (.invokestatic 57, 3) := by decide +kernel
theorem dX6_galley_29 : decode cX6_galley 29 = .ok (.ifCond .eq 15, 3) := by decide +kernel
theorem dX6_galley_32 : decode cX6_galley 32 = .ok (.iload 4, 2) := by decide +kernel
theorem dX6_galley_34 : decode cX6_galley 34 = .ok (.iconst 1, 1) := by decide +kernel
theorem dX6_galley_35 : decode cX6_galley 35 = .ok (.sipush 9999, 3) := by decide +kernel
theorem dX6_galley_38 : decode cX6_galley 38 = .ok (.invokestatic 57, 3) := by decide +kernel
theorem dX6_galley_41 : decode cX6_galley 41 = .ok (.ifCond .ne 5, 3) := by decide +kernel
theorem dX6_galley_44 : decode cX6_galley 44 = .ok (.iconst (-1), 1) := by decide +kernel
theorem dX6_galley_45 : decode cX6_galley 45 = .ok (.ireturn, 1) := by decide +kernel
theorem dX6_galley_46 : decode cX6_galley 46 = .ok (.aload_n 0, 1) := by decide +kernel
theorem dX6_galley_47 : decode cX6_galley 47 = .ok (.getfield 25, 3) := by decide +kernel
theorem dX6_galley_50 : decode cX6_galley 50 = .ok (.invokevirtual 73, 3) := by decide +kernel
theorem dX6_galley_53 : decode cX6_galley 53 = .ok (.istore 5, 2) := by decide +kernel
theorem dX6_galley_55 : decode cX6_galley 55 = .ok (.iload 5, 2) := by decide +kernel
theorem dX6_galley_57 : decode cX6_galley 57 = .ok (.bipush 8, 2) := by decide +kernel
theorem dX6_galley_59 : decode cX6_galley 59 = .ok (.if_icmp .lt 6, 3) := by decide +kernel
theorem dX6_galley_62 : decode cX6_galley 62 = .ok (.bipush (-3), 2) := by decide +kernel
theorem dX6_galley_64 : decode cX6_galley 64 = .ok (.ireturn, 1) := by decide +kernel
theorem dX6_galley_65 : decode cX6_galley 65 = .ok (.aload_n 0, 1) := by decide +kernel
theorem dX6_galley_66 : decode cX6_galley 66 = .ok (.getfield 25, 3) := by decide +kernel
theorem dX6_galley_69 : decode cX6_galley 69 = .ok (.new 77, 3) := by decide +kernel
theorem dX6_galley_72 : decode cX6_galley 72 = .ok (.dup, 1) := by decide +kernel
theorem dX6_galley_73 : decode cX6_galley 73 = .ok (.iload 5, 2) := by decide +kernel
theorem dX6_galley_75 : decode cX6_galley 75 = .ok (.iload_n 1, 1) := by decide +kernel
theorem dX6_galley_76 : decode cX6_galley 76 = .ok (.iload_n 2, 1) := by decide +kernel
theorem dX6_galley_77 : decode cX6_galley 77 = .ok (.iload_n 3, 1) := by decide +kernel
theorem dX6_galley_78 : decode cX6_galley 78 = .ok (.iload 4, 2) := by decide +kernel
theorem dX6_galley_80 : decode cX6_galley 80 = .ok (.invokespecial 79, 3) := by decide +kernel
theorem dX6_galley_83 : decode cX6_galley 83 = .ok (.invokevirtual 82, 3) := by decide +kernel
theorem dX6_galley_86 : decode cX6_galley 86 = .ok (.pop, 1) := by decide +kernel
theorem dX6_galley_87 : decode cX6_galley 87 = .ok (.iload 5, 2) := by decide +kernel
theorem dX6_galley_89 : decode cX6_galley 89 = .ok (.ireturn, 1) := by decide +kernel
theorem dX6_bid_0 : decode cX6_bid 0 = .ok (.aload_n 0, 1) := by decide +kernel
theorem dX6_bid_1 : decode cX6_bid 1 = .ok (.iload_n 1, 1) := by decide +kernel
theorem dX6_bid_2 : decode cX6_bid 2 = .ok (.invokevirtual 86, 3) := by decide +kernel
theorem dX6_bid_5 : decode cX6_bid 5 = .ok (.astore 4, 2) := by decide +kernel
theorem dX6_bid_7 : decode cX6_bid 7 = .ok (.aload 4, 2) := by decide +kernel
theorem dX6_bid_9 : decode cX6_bid 9 = .ok (.ifnull 20, 3) := by decide +kernel
theorem dX6_bid_12 : decode cX6_bid 12 = .ok (.iload_n 2, 1) := by decide +kernel
theorem dX6_bid_13 : decode cX6_bid 13 = .ok (.invokestatic 52, 3) := by decide +kernel
theorem dX6_bid_16 : decode cX6_bid 16 = .ok (.ifCond .eq 13, 3) := by decide +kernel
theorem dX6_bid_19 : decode cX6_bid 19 = .ok (.iload_n 3, 1) := by decide +kernel
theorem dX6_bid_20 : decode cX6_bid 20 = .ok (.iconst 1, 1) := by decide +kernel
theorem dX6_bid_21 : decode cX6_bid 21 = .ok (.ldc 90, 2) := by decide +kernel
theorem dX6_bid_23 : decode cX6_bid 23 = .ok (.invokestatic 57, 3) := by decide +kernel
theorem dX6_bid_26 : decode cX6_bid 26 = .ok (.ifCond .ne 5, 3) := by decide +kernel
theorem dX6_bid_29 : decode cX6_bid 29 = .ok (.iconst (-1), 1) := by decide +kernel
theorem dX6_bid_30 : decode cX6_bid 30 = .ok (.ireturn, 1) := by decide +kernel
theorem dX6_bid_31 : decode cX6_bid 31 = .ok (.aload 4, 2) := by decide +kernel
theorem dX6_bid_33 : decode cX6_bid 33 = .ok (.getfield 91, 3) := by decide +kernel
theorem dX6_bid_36 : decode cX6_bid 36 = .ok (.ifCond .ne 22, 3) := by decide +kernel
theorem dX6_bid_39 : decode cX6_bid 39 = .ok (.iload_n 3, 1) := by decide +kernel
theorem dX6_bid_40 : decode cX6_bid 40 = .ok (.aload 4, 2) := by decide +kernel
theorem dX6_bid_42 : decode cX6_bid 42 = .ok (.getfield 95, 3) := by decide +kernel
theorem dX6_bid_45 : decode cX6_bid 45 = .ok (.if_icmp .le 13, 3) := by decide +kernel
theorem dX6_bid_48 : decode cX6_bid 48 = .ok (.aload_n 0, 1) := by decide +kernel
theorem dX6_bid_49 : decode cX6_bid 49 = .ok (.getfield 9, 3) := by decide +kernel
theorem dX6_bid_52 : decode cX6_bid 52 = .ok (.iload_n 2, 1) := by decide +kernel
theorem dX6_bid_53 : decode cX6_bid 53 = .ok (.iaload, 1) := by decide +kernel
theorem dX6_bid_54 : decode cX6_bid 54 = .ok (.iload_n 3, 1) := by decide +kernel
theorem dX6_bid_55 : decode cX6_bid 55 = .ok (.if_icmp .ge 6, 3) := by decide +kernel
theorem dX6_bid_58 : decode cX6_bid 58 = .ok (.bipush (-2), 2) := by decide +kernel
theorem dX6_bid_60 : decode cX6_bid 60 = .ok (.ireturn, 1) := by decide +kernel
theorem dX6_bid_61 : decode cX6_bid 61 = .ok (.aload 4, 2) := by decide +kernel
theorem dX6_bid_63 : decode cX6_bid 63 = .ok (.iload_n 3, 1) := by decide +kernel
theorem dX6_bid_64 : decode cX6_bid 64 = .ok (.putfield 95, 3) := by decide +kernel
theorem dX6_bid_67 : decode cX6_bid 67 = .ok (.aload 4, 2) := by decide +kernel
theorem dX6_bid_69 : decode cX6_bid 69 = .ok (.iload_n 2, 1) := by decide +kernel
theorem dX6_bid_70 : decode cX6_bid 70 = .ok (.putfield 98, 3) := by decide +kernel
theorem dX6_bid_73 : decode cX6_bid 73 = .ok (.iconst 1, 1) := by decide +kernel
theorem dX6_bid_74 : decode cX6_bid 74 = .ok (.ireturn, 1) := by decide +kernel
theorem dX6_let_0 : decode cX6_let 0 = .ok (.aload_n 0, 1) := by decide +kernel
theorem dX6_let_1 : decode cX6_let 1 = .ok (.iload_n 1, 1) := by decide +kernel
theorem dX6_let_2 : decode cX6_let 2 = .ok (.invokevirtual 86, 3) := by decide +kernel
theorem dX6_let_5 : decode cX6_let 5 = .ok (.astore_n 2, 1) := by decide +kernel
theorem dX6_let_6 : decode cX6_let 6 = .ok (.aload_n 2, 1) := by decide +kernel
theorem dX6_let_7 : decode cX6_let 7 = .ok (.ifnonnull 5, 3) := by decide +kernel
theorem dX6_let_10 : decode cX6_let 10 = .ok (.iconst (-1), 1) := by decide +kernel
theorem dX6_let_11 : decode cX6_let 11 = .ok (.ireturn, 1) := by decide +kernel
theorem dX6_let_12 : decode cX6_let 12 = .ok (.aload_n 2, 1) := by decide +kernel
theorem dX6_let_13 : decode cX6_let 13 = .ok (.getfield 91, 3) := by decide +kernel
theorem dX6_let_16 : decode cX6_let 16 = .ok (.ifCond .ne 10, 3) := by decide +kernel
theorem dX6_let_19 : decode cX6_let 19 = .ok (.aload_n 2, 1) := by decide +kernel
theorem dX6_let_20 : decode cX6_let 20 = .ok (.getfield 95, 3) := by decide +kernel
theorem dX6_let_23 : decode cX6_let 23 = .ok (.ifCond .ne 6, 3) := by decide +kernel
theorem dX6_let_26 : decode cX6_let 26 = .ok (.bipush (-2), 2) := by decide +kernel
theorem dX6_let_28 : decode cX6_let 28 = .ok (.ireturn, 1) := by decide +kernel
theorem dX6_let_29 : decode cX6_let 29 = .ok (.aload_n 2, 1) := by decide +kernel
theorem dX6_let_30 : decode cX6_let 30 = .ok (.getfield 98, 3) := by decide +kernel
theorem dX6_let_33 : decode cX6_let 33 = .ok (.istore_n 3, 1) := by decide +kernel
theorem dX6_let_34 : decode cX6_let 34 = .ok (.aload_n 0, 1) := by decide +kernel
theorem dX6_let_35 : decode cX6_let 35 = .ok (.getfield 9, 3) := by decide +kernel
theorem dX6_let_38 : decode cX6_let 38 = .ok (.iload_n 3, 1) := by decide +kernel
theorem dX6_let_39 : decode cX6_let 39 = .ok (.iaload, 1) := by decide +kernel
theorem dX6_let_40 : decode cX6_let 40 = .ok (.aload_n 2, 1) := by decide +kernel
theorem dX6_let_41 : decode cX6_let 41 = .ok (.getfield 95, 3) := by decide +kernel
theorem dX6_let_44 : decode cX6_let 44 = .ok (.if_icmp .ge 11, 3) := by decide +kernel
theorem dX6_let_47 : decode cX6_let 47 = .ok (.aload_n 2, 1) := by decide +kernel
theorem dX6_let_48 : decode cX6_let 48 = .ok (.iconst 0, 1) := by decide +kernel
theorem dX6_let_49 : decode cX6_let 49 = .ok (.putfield 95, 3) := by decide +kernel
theorem dX6_let_52 : decode cX6_let 52 = .ok (.bipush (-2), 2) := by decide +kernel
theorem dX6_let_54 : decode cX6_let 54 = .ok (.ireturn, 1) := by decide +kernel
theorem dX6_let_55 : decode cX6_let 55 = .ok (.aload_n 0, 1) := by decide +kernel
theorem dX6_let_56 : decode cX6_let 56 = .ok (.getfield 9, 3) := by decide +kernel
theorem dX6_let_59 : decode cX6_let 59 = .ok (.iload_n 3, 1) := by decide +kernel
theorem dX6_let_60 : decode cX6_let 60 = .ok (.dup2, 1) := by decide +kernel
theorem dX6_let_61 : decode cX6_let 61 = .ok (.iaload, 1) := by decide +kernel
theorem dX6_let_62 : decode cX6_let 62 = .ok (.aload_n 2, 1) := by decide +kernel
theorem dX6_let_63 : decode cX6_let 63 = .ok (.getfield 95, 3) := by decide +kernel
theorem dX6_let_66 : decode cX6_let 66 = .ok (.isub, 1) := by decide +kernel
theorem dX6_let_67 : decode cX6_let 67 = .ok (.iastore, 1) := by decide +kernel
theorem dX6_let_68 : decode cX6_let 68 = .ok (.aload_n 0, 1) := by decide +kernel
theorem dX6_let_69 : decode cX6_let 69 = .ok (.dup, 1) := by decide +kernel
theorem dX6_let_70 : decode cX6_let 70 = .ok (.getfield 101, 3) := by decide +kernel
theorem dX6_let_73 : decode cX6_let 73 = .ok (.aload_n 2, 1) := by decide +kernel
theorem dX6_let_74 : decode cX6_let 74 = .ok (.getfield 95, 3) := by decide +kernel
theorem dX6_let_77 : decode cX6_let 77 = .ok (.iadd, 1) := by decide +kernel
theorem dX6_let_78 : decode cX6_let 78 = .ok (.putfield 101, 3) := by decide +kernel
theorem dX6_let_81 : decode cX6_let 81 = .ok (.aload_n 2, 1) := by decide +kernel
theorem dX6_let_82 : decode cX6_let 82 = .ok (.iload_n 3, 1) := by decide +kernel
theorem dX6_let_83 : decode cX6_let 83 = .ok (.invokevirtual 104, 3) := by decide +kernel
theorem dX6_let_86 : decode cX6_let 86 = .ok (.iload_n 3, 1) := by decide +kernel
theorem dX6_let_87 : decode cX6_let 87 = .ok (.ireturn, 1) := by decide +kernel
theorem dX6_part_0 : decode cX6_part 0 = .ok (.aload_n 0, 1) := by decide +kernel
theorem dX6_part_1 : decode cX6_part 1 = .ok (.iload_n 1, 1) := by decide +kernel
theorem dX6_part_2 : decode cX6_part 2 = .ok (.invokevirtual 86, 3) := by decide +kernel
theorem dX6_part_5 : decode cX6_part 5 = .ok (.astore 5, 2) := by decide +kernel
theorem dX6_part_7 : decode cX6_part 7 = .ok (.aload 5, 2) := by decide +kernel
theorem dX6_part_9 : decode cX6_part 9 = .ok (.ifnull 33, 3) := by decide +kernel
theorem dX6_part_12 : decode cX6_part 12 = .ok (.iload_n 2, 1) := by decide +kernel
theorem dX6_part_13 : decode cX6_part 13 = .ok (.invokestatic 52, 3) := by decide +kernel
theorem dX6_part_16 : decode cX6_part 16 = .ok (.ifCond .eq 26, 3) := by decide +kernel
theorem dX6_part_19 : decode cX6_part 19 = .ok (.iload_n 3, 1) := by decide +kernel
theorem dX6_part_20 : decode cX6_part 20 = .ok (.invokestatic 52, 3) := by decide +kernel
theorem dX6_part_23 : decode cX6_part 23 = .ok (.ifCond .eq 19, 3) := by decide +kernel
theorem dX6_part_26 : decode cX6_part 26 = .ok (.iload_n 2, 1) := by decide +kernel
theorem dX6_part_27 : decode cX6_part 27 = .ok (.iload_n 3, 1) := by decide +kernel
theorem dX6_part_28 : decode cX6_part 28 = .ok (.if_icmp .eq 14, 3) := by decide +kernel
theorem dX6_part_31 : decode cX6_part 31 = .ok (.iload 4, 2) := by decide +kernel
theorem dX6_part_33 : decode cX6_part 33 = .ok (.iconst 1, 1) := by decide +kernel
theorem dX6_part_34 : decode cX6_part 34 = .ok (.bipush 24, 2) := by decide +kernel
theorem dX6_part_36 : decode cX6_part 36 = .ok (.invokestatic 57, 3) := by decide +kernel
theorem dX6_part_39 : decode cX6_part 39 = .ok (.ifCond .ne 5, 3) := by decide +kernel
theorem dX6_part_42 : decode cX6_part 42 = .ok (.iconst (-1), 1) := by decide +kernel
theorem dX6_part_43 : decode cX6_part 43 = .ok (.ireturn, 1) := by decide +kernel
theorem dX6_part_44 : decode cX6_part 44 = .ok (.aload 5, 2) := by decide +kernel
theorem dX6_part_46 : decode cX6_part 46 = .ok (.getfield 108, 3) := by decide +kernel
theorem dX6_part_49 : decode cX6_part 49 = .ok (.iload_n 2, 1) := by decide +kernel
theorem dX6_part_50 : decode cX6_part 50 = .ok (.iaload, 1) := by decide +kernel
theorem dX6_part_51 : decode cX6_part 51 = .ok (.iload 4, 2) := by decide +kernel
theorem dX6_part_53 : decode cX6_part 53 = .ok (.if_icmp .ge 6, 3) := by decide +kernel
theorem dX6_part_56 : decode cX6_part 56 = .ok (.bipush (-2), 2) := by decide +kernel
theorem dX6_part_58 : decode cX6_part 58 = .ok (.ireturn, 1) := by decide +kernel
theorem dX6_part_59 : decode cX6_part 59 = .ok (.aload 5, 2) := by decide +kernel
theorem dX6_part_61 : decode cX6_part 61 = .ok (.getfield 108, 3) := by decide +kernel
theorem dX6_part_64 : decode cX6_part 64 = .ok (.iload_n 2, 1) := by decide +kernel
theorem dX6_part_65 : decode cX6_part 65 = .ok (.dup2, 1) := by decide +kernel
theorem dX6_part_66 : decode cX6_part 66 = .ok (.iaload, 1) := by decide +kernel
theorem dX6_part_67 : decode cX6_part 67 = .ok (.iload 4, 2) := by decide +kernel
theorem dX6_part_69 : decode cX6_part 69 = .ok (.isub, 1) := by decide +kernel
theorem dX6_part_70 : decode cX6_part 70 = .ok (.iastore, 1) := by decide +kernel
theorem dX6_part_71 : decode cX6_part 71 = .ok (.aload 5, 2) := by decide +kernel
theorem dX6_part_73 : decode cX6_part 73 = .ok (.getfield 108, 3) := by decide +kernel
theorem dX6_part_76 : decode cX6_part 76 = .ok (.iload_n 3, 1) := by decide +kernel
theorem dX6_part_77 : decode cX6_part 77 = .ok (.dup2, 1) := by decide +kernel
theorem dX6_part_78 : decode cX6_part 78 = .ok (.iaload, 1) := by decide +kernel
theorem dX6_part_79 : decode cX6_part 79 = .ok (.iload 4, 2) := by decide +kernel
theorem dX6_part_81 : decode cX6_part 81 = .ok (.iadd, 1) := by decide +kernel
theorem dX6_part_82 : decode cX6_part 82 = .ok (.iastore, 1) := by decide +kernel
theorem dX6_part_83 : decode cX6_part 83 = .ok (.aload 5, 2) := by decide +kernel
theorem dX6_part_85 : decode cX6_part 85 = .ok (.getfield 108, 3) := by decide +kernel
theorem dX6_part_88 : decode cX6_part 88 = .ok (.iload_n 3, 1) := by decide +kernel
theorem dX6_part_89 : decode cX6_part 89 = .ok (.iaload, 1) := by decide +kernel
theorem dX6_part_90 : decode cX6_part 90 = .ok (.ireturn, 1) := by decide +kernel
theorem dX6_parts_0 : decode cX6_parts 0 = .ok (.aload_n 0, 1) := by decide +kernel
theorem dX6_parts_1 : decode cX6_parts 1 = .ok (.iload_n 1, 1) := by decide +kernel
theorem dX6_parts_2 : decode cX6_parts 2 = .ok (.invokevirtual 86, 3) := by decide +kernel
theorem dX6_parts_5 : decode cX6_parts 5 = .ok (.astore_n 3, 1) := by decide +kernel
theorem dX6_parts_6 : decode cX6_parts 6 = .ok (.aload_n 3, 1) := by decide +kernel
theorem dX6_parts_7 : decode cX6_parts 7 = .ok (.ifnull 15, 3) := by decide +kernel
theorem dX6_parts_10 : decode cX6_parts 10 = .ok (.iload_n 2, 1) := by decide +kernel
theorem dX6_parts_11 : decode cX6_parts 11 = .ok (.iconst (-1), 1) := by decide +kernel
theorem dX6_parts_12 : decode cX6_parts 12 = .ok (.if_icmp .eq 12, 3) := by decide +kernel
theorem dX6_parts_15 : decode cX6_parts 15 = .ok (.iload_n 2, 1) := by decide +kernel
theorem dX6_parts_16 : decode cX6_parts 16 = .ok (.invokestatic 52, 3) := by decide +kernel
theorem dX6_parts_19 : decode cX6_parts 19 = .ok (.ifCond .ne 5, 3) := by decide +kernel
theorem dX6_parts_22 : decode cX6_parts 22 = .ok (.iconst (-1), 1) := by decide +kernel
theorem dX6_parts_23 : decode cX6_parts 23 = .ok (.ireturn, 1) := by decide +kernel
theorem dX6_parts_24 : decode cX6_parts 24 = .ok (.aload_n 3, 1) := by decide +kernel
theorem dX6_parts_25 : decode cX6_parts 25 = .ok (.getfield 108, 3) := by decide +kernel
theorem dX6_parts_28 : decode cX6_parts 28 = .ok (.iload_n 2, 1) := by decide +kernel
theorem dX6_parts_29 : decode cX6_parts 29 = .ok (.iconst (-1), 1) := by decide +kernel
theorem dX6_parts_30 : decode cX6_parts 30 = .ok (.if_icmp .ne 8, 3) := by decide +kernel
theorem dX6_parts_33 : decode cX6_parts 33 = .ok (.bipush 10, 2) := by decide +kernel
theorem dX6_parts_35 : decode cX6_parts 35 = .ok (.goto 4, 3) := by decide +kernel
theorem dX6_parts_38 : decode cX6_parts 38 = .ok (.iload_n 2, 1) := by decide +kernel
theorem dX6_parts_39 : decode cX6_parts 39 = .ok (.iaload, 1) := by decide +kernel
theorem dX6_parts_40 : decode cX6_parts 40 = .ok (.ireturn, 1) := by decide +kernel
theorem dX6_bale_0 : decode cX6_bale 0 = .ok (.iload_n 1, 1) := by decide +kernel
theorem dX6_bale_1 : decode cX6_bale 1 = .ok (.invokestatic 52, 3) := by decide +kernel
theorem dX6_bale_4 : decode cX6_bale 4 = .ok (.ifCond .eq 26, 3) := by decide +kernel
theorem dX6_bale_7 : decode cX6_bale 7 = .ok (.aload_n 0, 1) := by decide +kernel
theorem dX6_bale_8 : decode cX6_bale 8 = .ok (.iload_n 2, 1) := by decide +kernel
theorem dX6_bale_9 : decode cX6_bale 9 = .ok (.invokevirtual 111, 3) := by decide +kernel
theorem dX6_bale_12 : decode cX6_bale 12 = .ok (.ifCond .eq 18, 3) := by decide +kernel
theorem dX6_bale_15 : decode cX6_bale 15 = .ok (.iload_n 3, 1) := by decide +kernel
theorem dX6_bale_16 : decode cX6_bale 16 = .ok (.invokestatic 114, 3) := by decide +kernel
theorem dX6_bale_19 : decode cX6_bale 19 = .ok (.ifCond .eq 11, 3) := by decide +kernel
theorem dX6_bale_22 : decode cX6_bale 22 = .ok (.iload 4, 2) := by decide +kernel
theorem dX6_bale_24 : decode cX6_bale 24 = .ok (.invokestatic 117, 3) := by decide +kernel
theorem dX6_bale_27 : decode cX6_bale 27 = .ok (.ifCond .ne 5, 3) := by decide +kernel
theorem dX6_bale_30 : decode cX6_bale 30 = .ok (.iconst (-1), 1) := by decide +kernel
theorem dX6_bale_31 : decode cX6_bale 31 = .ok (.ireturn, 1) := by decide +kernel
theorem dX6_bale_32 : decode cX6_bale 32 = .ok (.aload_n 0, 1) := by decide +kernel
theorem dX6_bale_33 : decode cX6_bale 33 = .ok (.getfield 29, 3) := by decide +kernel
theorem dX6_bale_36 : decode cX6_bale 36 = .ok (.invokevirtual 73, 3) := by decide +kernel
theorem dX6_bale_39 : decode cX6_bale 39 = .ok (.istore 5, 2) := by decide +kernel
theorem dX6_bale_41 : decode cX6_bale 41 = .ok (.iload 5, 2) := by decide +kernel
theorem dX6_bale_43 : decode cX6_bale 43 = .ok (.sipush 300, 3) := by decide +kernel
theorem dX6_bale_46 : decode cX6_bale 46 = .ok (.if_icmp .lt 6, 3) := by decide +kernel
theorem dX6_bale_49 : decode cX6_bale 49 = .ok (.bipush (-3), 2) := by decide +kernel
theorem dX6_bale_51 : decode cX6_bale 51 = .ok (.ireturn, 1) := by decide +kernel
theorem dX6_bale_52 : decode cX6_bale 52 = .ok (.aload_n 0, 1) := by decide +kernel
theorem dX6_bale_53 : decode cX6_bale 53 = .ok (.getfield 29, 3) := by decide +kernel
theorem dX6_bale_56 : decode cX6_bale 56 = .ok (.new 120, 3) := by decide +kernel
theorem dX6_bale_59 : decode cX6_bale 59 = .ok (.dup, 1) := by decide +kernel
theorem dX6_bale_60 : decode cX6_bale 60 = .ok (.iload_n 1, 1) := by decide +kernel
theorem dX6_bale_61 : decode cX6_bale 61 = .ok (.iload_n 2, 1) := by decide +kernel
theorem dX6_bale_62 : decode cX6_bale 62 = .ok (.iload_n 3, 1) := by decide +kernel
theorem dX6_bale_63 : decode cX6_bale 63 = .ok (.iload 4, 2) := by decide +kernel
theorem dX6_bale_65 : decode cX6_bale 65 = .ok (.aload_n 0, 1) := by decide +kernel
theorem dX6_bale_66 : decode cX6_bale 66 = .ok (.getfield 122, 3) := by decide +kernel
theorem dX6_bale_69 : decode cX6_bale 69 = .ok (.invokespecial 125, 3) := by decide +kernel
theorem dX6_bale_72 : decode cX6_bale 72 = .ok (.invokevirtual 82, 3) := by decide +kernel
theorem dX6_bale_75 : decode cX6_bale 75 = .ok (.pop, 1) := by decide +kernel
theorem dX6_bale_76 : decode cX6_bale 76 = .ok (.iload 5, 2) := by decide +kernel
theorem dX6_bale_78 : decode cX6_bale 78 = .ok (.ireturn, 1) := by decide +kernel
theorem dX6_about_0 : decode cX6_about 0 = .ok (.aload_n 0, 1) := by decide +kernel
theorem dX6_about_1 : decode cX6_about 1 = .ok (.iload_n 1, 1) := by decide +kernel
theorem dX6_about_2 : decode cX6_about 2 = .ok (.invokevirtual 126, 3) := by decide +kernel
theorem dX6_about_5 : decode cX6_about 5 = .ok (.astore_n 3, 1) := by decide +kernel
theorem dX6_about_6 : decode cX6_about 6 = .ok (.aload_n 3, 1) := by decide +kernel
theorem dX6_about_7 : decode cX6_about 7 = .ok (.ifnonnull 7, 3) := by decide +kernel
theorem dX6_about_10 : decode cX6_about 10 = .ok (.iconst (-1), 1) := by decide +kernel
theorem dX6_about_11 : decode cX6_about 11 = .ok (.goto 8, 3) := by decide +kernel
theorem dX6_about_14 : decode cX6_about 14 = .ok (.aload_n 3, 1) := by decide +kernel
theorem dX6_about_15 : decode cX6_about 15 = .ok (.iload_n 2, 1) := by decide +kernel
theorem dX6_about_16 : decode cX6_about 16 = .ok (.invokevirtual 130, 3) := by decide +kernel
theorem dX6_about_19 : decode cX6_about 19 = .ok (.ireturn, 1) := by decide +kernel
theorem dX6_feed_0 : decode cX6_feed 0 = .ok (.iload_n 1, 1) := by decide +kernel
theorem dX6_feed_1 : decode cX6_feed 1 = .ok (.iconst 1, 1) := by decide +kernel
theorem dX6_feed_2 : decode cX6_feed 2 = .ok (.iconst 4, 1) := by decide +kernel
theorem dX6_feed_3 : decode cX6_feed 3 = .ok (.invokestatic 57, 3) := by decide +kernel
theorem dX6_feed_6 : decode cX6_feed 6 = .ok (.ifCond .ne 5, 3) := by decide +kernel
theorem dX6_feed_9 : decode cX6_feed 9 = .ok (.iconst (-1), 1) := by decide +kernel
theorem dX6_feed_10 : decode cX6_feed 10 = .ok (.ireturn, 1) := by decide +kernel
theorem dX6_feed_11 : decode cX6_feed 11 = .ok (.aload_n 0, 1) := by decide +kernel
theorem dX6_feed_12 : decode cX6_feed 12 = .ok (.getfield 38, 3) := by decide +kernel
theorem dX6_feed_15 : decode cX6_feed 15 = .ok (.getfield 134, 3) := by decide +kernel
theorem dX6_feed_18 : decode cX6_feed 18 = .ok (.getfield 138, 3) := by decide +kernel
theorem dX6_feed_21 : decode cX6_feed 21 = .ok (.iload_n 1, 1) := by decide +kernel
theorem dX6_feed_22 : decode cX6_feed 22 = .ok (.iadd, 1) := by decide +kernel
theorem dX6_feed_23 : decode cX6_feed 23 = .ok (.sipush 200, 3) := by decide +kernel
theorem dX6_feed_26 : decode cX6_feed 26 = .ok (.if_icmp .le 6, 3) := by decide +kernel
theorem dX6_feed_29 : decode cX6_feed 29 = .ok (.bipush (-3), 2) := by decide +kernel
theorem dX6_feed_31 : decode cX6_feed 31 = .ok (.ireturn, 1) := by decide +kernel
theorem dX6_feed_32 : decode cX6_feed 32 = .ok (.aload_n 0, 1) := by decide +kernel
theorem dX6_feed_33 : decode cX6_feed 33 = .ok (.getfield 38, 3) := by decide +kernel
theorem dX6_feed_36 : decode cX6_feed 36 = .ok (.getfield 134, 3) := by decide +kernel
theorem dX6_feed_39 : decode cX6_feed 39 = .ok (.iload_n 1, 1) := by decide +kernel
theorem dX6_feed_40 : decode cX6_feed 40 = .ok (.iload_n 2, 1) := by decide +kernel
theorem dX6_feed_41 : decode cX6_feed 41 = .ok (.invokevirtual 143, 3) := by decide +kernel
theorem dX6_feed_44 : decode cX6_feed 44 = .ok (.aload_n 0, 1) := by decide +kernel
theorem dX6_feed_45 : decode cX6_feed 45 = .ok (.getfield 38, 3) := by decide +kernel
theorem dX6_feed_48 : decode cX6_feed 48 = .ok (.getfield 134, 3) := by decide +kernel
theorem dX6_feed_51 : decode cX6_feed 51 = .ok (.getfield 138, 3) := by decide +kernel
theorem dX6_feed_54 : decode cX6_feed 54 = .ok (.ireturn, 1) := by decide +kernel
theorem dX6_vote_0 : decode cX6_vote 0 = .ok (.iload_n 1, 1) := by decide +kernel
theorem dX6_vote_1 : decode cX6_vote 1 = .ok (.invokestatic 147, 3) := by decide +kernel
theorem dX6_vote_4 : decode cX6_vote 4 = .ok (.ifCond .ne 5, 3) := by decide +kernel
theorem dX6_vote_7 : decode cX6_vote 7 = .ok (.iconst (-1), 1) := by decide +kernel
theorem dX6_vote_8 : decode cX6_vote 8 = .ok (.ireturn, 1) := by decide +kernel
theorem dX6_vote_9 : decode cX6_vote 9 = .ok (.aload_n 0, 1) := by decide +kernel
theorem dX6_vote_10 : decode cX6_vote 10 = .ok (.getfield 32, 3) := by decide +kernel
theorem dX6_vote_13 : decode cX6_vote 13 = .ok (.invokevirtual 73, 3) := by decide +kernel
theorem dX6_vote_16 : decode cX6_vote 16 = .ok (.bipush 30, 2) := by decide +kernel
theorem dX6_vote_18 : decode cX6_vote 18 = .ok (.if_icmp .lt 6, 3) := by decide +kernel
theorem dX6_vote_21 : decode cX6_vote 21 = .ok (.bipush (-3), 2) := by decide +kernel
theorem dX6_vote_23 : decode cX6_vote 23 = .ok (.ireturn, 1) := by decide +kernel
theorem dX6_vote_24 : decode cX6_vote 24 = .ok (.aload_n 0, 1) := by decide +kernel
theorem dX6_vote_25 : decode cX6_vote 25 = .ok (.getfield 38, 3) := by decide +kernel
theorem dX6_vote_28 : decode cX6_vote 28 = .ok (.invokevirtual 150, 3) := by decide +kernel
theorem dX6_vote_31 : decode cX6_vote 31 = .ok (.istore_n 2, 1) := by decide +kernel
theorem dX6_vote_32 : decode cX6_vote 32 = .ok (.aload_n 0, 1) := by decide +kernel
theorem dX6_vote_33 : decode cX6_vote 33 = .ok (.getfield 38, 3) := by decide +kernel
theorem dX6_vote_36 : decode cX6_vote 36 = .ok (.getfield 134, 3) := by decide +kernel
theorem dX6_vote_39 : decode cX6_vote 39 = .ok (.iconst 0, 1) := by decide +kernel
theorem dX6_vote_40 : decode cX6_vote 40 = .ok (.putfield 138, 3) := by decide +kernel
theorem dX6_vote_43 : decode cX6_vote 43 = .ok (.iload_n 2, 1) := by decide +kernel
theorem dX6_vote_44 : decode cX6_vote 44 = .ok (.iconst (-1), 1) := by decide +kernel
theorem dX6_vote_45 : decode cX6_vote 45 = .ok (.if_icmp .eq 8, 3) := by decide +kernel
theorem dX6_vote_48 : decode cX6_vote 48 = .ok (.bipush (-100), 2) := by decide +kernel
theorem dX6_vote_50 : decode cX6_vote 50 = .ok (.iload_n 2, 1) := by decide +kernel
theorem dX6_vote_51 : decode cX6_vote 51 = .ok (.isub, 1) := by decide +kernel
theorem dX6_vote_52 : decode cX6_vote 52 = .ok (.ireturn, 1) := by decide +kernel
theorem dX6_vote_53 : decode cX6_vote 53 = .ok (.aload_n 0, 1) := by decide +kernel
theorem dX6_vote_54 : decode cX6_vote 54 = .ok (.getfield 32, 3) := by decide +kernel
theorem dX6_vote_57 : decode cX6_vote 57 = .ok (.new 153, 3) := by decide +kernel
theorem dX6_vote_60 : decode cX6_vote 60 = .ok (.dup, 1) := by decide +kernel
theorem dX6_vote_61 : decode cX6_vote 61 = .ok (.iload_n 1, 1) := by decide +kernel
theorem dX6_vote_62 : decode cX6_vote 62 = .ok (.aload_n 0, 1) := by decide +kernel
theorem dX6_vote_63 : decode cX6_vote 63 = .ok (.getfield 122, 3) := by decide +kernel
theorem dX6_vote_66 : decode cX6_vote 66 = .ok (.aload_n 0, 1) := by decide +kernel
theorem dX6_vote_67 : decode cX6_vote 67 = .ok (.getfield 38, 3) := by decide +kernel
theorem dX6_vote_70 : decode cX6_vote 70 = .ok (.invokevirtual 155, 3) := by decide +kernel
theorem dX6_vote_73 : decode cX6_vote 73 = .ok (.invokespecial 159, 3) := by decide +kernel
theorem dX6_vote_76 : decode cX6_vote 76 = .ok (.invokevirtual 82, 3) := by decide +kernel
theorem dX6_vote_79 : decode cX6_vote 79 = .ok (.pop, 1) := by decide +kernel
theorem dX6_vote_80 : decode cX6_vote 80 = .ok (.aload_n 0, 1) := by decide +kernel
theorem dX6_vote_81 : decode cX6_vote 81 = .ok (.getfield 32, 3) := by decide +kernel
theorem dX6_vote_84 : decode cX6_vote 84 = .ok (.invokevirtual 73, 3) := by decide +kernel
theorem dX6_vote_87 : decode cX6_vote 87 = .ok (.ireturn, 1) := by decide +kernel
theorem dX6_known_0 : decode cX6_known 0 = .ok (.iload_n 1, 1) := by decide +kernel
theorem dX6_known_1 : decode cX6_known 1 = .ok (.invokestatic 147, 3) := by decide +kernel
theorem dX6_known_4 : decode cX6_known 4 = .ok (.ifCond .eq 17, 3) := by decide +kernel
theorem dX6_known_7 : decode cX6_known 7 = .ok (.iload_n 2, 1) := by decide +kernel
theorem dX6_known_8 : decode cX6_known 8 = .ok (.iconst 0, 1) := by decide +kernel
theorem dX6_known_9 : decode cX6_known 9 = .ok (.aload_n 0, 1) := by decide +kernel
theorem dX6_known_10 : decode cX6_known 10 = .ok (.getfield 66, 3) := by decide +kernel
theorem dX6_known_13 : decode cX6_known 13 = .ok (.iconst 1, 1) := by decide +kernel
theorem dX6_known_14 : decode cX6_known 14 = .ok (.isub, 1) := by decide +kernel
theorem dX6_known_15 : decode cX6_known 15 = .ok (.invokestatic 57, 3) := by decide +kernel
theorem dX6_known_18 : decode cX6_known 18 = .ok (.ifCond .ne 5, 3) := by decide +kernel
theorem dX6_known_21 : decode cX6_known 21 = .ok (.iconst (-1), 1) := by decide +kernel
theorem dX6_known_22 : decode cX6_known 22 = .ok (.ireturn, 1) := by decide +kernel
theorem dX6_known_23 : decode cX6_known 23 = .ok (.aload_n 0, 1) := by decide +kernel
theorem dX6_known_24 : decode cX6_known 24 = .ok (.iload_n 1, 1) := by decide +kernel
theorem dX6_known_25 : decode cX6_known 25 = .ok (.iload_n 2, 1) := by decide +kernel
theorem dX6_known_26 : decode cX6_known 26 = .ok (.invokevirtual 162, 3) := by decide +kernel
theorem dX6_known_29 : decode cX6_known 29 = .ok (.ireturn, 1) := by decide +kernel
theorem dX6_says_0 : decode cX6_says 0 = .ok (.aload_n 0, 1) := by decide +kernel
theorem dX6_says_1 : decode cX6_says 1 = .ok (.iload_n 2, 1) := by decide +kernel
theorem dX6_says_2 : decode cX6_says 2 = .ok (.invokevirtual 86, 3) := by decide +kernel
theorem dX6_says_5 : decode cX6_says 5 = .ok (.astore 4, 2) := by decide +kernel
theorem dX6_says_7 : decode cX6_says 7 = .ok (.iload_n 1, 1) := by decide +kernel
theorem dX6_says_8 : decode cX6_says 8 = .ok (.invokestatic 147, 3) := by decide +kernel
theorem dX6_says_11 : decode cX6_says 11 = .ok (.ifCond .eq 17, 3) := by decide +kernel
theorem dX6_says_14 : decode cX6_says 14 = .ok (.aload 4, 2) := by decide +kernel
theorem dX6_says_16 : decode cX6_says 16 = .ok (.ifnull 12, 3) := by decide +kernel
theorem dX6_says_19 : decode cX6_says 19 = .ok (.aload 4, 2) := by decide +kernel
theorem dX6_says_21 : decode cX6_says 21 = .ok (.getfield 166, 3) := by decide +kernel
theorem dX6_says_24 : decode cX6_says 24 = .ok (.iconst 1, 1) := by decide +kernel
theorem dX6_says_25 : decode cX6_says 25 = .ok (.if_icmp .eq 6, 3) := by decide +kernel
theorem dX6_says_28 : decode cX6_says 28 = .ok (.ldc 61, 2) := by decide +kernel
theorem dX6_says_30 : decode cX6_says 30 = .ok (.ireturn, 1) := by decide +kernel
theorem dX6_says_31 : decode cX6_says 31 = .ok (.aload_n 0, 1) := by decide +kernel
theorem dX6_says_32 : decode cX6_says 32 = .ok (.aload 4, 2) := by decide +kernel
theorem dX6_says_34 : decode cX6_says 34 = .ok (.invokevirtual 169, 3) := by decide +kernel
theorem dX6_says_37 : decode cX6_says 37 = .ok (.iload_n 1, 1) := by decide +kernel
theorem dX6_says_38 : decode cX6_says 38 = .ok (.iconst 1, 1) := by decide +kernel
theorem dX6_says_39 : decode cX6_says 39 = .ok (.if_icmp .ne 31, 3) := by decide +kernel
theorem dX6_says_42 : decode cX6_says 42 = .ok (.aload_n 0, 1) := by decide +kernel
theorem dX6_says_43 : decode cX6_says 43 = .ok (.iload_n 3, 1) := by decide +kernel
theorem dX6_says_44 : decode cX6_says 44 = .ok (.invokevirtual 126, 3) := by decide +kernel
theorem dX6_says_47 : decode cX6_says 47 = .ok (.astore 5, 2) := by decide +kernel
theorem dX6_says_49 : decode cX6_says 49 = .ok (.aload 5, 2) := by decide +kernel
theorem dX6_says_51 : decode cX6_says 51 = .ok (.ifnonnull 6, 3) := by decide +kernel
theorem dX6_says_54 : decode cX6_says 54 = .ok (.ldc 61, 2) := by decide +kernel
theorem dX6_says_56 : decode cX6_says 56 = .ok (.ireturn, 1) := by decide +kernel
theorem dX6_says_57 : decode cX6_says 57 = .ok (.aload_n 0, 1) := by decide +kernel
theorem dX6_says_58 : decode cX6_says 58 = .ok (.getfield 45, 3) := by decide +kernel
theorem dX6_says_61 : decode cX6_says 61 = .ok (.aload 5, 2) := by decide +kernel
theorem dX6_says_63 : decode cX6_says 63 = .ok (.aload_n 0, 1) := by decide +kernel
theorem dX6_says_64 : decode cX6_says 64 = .ok (.getfield 122, 3) := by decide +kernel
theorem dX6_says_67 : decode cX6_says 67 = .ok (.invokevirtual 173, 3) := by decide +kernel
theorem dX6_says_70 : decode cX6_says 70 = .ok (.iload_n 1, 1) := by decide +kernel
theorem dX6_says_71 : decode cX6_says 71 = .ok (.iconst 2, 1) := by decide +kernel
theorem dX6_says_72 : decode cX6_says 72 = .ok (.if_icmp .ne 32, 3) := by decide +kernel
theorem dX6_says_75 : decode cX6_says 75 = .ok (.aload_n 0, 1) := by decide +kernel
theorem dX6_says_76 : decode cX6_says 76 = .ok (.iload_n 3, 1) := by decide +kernel
theorem dX6_says_77 : decode cX6_says 77 = .ok (.invokevirtual 86, 3) := by decide +kernel
theorem dX6_says_80 : decode cX6_says 80 = .ok (.astore 5, 2) := by decide +kernel
theorem dX6_says_82 : decode cX6_says 82 = .ok (.aload 5, 2) := by decide +kernel
theorem dX6_says_84 : decode cX6_says 84 = .ok (.ifnull 8, 3) := by decide +kernel
theorem dX6_says_87 : decode cX6_says 87 = .ok (.iload_n 3, 1) := by decide +kernel
theorem dX6_says_88 : decode cX6_says 88 = .ok (.iload_n 2, 1) := by decide +kernel
theorem dX6_says_89 : decode cX6_says 89 = .ok (.if_icmp .ne 6, 3) := by decide +kernel
theorem dX6_says_92 : decode cX6_says 92 = .ok (.ldc 61, 2) := by decide +kernel
theorem dX6_says_94 : decode cX6_says 94 = .ok (.ireturn, 1) := by decide +kernel
theorem dX6_says_95 : decode cX6_says 95 = .ok (.aload_n 0, 1) := by decide +kernel
theorem dX6_says_96 : decode cX6_says 96 = .ok (.getfield 45, 3) := by decide +kernel
theorem dX6_says_99 : decode cX6_says 99 = .ok (.aload 5, 2) := by decide +kernel
theorem dX6_says_101 : decode cX6_says 101 = .ok (.invokevirtual 177, 3) := by decide +kernel
theorem dX6_says_104 : decode cX6_says 104 = .ok (.aload_n 0, 1) := by decide +kernel
theorem dX6_says_105 : decode cX6_says 105 = .ok (.iload_n 1, 1) := by decide +kernel
theorem dX6_says_106 : decode cX6_says 106 = .ok (.aload_n 0, 1) := by decide +kernel
theorem dX6_says_107 : decode cX6_says 107 = .ok (.iload_n 1, 1) := by decide +kernel
theorem dX6_says_108 : decode cX6_says 108 = .ok (.aload 4, 2) := by decide +kernel
theorem dX6_says_110 : decode cX6_says 110 = .ok (.getfield 180, 3) := by decide +kernel
theorem dX6_says_113 : decode cX6_says 113 = .ok (.invokevirtual 162, 3) := by decide +kernel
theorem dX6_says_116 : decode cX6_says 116 = .ok (.invokevirtual 183, 3) := by decide +kernel
theorem dX6_says_119 : decode cX6_says 119 = .ok (.ireturn, 1) := by decide +kernel
theorem dX6_start_0 : decode cX6_start 0 = .ok (.aload_n 0, 1) := by decide +kernel
theorem dX6_start_1 : decode cX6_start 1 = .ok (.iload_n 1, 1) := by decide +kernel
theorem dX6_start_2 : decode cX6_start 2 = .ok (.invokevirtual 86, 3) := by decide +kernel
theorem dX6_start_5 : decode cX6_start 5 = .ok (.astore_n 2, 1) := by decide +kernel
theorem dX6_start_6 : decode cX6_start 6 = .ok (.aload_n 2, 1) := by decide +kernel
theorem dX6_start_7 : decode cX6_start 7 = .ok (.ifnonnull 5, 3) := by decide +kernel
theorem dX6_start_10 : decode cX6_start 10 = .ok (.iconst (-1), 1) := by decide +kernel
theorem dX6_start_11 : decode cX6_start 11 = .ok (.ireturn, 1) := by decide +kernel
theorem dX6_start_12 : decode cX6_start 12 = .ok (.aload_n 2, 1) := by decide +kernel
theorem dX6_start_13 : decode cX6_start 13 = .ok (.getfield 166, 3) := by decide +kernel
theorem dX6_start_16 : decode cX6_start 16 = .ok (.ifCond .ne 11, 3) := by decide +kernel
theorem dX6_start_19 : decode cX6_start 19 = .ok (.aload_n 0, 1) := by decide +kernel
theorem dX6_start_20 : decode cX6_start 20 = .ok (.getfield 66, 3) := by decide +kernel
theorem dX6_start_23 : decode cX6_start 23 = .ok (.iconst 2, 1) := by decide +kernel
theorem dX6_start_24 : decode cX6_start 24 = .ok (.if_icmp .ge 6, 3) := by decide +kernel
theorem dX6_start_27 : decode cX6_start 27 = .ok (.bipush (-2), 2) := by decide +kernel
theorem dX6_start_29 : decode cX6_start 29 = .ok (.ireturn, 1) := by decide +kernel
theorem dX6_start_30 : decode cX6_start 30 = .ok (.aload_n 2, 1) := by decide +kernel
theorem dX6_start_31 : decode cX6_start 31 = .ok (.iconst 0, 1) := by decide +kernel
theorem dX6_start_32 : decode cX6_start 32 = .ok (.aload_n 0, 1) := by decide +kernel
theorem dX6_start_33 : decode cX6_start 33 = .ok (.getfield 122, 3) := by decide +kernel
theorem dX6_start_36 : decode cX6_start 36 = .ok (.invokevirtual 186, 3) := by decide +kernel
theorem dX6_start_39 : decode cX6_start 39 = .ok (.iconst 1, 1) := by decide +kernel
theorem dX6_start_40 : decode cX6_start 40 = .ok (.ireturn, 1) := by decide +kernel
theorem dX6_day_0 : decode cX6_day 0 = .ok (.iload_n 1, 1) := by decide +kernel
theorem dX6_day_1 : decode cX6_day 1 = .ok (.iconst 1, 1) := by decide +kernel
theorem dX6_day_2 : decode cX6_day 2 = .ok (.bipush 100, 2) := by decide +kernel
theorem dX6_day_4 : decode cX6_day 4 = .ok (.invokestatic 57, 3) := by decide +kernel
theorem dX6_day_7 : decode cX6_day 7 = .ok (.ifCond .eq 15, 3) := by decide +kernel
theorem dX6_day_10 : decode cX6_day 10 = .ok (.aload_n 0, 1) := by decide +kernel
theorem dX6_day_11 : decode cX6_day 11 = .ok (.getfield 122, 3) := by decide +kernel
theorem dX6_day_14 : decode cX6_day 14 = .ok (.iload_n 1, 1) := by decide +kernel
theorem dX6_day_15 : decode cX6_day 15 = .ok (.iadd, 1) := by decide +kernel
theorem dX6_day_16 : decode cX6_day 16 = .ok (.sipush 2000, 3) := by decide +kernel
theorem dX6_day_19 : decode cX6_day 19 = .ok (.if_icmp .le 5, 3) := by decide +kernel
theorem dX6_day_22 : decode cX6_day 22 = .ok (.iconst (-1), 1) := by decide +kernel
theorem dX6_day_23 : decode cX6_day 23 = .ok (.ireturn, 1) := by decide +kernel
theorem dX6_day_24 : decode cX6_day 24 = .ok (.iconst 0, 1) := by decide +kernel
theorem dX6_day_25 : decode cX6_day 25 = .ok (.istore_n 2, 1) := by decide +kernel
theorem dX6_day_26 : decode cX6_day 26 = .ok (.iload_n 2, 1) := by decide +kernel
theorem dX6_day_27 : decode cX6_day 27 = .ok (.iload_n 1, 1) := by decide +kernel
theorem dX6_day_28 : decode cX6_day 28 = .ok (.if_icmp .ge 13, 3) := by decide +kernel
theorem dX6_day_31 : decode cX6_day 31 = .ok (.aload_n 0, 1) := by decide +kernel
theorem dX6_day_32 : decode cX6_day 32 = .ok (.invokevirtual 189, 3) := by decide +kernel
theorem dX6_day_35 : decode cX6_day 35 = .ok (.iinc 2 1, 3) := by decide +kernel
theorem dX6_day_38 : decode cX6_day 38 = .ok (.goto (-12), 3) := by decide +kernel
theorem dX6_day_41 : decode cX6_day 41 = .ok (.aload_n 0, 1) := by decide +kernel
theorem dX6_day_42 : decode cX6_day 42 = .ok (.getfield 122, 3) := by decide +kernel
theorem dX6_day_45 : decode cX6_day 45 = .ok (.ireturn, 1) := by decide +kernel
theorem dX6_toss_0 : decode cX6_toss 0 = .ok (.aload_n 0, 1) := by decide +kernel
theorem dX6_toss_1 : decode cX6_toss 1 = .ok (.iload_n 1, 1) := by decide +kernel
theorem dX6_toss_2 : decode cX6_toss 2 = .ok (.invokevirtual 86, 3) := by decide +kernel
theorem dX6_toss_5 : decode cX6_toss 5 = .ok (.astore_n 3, 1) := by decide +kernel
theorem dX6_toss_6 : decode cX6_toss 6 = .ok (.aload_n 3, 1) := by decide +kernel
theorem dX6_toss_7 : decode cX6_toss 7 = .ok (.ifnull 13, 3) := by decide +kernel
theorem dX6_toss_10 : decode cX6_toss 10 = .ok (.iload_n 2, 1) := by decide +kernel
theorem dX6_toss_11 : decode cX6_toss 11 = .ok (.iconst 1, 1) := by decide +kernel
theorem dX6_toss_12 : decode cX6_toss 12 = .ok (.ldc 56, 2) := by decide +kernel
theorem dX6_toss_14 : decode cX6_toss 14 = .ok (.invokestatic 57, 3) := by decide +kernel
theorem dX6_toss_17 : decode cX6_toss 17 = .ok (.ifCond .ne 5, 3) := by decide +kernel
theorem dX6_toss_20 : decode cX6_toss 20 = .ok (.iconst (-1), 1) := by decide +kernel
theorem dX6_toss_21 : decode cX6_toss 21 = .ok (.ireturn, 1) := by decide +kernel
theorem dX6_toss_22 : decode cX6_toss 22 = .ok (.aload_n 3, 1) := by decide +kernel
theorem dX6_toss_23 : decode cX6_toss 23 = .ok (.getfield 166, 3) := by decide +kernel
theorem dX6_toss_26 : decode cX6_toss 26 = .ok (.iconst 2, 1) := by decide +kernel
theorem dX6_toss_27 : decode cX6_toss 27 = .ok (.if_icmp .ne 10, 3) := by decide +kernel
theorem dX6_toss_30 : decode cX6_toss 30 = .ok (.aload_n 3, 1) := by decide +kernel
theorem dX6_toss_31 : decode cX6_toss 31 = .ok (.getfield 192, 3) := by decide +kernel
theorem dX6_toss_34 : decode cX6_toss 34 = .ok (.ifCond .ne 6, 3) := by decide +kernel
theorem dX6_toss_37 : decode cX6_toss 37 = .ok (.bipush (-2), 2) := by decide +kernel
theorem dX6_toss_39 : decode cX6_toss 39 = .ok (.ireturn, 1) := by decide +kernel
theorem dX6_toss_40 : decode cX6_toss 40 = .ok (.aload_n 3, 1) := by decide +kernel
theorem dX6_toss_41 : decode cX6_toss 41 = .ok (.getfield 195, 3) := by decide +kernel
theorem dX6_toss_44 : decode cX6_toss 44 = .ok (.aload_n 0, 1) := by decide +kernel
theorem dX6_toss_45 : decode cX6_toss 45 = .ok (.aload_n 3, 1) := by decide +kernel
theorem dX6_toss_46 : decode cX6_toss 46 = .ok (.invokevirtual 198, 3) := by decide +kernel
theorem dX6_toss_49 : decode cX6_toss 49 = .ok (.iadd, 1) := by decide +kernel
theorem dX6_toss_50 : decode cX6_toss 50 = .ok (.istore 4, 2) := by decide +kernel
theorem dX6_toss_52 : decode cX6_toss 52 = .ok (.aload_n 0, 1) := by decide +kernel
theorem dX6_toss_53 : decode cX6_toss 53 = .ok (.aload_n 3, 1) := by decide +kernel
theorem dX6_toss_54 : decode cX6_toss 54 = .ok (.iload_n 2, 1) := by decide +kernel
theorem dX6_toss_55 : decode cX6_toss 55 = .ok (.invokevirtual 202, 3) := by decide +kernel
theorem dX6_toss_58 : decode cX6_toss 58 = .ok (.istore 5, 2) := by decide +kernel
theorem dX6_toss_60 : decode cX6_toss 60 = .ok (.aload_n 0, 1) := by decide +kernel
theorem dX6_toss_61 : decode cX6_toss 61 = .ok (.iload 5, 2) := by decide +kernel
theorem dX6_toss_63 : decode cX6_toss 63 = .ok (.iload 4, 2) := by decide +kernel
theorem dX6_toss_65 : decode cX6_toss 65 = .ok (.invokevirtual 206, 3) := by decide +kernel
theorem dX6_toss_68 : decode cX6_toss 68 = .ok (.iload 5, 2) := by decide +kernel
theorem dX6_toss_70 : decode cX6_toss 70 = .ok (.ireturn, 1) := by decide +kernel
theorem dX6_ship_0 : decode cX6_ship 0 = .ok (.aload_n 0, 1) := by decide +kernel
theorem dX6_ship_1 : decode cX6_ship 1 = .ok (.iload_n 1, 1) := by decide +kernel
theorem dX6_ship_2 : decode cX6_ship 2 = .ok (.invokevirtual 86, 3) := by decide +kernel
theorem dX6_ship_5 : decode cX6_ship 5 = .ok (.astore_n 3, 1) := by decide +kernel
theorem dX6_ship_6 : decode cX6_ship 6 = .ok (.aload_n 3, 1) := by decide +kernel
theorem dX6_ship_7 : decode cX6_ship 7 = .ok (.ifnonnull 8, 3) := by decide +kernel
theorem dX6_ship_10 : decode cX6_ship 10 = .ok (.bipush (-2), 2) := by decide +kernel
theorem dX6_ship_12 : decode cX6_ship 12 = .ok (.goto 8, 3) := by decide +kernel
theorem dX6_ship_15 : decode cX6_ship 15 = .ok (.aload_n 3, 1) := by decide +kernel
theorem dX6_ship_16 : decode cX6_ship 16 = .ok (.iload_n 2, 1) := by decide +kernel
theorem dX6_ship_17 : decode cX6_ship 17 = .ok (.invokevirtual 209, 3) := by decide +kernel
theorem dX6_ship_20 : decode cX6_ship 20 = .ok (.ireturn, 1) := by decide +kernel
theorem dX6_count_0 : decode cX6_count 0 = .ok (.iload_n 1, 1) := by decide +kernel
theorem dX6_count_1 : decode cX6_count 1 = .ok (.tableswitch 124 0 9 #[55, 60, 68, 76, 84, 89, 95, 101, 107, 113], 55) := by decide +kernel
theorem dX6_count_56 : decode cX6_count 56 = .ok (.aload_n 0, 1) := by decide +kernel
theorem dX6_count_57 : decode cX6_count 57 = .ok (.getfield 66, 3) := by decide +kernel
theorem dX6_count_60 : decode cX6_count 60 = .ok (.ireturn, 1) := by decide +kernel
theorem dX6_count_61 : decode cX6_count 61 = .ok (.aload_n 0, 1) := by decide +kernel
theorem dX6_count_62 : decode cX6_count 62 = .ok (.getfield 25, 3) := by decide +kernel
theorem dX6_count_65 : decode cX6_count 65 = .ok (.invokevirtual 73, 3) := by decide +kernel
theorem dX6_count_68 : decode cX6_count 68 = .ok (.ireturn, 1) := by decide +kernel
theorem dX6_count_69 : decode cX6_count 69 = .ok (.aload_n 0, 1) := by decide +kernel
theorem dX6_count_70 : decode cX6_count 70 = .ok (.getfield 29, 3) := by decide +kernel
theorem dX6_count_73 : decode cX6_count 73 = .ok (.invokevirtual 73, 3) := by decide +kernel
theorem dX6_count_76 : decode cX6_count 76 = .ok (.ireturn, 1) := by decide +kernel
theorem dX6_count_77 : decode cX6_count 77 = .ok (.aload_n 0, 1) := by decide +kernel
theorem dX6_count_78 : decode cX6_count 78 = .ok (.getfield 32, 3) := by decide +kernel
theorem dX6_count_81 : decode cX6_count 81 = .ok (.invokevirtual 73, 3) := by decide +kernel
theorem dX6_count_84 : decode cX6_count 84 = .ok (.ireturn, 1) := by decide +kernel
theorem dX6_count_85 : decode cX6_count 85 = .ok (.aload_n 0, 1) := by decide +kernel
theorem dX6_count_86 : decode cX6_count 86 = .ok (.getfield 122, 3) := by decide +kernel
theorem dX6_count_89 : decode cX6_count 89 = .ok (.ireturn, 1) := by decide +kernel
theorem dX6_count_90 : decode cX6_count 90 = .ok (.aload_n 0, 1) := by decide +kernel
theorem dX6_count_91 : decode cX6_count 91 = .ok (.iconst 0, 1) := by decide +kernel
theorem dX6_count_92 : decode cX6_count 92 = .ok (.invokevirtual 210, 3) := by decide +kernel
theorem dX6_count_95 : decode cX6_count 95 = .ok (.ireturn, 1) := by decide +kernel
theorem dX6_count_96 : decode cX6_count 96 = .ok (.aload_n 0, 1) := by decide +kernel
theorem dX6_count_97 : decode cX6_count 97 = .ok (.iconst 1, 1) := by decide +kernel
theorem dX6_count_98 : decode cX6_count 98 = .ok (.invokevirtual 210, 3) := by decide +kernel
theorem dX6_count_101 : decode cX6_count 101 = .ok (.ireturn, 1) := by decide +kernel
theorem dX6_count_102 : decode cX6_count 102 = .ok (.aload_n 0, 1) := by decide +kernel
theorem dX6_count_103 : decode cX6_count 103 = .ok (.iconst 2, 1) := by decide +kernel
theorem dX6_count_104 : decode cX6_count 104 = .ok (.invokevirtual 210, 3) := by decide +kernel
theorem dX6_count_107 : decode cX6_count 107 = .ok (.ireturn, 1) := by decide +kernel
theorem dX6_count_108 : decode cX6_count 108 = .ok (.aload_n 0, 1) := by decide +kernel
theorem dX6_count_109 : decode cX6_count 109 = .ok (.iconst 3, 1) := by decide +kernel
theorem dX6_count_110 : decode cX6_count 110 = .ok (.invokevirtual 210, 3) := by decide +kernel
theorem dX6_count_113 : decode cX6_count 113 = .ok (.ireturn, 1) := by decide +kernel
theorem dX6_count_114 : decode cX6_count 114 = .ok (.aload_n 0, 1) := by decide +kernel
theorem dX6_count_115 : decode cX6_count 115 = .ok (.getfield 38, 3) := by decide +kernel
theorem dX6_count_118 : decode cX6_count 118 = .ok (.getfield 134, 3) := by decide +kernel
theorem dX6_count_121 : decode cX6_count 121 = .ok (.getfield 138, 3) := by decide +kernel
theorem dX6_count_124 : decode cX6_count 124 = .ok (.ireturn, 1) := by decide +kernel
theorem dX6_count_125 : decode cX6_count 125 = .ok (.iconst (-1), 1) := by decide +kernel
theorem dX6_count_126 : decode cX6_count 126 = .ok (.ireturn, 1) := by decide +kernel
theorem dX6_coins_0 : decode cX6_coins 0 = .ok (.iload_n 1, 1) := by decide +kernel
theorem dX6_coins_1 : decode cX6_coins 1 = .ok (.invokestatic 52, 3) := by decide +kernel
theorem dX6_coins_4 : decode cX6_coins 4 = .ok (.ifCond .eq 10, 3) := by decide +kernel
theorem dX6_coins_7 : decode cX6_coins 7 = .ok (.aload_n 0, 1) := by decide +kernel
theorem dX6_coins_8 : decode cX6_coins 8 = .ok (.getfield 9, 3) := by decide +kernel
theorem dX6_coins_11 : decode cX6_coins 11 = .ok (.iload_n 1, 1) := by decide +kernel
theorem dX6_coins_12 : decode cX6_coins 12 = .ok (.iaload, 1) := by decide +kernel
theorem dX6_coins_13 : decode cX6_coins 13 = .ok (.ireturn, 1) := by decide +kernel
theorem dX6_coins_14 : decode cX6_coins 14 = .ok (.iload_n 1, 1) := by decide +kernel
theorem dX6_coins_15 : decode cX6_coins 15 = .ok (.bipush 10, 2) := by decide +kernel
theorem dX6_coins_17 : decode cX6_coins 17 = .ok (.if_icmp .ne 8, 3) := by decide +kernel
theorem dX6_coins_20 : decode cX6_coins 20 = .ok (.aload_n 0, 1) := by decide +kernel
theorem dX6_coins_21 : decode cX6_coins 21 = .ok (.getfield 101, 3) := by decide +kernel
theorem dX6_coins_24 : decode cX6_coins 24 = .ok (.ireturn, 1) := by decide +kernel
theorem dX6_coins_25 : decode cX6_coins 25 = .ok (.iload_n 1, 1) := by decide +kernel
theorem dX6_coins_26 : decode cX6_coins 26 = .ok (.bipush 11, 2) := by decide +kernel
theorem dX6_coins_28 : decode cX6_coins 28 = .ok (.if_icmp .ne 10, 3) := by decide +kernel
theorem dX6_coins_31 : decode cX6_coins 31 = .ok (.aload_n 0, 1) := by decide +kernel
theorem dX6_coins_32 : decode cX6_coins 32 = .ok (.getfield 62, 3) := by decide +kernel
theorem dX6_coins_35 : decode cX6_coins 35 = .ok (.goto 5, 3) := by decide +kernel
theorem dX6_coins_38 : decode cX6_coins 38 = .ok (.ldc 61, 2) := by decide +kernel
theorem dX6_coins_40 : decode cX6_coins 40 = .ok (.ireturn, 1) := by decide +kernel
theorem dX6_within_0 : decode cX6_within 0 = .ok (.iload_n 0, 1) := by decide +kernel
theorem dX6_within_1 : decode cX6_within 1 = .ok (.iload_n 1, 1) := by decide +kernel
theorem dX6_within_2 : decode cX6_within 2 = .ok (.if_icmp .lt 12, 3) := by decide +kernel
theorem dX6_within_5 : decode cX6_within 5 = .ok (.iload_n 0, 1) := by decide +kernel
theorem dX6_within_6 : decode cX6_within 6 = .ok (.iload_n 2, 1) := by decide +kernel
theorem dX6_within_7 : decode cX6_within 7 = .ok (.if_icmp .gt 7, 3) := by decide +kernel
theorem dX6_within_10 : decode cX6_within 10 = .ok (.iconst 1, 1) := by decide +kernel
theorem dX6_within_11 : decode cX6_within 11 = .ok (.goto 4, 3) := by decide +kernel
theorem dX6_within_14 : decode cX6_within 14 = .ok (.iconst 0, 1) := by decide +kernel
theorem dX6_within_15 : decode cX6_within 15 = .ok (.ireturn, 1) := by decide +kernel
theorem dX6_isPerson_0 : decode cX6_isPerson 0 = .ok (.iload_n 0, 1) := by decide +kernel
theorem dX6_isPerson_1 : decode cX6_isPerson 1 = .ok (.iconst 0, 1) := by decide +kernel
theorem dX6_isPerson_2 : decode cX6_isPerson 2 = .ok (.bipush 9, 2) := by decide +kernel
theorem dX6_isPerson_4 : decode cX6_isPerson 4 = .ok (.invokestatic 57, 3) := by decide +kernel
theorem dX6_isPerson_7 : decode cX6_isPerson 7 = .ok (.ireturn, 1) := by decide +kernel
theorem dX6_isVoteKind_0 : decode cX6_isVoteKind 0 = .ok (.iload_n 0, 1) := by decide +kernel
theorem dX6_isVoteKind_1 : decode cX6_isVoteKind 1 = .ok (.iconst 0, 1) := by decide +kernel
theorem dX6_isVoteKind_2 : decode cX6_isVoteKind 2 = .ok (.iconst 2, 1) := by decide +kernel
theorem dX6_isVoteKind_3 : decode cX6_isVoteKind 3 = .ok (.invokestatic 57, 3) := by decide +kernel
theorem dX6_isVoteKind_6 : decode cX6_isVoteKind 6 = .ok (.ireturn, 1) := by decide +kernel
theorem dX6_isRoute_0 : decode cX6_isRoute 0 = .ok (.iload_n 1, 1) := by decide +kernel
theorem dX6_isRoute_1 : decode cX6_isRoute 1 = .ok (.ifCond .lt 29, 3) := by decide +kernel
theorem dX6_isRoute_4 : decode cX6_isRoute 4 = .ok (.iload_n 1, 1) := by decide +kernel
theorem dX6_isRoute_5 : decode cX6_isRoute 5 = .ok (.bipush 100, 2) := by decide +kernel
theorem dX6_isRoute_7 : decode cX6_isRoute 7 = .ok (.idiv, 1) := by decide +kernel
theorem dX6_isRoute_8 : decode cX6_isRoute 8 = .ok (.iload_n 1, 1) := by decide +kernel
theorem dX6_isRoute_9 : decode cX6_isRoute 9 = .ok (.bipush 100, 2) := by decide +kernel
theorem dX6_isRoute_11 : decode cX6_isRoute 11 = .ok (.irem, 1) := by decide +kernel
theorem dX6_isRoute_12 : decode cX6_isRoute 12 = .ok (.if_icmp .ge 18, 3) := by decide +kernel
theorem dX6_isRoute_15 : decode cX6_isRoute 15 = .ok (.iload_n 1, 1) := by decide +kernel
theorem dX6_isRoute_16 : decode cX6_isRoute 16 = .ok (.bipush 100, 2) := by decide +kernel
theorem dX6_isRoute_18 : decode cX6_isRoute 18 = .ok (.irem, 1) := by decide +kernel
theorem dX6_isRoute_19 : decode cX6_isRoute 19 = .ok (.aload_n 0, 1) := by decide +kernel
theorem dX6_isRoute_20 : decode cX6_isRoute 20 = .ok (.getfield 66, 3) := by decide +kernel
theorem dX6_isRoute_23 : decode cX6_isRoute 23 = .ok (.if_icmp .ge 7, 3) := by decide +kernel
theorem dX6_isRoute_26 : decode cX6_isRoute 26 = .ok (.iconst 1, 1) := by decide +kernel
theorem dX6_isRoute_27 : decode cX6_isRoute 27 = .ok (.goto 4, 3) := by decide +kernel
theorem dX6_isRoute_30 : decode cX6_isRoute 30 = .ok (.iconst 0, 1) := by decide +kernel
theorem dX6_isRoute_31 : decode cX6_isRoute 31 = .ok (.ireturn, 1) := by decide +kernel
theorem dX6_isSize_0 : decode cX6_isSize 0 = .ok (.iload_n 0, 1) := by decide +kernel
theorem dX6_isSize_1 : decode cX6_isSize 1 = .ok (.ifCond .lt 48, 3) := by decide +kernel
theorem dX6_isSize_4 : decode cX6_isSize 4 = .ok (.iload_n 0, 1) := by decide +kernel
theorem dX6_isSize_5 : decode cX6_isSize 5 = .ok (.ldc 90, 2) := by decide +kernel
theorem dX6_isSize_7 : decode cX6_isSize 7 = .ok (.idiv, 1) := by decide +kernel
theorem dX6_isSize_8 : decode cX6_isSize 8 = .ok (.iconst 2, 1) := by decide +kernel
theorem dX6_isSize_9 : decode cX6_isSize 9 = .ok (.if_icmp .gt 40, 3) := by decide +kernel
theorem dX6_isSize_12 : decode cX6_isSize 12 = .ok (.iload_n 0, 1) := by decide +kernel
theorem dX6_isSize_13 : decode cX6_isSize 13 = .ok (.sipush 1000, 3) := by decide +kernel
theorem dX6_isSize_16 : decode cX6_isSize 16 = .ok (.idiv, 1) := by decide +kernel
theorem dX6_isSize_17 : decode cX6_isSize 17 = .ok (.sipush 1000, 3) := by decide +kernel
theorem dX6_isSize_20 : decode cX6_isSize 20 = .ok (.irem, 1) := by decide +kernel
theorem dX6_isSize_21 : decode cX6_isSize 21 = .ok (.iconst 1, 1) := by decide +kernel
theorem dX6_isSize_22 : decode cX6_isSize 22 = .ok (.bipush 99, 2) := by decide +kernel
theorem dX6_isSize_24 : decode cX6_isSize 24 = .ok (.invokestatic 57, 3) := by decide +kernel
theorem dX6_isSize_27 : decode cX6_isSize 27 = .ok (.ifCond .eq 22, 3) := by decide +kernel
theorem dX6_isSize_30 : decode cX6_isSize 30 = .ok (.iload_n 0, 1) := by decide +kernel
theorem dX6_isSize_31 : decode cX6_isSize 31 = .ok (.sipush 1000, 3) := by decide +kernel
theorem dX6_isSize_34 : decode cX6_isSize 34 = .ok (.irem, 1) := by decide +kernel
theorem dX6_isSize_35 : decode cX6_isSize 35 = .ok (.iconst 1, 1) := by decide +kernel
theorem dX6_isSize_36 : decode cX6_isSize 36 = .ok (.sipush 999, 3) := by decide +kernel
theorem dX6_isSize_39 : decode cX6_isSize 39 = .ok (.invokestatic 57, 3) := by decide +kernel
theorem dX6_isSize_42 : decode cX6_isSize 42 = .ok (.ifCond .eq 7, 3) := by decide +kernel
theorem dX6_isSize_45 : decode cX6_isSize 45 = .ok (.iconst 1, 1) := by decide +kernel
theorem dX6_isSize_46 : decode cX6_isSize 46 = .ok (.goto 4, 3) := by decide +kernel
theorem dX6_isSize_49 : decode cX6_isSize 49 = .ok (.iconst 0, 1) := by decide +kernel
theorem dX6_isSize_50 : decode cX6_isSize 50 = .ok (.ireturn, 1) := by decide +kernel
theorem dX6_isPrice_0 : decode cX6_isPrice 0 = .ok (.iload_n 0, 1) := by decide +kernel
theorem dX6_isPrice_1 : decode cX6_isPrice 1 = .ok (.ifCond .lt 22, 3) := by decide +kernel
theorem dX6_isPrice_4 : decode cX6_isPrice 4 = .ok (.iload_n 0, 1) := by decide +kernel
theorem dX6_isPrice_5 : decode cX6_isPrice 5 = .ok (.sipush 1000, 3) := by decide +kernel
theorem dX6_isPrice_8 : decode cX6_isPrice 8 = .ok (.idiv, 1) := by decide +kernel
theorem dX6_isPrice_9 : decode cX6_isPrice 9 = .ok (.iconst 1, 1) := by decide +kernel
theorem dX6_isPrice_10 : decode cX6_isPrice 10 = .ok (.sipush 9999, 3) := by decide +kernel
theorem dX6_isPrice_13 : decode cX6_isPrice 13 = .ok (.invokestatic 57, 3) := by decide +kernel
theorem dX6_isPrice_16 : decode cX6_isPrice 16 = .ok (.ifCond .eq 7, 3) := by decide +kernel
theorem dX6_isPrice_19 : decode cX6_isPrice 19 = .ok (.iconst 1, 1) := by decide +kernel
theorem dX6_isPrice_20 : decode cX6_isPrice 20 = .ok (.goto 4, 3) := by decide +kernel
theorem dX6_isPrice_23 : decode cX6_isPrice 23 = .ok (.iconst 0, 1) := by decide +kernel
theorem dX6_isPrice_24 : decode cX6_isPrice 24 = .ok (.ireturn, 1) := by decide +kernel
theorem dX6_galleyOf_0 : decode cX6_galleyOf 0 = .ok (.iload_n 1, 1) := by decide +kernel
theorem dX6_galleyOf_1 : decode cX6_galleyOf 1 = .ok (.iconst 0, 1) := by decide +kernel
theorem dX6_galleyOf_2 : decode cX6_galleyOf 2 = .ok (.aload_n 0, 1) := by decide +kernel
theorem dX6_galleyOf_3 : decode cX6_galleyOf 3 = .ok (.getfield 25, 3) := by decide +kernel
theorem dX6_galleyOf_6 : decode cX6_galleyOf 6 = .ok (.invokevirtual 73, 3) := by decide +kernel
theorem dX6_galleyOf_9 : decode cX6_galleyOf 9 = .ok (.iconst 1, 1) := by decide +kernel
theorem dX6_galleyOf_10 : decode cX6_galleyOf 10 = .ok (.isub, 1) := by decide +kernel
theorem dX6_galleyOf_11 : decode cX6_galleyOf 11 = .ok (.invokestatic 57, 3) := by decide +kernel
theorem dX6_galleyOf_14 : decode cX6_galleyOf 14 = .ok (.ifCond .eq 17, 3) := by decide +kernel
theorem dX6_galleyOf_17 : decode cX6_galleyOf 17 = .ok (.aload_n 0, 1) := by decide +kernel
theorem dX6_galleyOf_18 : decode cX6_galleyOf 18 = .ok (.getfield 25, 3) := by decide +kernel
theorem dX6_galleyOf_21 : decode cX6_galleyOf 21 = .ok (.iload_n 1, 1) := by decide +kernel
theorem dX6_galleyOf_22 : decode cX6_galleyOf 22 = .ok (.invokevirtual 213, 3) := by decide +kernel
theorem dX6_galleyOf_25 : decode cX6_galleyOf 25 = .ok (.checkcast 77, 3) := by decide +kernel
theorem dX6_galleyOf_28 : decode cX6_galleyOf 28 = .ok (.goto 4, 3) := by decide +kernel
theorem dX6_galleyOf_31 : decode cX6_galleyOf 31 = .ok (.aconst_null, 1) := by decide +kernel
theorem dX6_galleyOf_32 : decode cX6_galleyOf 32 = .ok (.areturn, 1) := by decide +kernel
theorem dX6_baleOf_0 : decode cX6_baleOf 0 = .ok (.iload_n 1, 1) := by decide +kernel
theorem dX6_baleOf_1 : decode cX6_baleOf 1 = .ok (.iconst 0, 1) := by decide +kernel
theorem dX6_baleOf_2 : decode cX6_baleOf 2 = .ok (.aload_n 0, 1) := by decide +kernel
theorem dX6_baleOf_3 : decode cX6_baleOf 3 = .ok (.getfield 29, 3) := by decide +kernel
theorem dX6_baleOf_6 : decode cX6_baleOf 6 = .ok (.invokevirtual 73, 3) := by decide +kernel
theorem dX6_baleOf_9 : decode cX6_baleOf 9 = .ok (.iconst 1, 1) := by decide +kernel
theorem dX6_baleOf_10 : decode cX6_baleOf 10 = .ok (.isub, 1) := by decide +kernel
theorem dX6_baleOf_11 : decode cX6_baleOf 11 = .ok (.invokestatic 57, 3) := by decide +kernel
theorem dX6_baleOf_14 : decode cX6_baleOf 14 = .ok (.ifCond .eq 17, 3) := by decide +kernel
theorem dX6_baleOf_17 : decode cX6_baleOf 17 = .ok (.aload_n 0, 1) := by decide +kernel
theorem dX6_baleOf_18 : decode cX6_baleOf 18 = .ok (.getfield 29, 3) := by decide +kernel
theorem dX6_baleOf_21 : decode cX6_baleOf 21 = .ok (.iload_n 1, 1) := by decide +kernel
theorem dX6_baleOf_22 : decode cX6_baleOf 22 = .ok (.invokevirtual 213, 3) := by decide +kernel
theorem dX6_baleOf_25 : decode cX6_baleOf 25 = .ok (.checkcast 120, 3) := by decide +kernel
theorem dX6_baleOf_28 : decode cX6_baleOf 28 = .ok (.goto 4, 3) := by decide +kernel
theorem dX6_baleOf_31 : decode cX6_baleOf 31 = .ok (.aconst_null, 1) := by decide +kernel
theorem dX6_baleOf_32 : decode cX6_baleOf 32 = .ok (.areturn, 1) := by decide +kernel
theorem dX6_allAreHome_0 : decode cX6_allAreHome 0 = .ok (.iconst 0, 1) := by decide +kernel
theorem dX6_allAreHome_1 : decode cX6_allAreHome 1 = .ok (.istore_n 1, 1) := by decide +kernel
theorem dX6_allAreHome_2 : decode cX6_allAreHome 2 = .ok (.iload_n 1, 1) := by decide +kernel
theorem dX6_allAreHome_3 : decode cX6_allAreHome 3 = .ok (.aload_n 0, 1) := by decide +kernel
theorem dX6_allAreHome_4 : decode cX6_allAreHome 4 = .ok (.getfield 25, 3) := by decide +kernel
theorem dX6_allAreHome_7 : decode cX6_allAreHome 7 = .ok (.invokevirtual 73, 3) := by decide +kernel
theorem dX6_allAreHome_10 : decode cX6_allAreHome 10 = .ok (.if_icmp .ge 28, 3) := by decide +kernel
theorem dX6_allAreHome_13 : decode cX6_allAreHome 13 = .ok (.aload_n 0, 1) := by decide +kernel
theorem dX6_allAreHome_14 : decode cX6_allAreHome 14 = .ok (.getfield 25, 3) := by decide +kernel
theorem dX6_allAreHome_17 : decode cX6_allAreHome 17 = .ok (.iload_n 1, 1) := by decide +kernel
theorem dX6_allAreHome_18 : decode cX6_allAreHome 18 = .ok (.invokevirtual 213, 3) := by decide +kernel
theorem dX6_allAreHome_21 : decode cX6_allAreHome 21 = .ok (.checkcast 77, 3) := by decide +kernel
theorem dX6_allAreHome_24 : decode cX6_allAreHome 24 = .ok (.getfield 166, 3) := by decide +kernel
theorem dX6_allAreHome_27 : decode cX6_allAreHome 27 = .ok (.ifCond .eq 5, 3) := by decide +kernel
theorem dX6_allAreHome_30 : decode cX6_allAreHome 30 = .ok (.iconst 0, 1) := by decide +kernel
theorem dX6_allAreHome_31 : decode cX6_allAreHome 31 = .ok (.ireturn, 1) := by decide +kernel
theorem dX6_allAreHome_32 : decode cX6_allAreHome 32 = .ok (.iinc 1 1, 3) := by decide +kernel
theorem dX6_allAreHome_35 : decode cX6_allAreHome 35 = .ok (.goto (-33), 3) := by decide +kernel
theorem dX6_allAreHome_38 : decode cX6_allAreHome 38 = .ok (.iconst 1, 1) := by decide +kernel
theorem dX6_allAreHome_39 : decode cX6_allAreHome 39 = .ok (.ireturn, 1) := by decide +kernel
theorem dX6_balesInState_0 : decode cX6_balesInState 0 = .ok (.iconst 0, 1) := by decide +kernel
theorem dX6_balesInState_1 : decode cX6_balesInState 1 = .ok (.istore_n 2, 1) := by decide +kernel
theorem dX6_balesInState_2 : decode cX6_balesInState 2 = .ok (.iconst 0, 1) := by decide +kernel
theorem dX6_balesInState_3 : decode cX6_balesInState 3 = .ok (.istore_n 3, 1) := by decide +kernel
theorem dX6_balesInState_4 : decode cX6_balesInState 4 = .ok (.iload_n 3, 1) := by decide +kernel
theorem dX6_balesInState_5 : decode cX6_balesInState 5 = .ok (.aload_n 0, 1) := by decide +kernel
theorem dX6_balesInState_6 : decode cX6_balesInState 6 = .ok (.getfield 29, 3) := by decide +kernel
theorem dX6_balesInState_9 : decode cX6_balesInState 9 = .ok (.invokevirtual 73, 3) := by decide +kernel
theorem dX6_balesInState_12 : decode cX6_balesInState 12 = .ok (.if_icmp .ge 30, 3) := by decide +kernel
theorem dX6_balesInState_15 : decode cX6_balesInState 15 = .ok (.aload_n 0, 1) := by decide +kernel
theorem dX6_balesInState_16 : decode cX6_balesInState 16 = .ok (.getfield 29, 3) := by decide +kernel
theorem dX6_balesInState_19 : decode cX6_balesInState 19 = .ok (.iload_n 3, 1) := by decide +kernel
theorem dX6_balesInState_20 : decode cX6_balesInState 20 = .ok (.invokevirtual 213, 3) := by decide +kernel
theorem dX6_balesInState_23 : decode cX6_balesInState 23 = .ok (.checkcast 120, 3) := by decide +kernel
theorem dX6_balesInState_26 : decode cX6_balesInState 26 = .ok (.getfield 217, 3) := by decide +kernel
theorem dX6_balesInState_29 : decode cX6_balesInState 29 = .ok (.iload_n 1, 1) := by decide +kernel
theorem dX6_balesInState_30 : decode cX6_balesInState 30 = .ok (.if_icmp .ne 6, 3) := by decide +kernel
theorem dX6_balesInState_33 : decode cX6_balesInState 33 = .ok (.iinc 2 1, 3) := by decide +kernel
theorem dX6_balesInState_36 : decode cX6_balesInState 36 = .ok (.iinc 3 1, 3) := by decide +kernel
theorem dX6_balesInState_39 : decode cX6_balesInState 39 = .ok (.goto (-35), 3) := by decide +kernel
theorem dX6_balesInState_42 : decode cX6_balesInState 42 = .ok (.iload_n 2, 1) := by decide +kernel
theorem dX6_balesInState_43 : decode cX6_balesInState 43 = .ok (.ireturn, 1) := by decide +kernel
theorem dX6_inForce_0 : decode cX6_inForce 0 = .ok (.aload_n 0, 1) := by decide +kernel
theorem dX6_inForce_1 : decode cX6_inForce 1 = .ok (.getfield 32, 3) := by decide +kernel
theorem dX6_inForce_4 : decode cX6_inForce 4 = .ok (.invokevirtual 73, 3) := by decide +kernel
theorem dX6_inForce_7 : decode cX6_inForce 7 = .ok (.iconst 1, 1) := by decide +kernel
theorem dX6_inForce_8 : decode cX6_inForce 8 = .ok (.isub, 1) := by decide +kernel
theorem dX6_inForce_9 : decode cX6_inForce 9 = .ok (.istore_n 3, 1) := by decide +kernel
theorem dX6_inForce_10 : decode cX6_inForce 10 = .ok (.iload_n 3, 1) := by decide +kernel
theorem dX6_inForce_11 : decode cX6_inForce 11 = .ok (.ifCond .lt 52, 3) := by decide +kernel
theorem dX6_inForce_14 : decode cX6_inForce 14 = .ok (.aload_n 0, 1) := by decide +kernel
theorem dX6_inForce_15 : decode cX6_inForce 15 = .ok (.getfield 32, 3) := by decide +kernel
theorem dX6_inForce_18 : decode cX6_inForce 18 = .ok (.iload_n 3, 1) := by decide +kernel
theorem dX6_inForce_19 : decode cX6_inForce 19 = .ok (.invokevirtual 213, 3) := by decide +kernel
theorem dX6_inForce_22 : decode cX6_inForce 22 = .ok (.checkcast 153, 3) := by decide +kernel
theorem dX6_inForce_25 : decode cX6_inForce 25 = .ok (.astore 4, 2) := by decide +kernel
theorem dX6_inForce_27 : decode cX6_inForce 27 = .ok (.aload 4, 2) := by decide +kernel
theorem dX6_inForce_29 : decode cX6_inForce 29 = .ok (.getfield 218, 3) := by decide +kernel
theorem dX6_inForce_32 : decode cX6_inForce 32 = .ok (.iload_n 1, 1) := by decide +kernel
theorem dX6_inForce_33 : decode cX6_inForce 33 = .ok (.if_icmp .ne 24, 3) := by decide +kernel
theorem dX6_inForce_36 : decode cX6_inForce 36 = .ok (.aload_n 0, 1) := by decide +kernel
theorem dX6_inForce_37 : decode cX6_inForce 37 = .ok (.getfield 122, 3) := by decide +kernel
theorem dX6_inForce_40 : decode cX6_inForce 40 = .ok (.aload 4, 2) := by decide +kernel
theorem dX6_inForce_42 : decode cX6_inForce 42 = .ok (.getfield 221, 3) := by decide +kernel
theorem dX6_inForce_45 : decode cX6_inForce 45 = .ok (.isub, 1) := by decide +kernel
theorem dX6_inForce_46 : decode cX6_inForce 46 = .ok (.aload_n 0, 1) := by decide +kernel
theorem dX6_inForce_47 : decode cX6_inForce 47 = .ok (.getfield 16, 3) := by decide +kernel
theorem dX6_inForce_50 : decode cX6_inForce 50 = .ok (.iload_n 2, 1) := by decide +kernel
theorem dX6_inForce_51 : decode cX6_inForce 51 = .ok (.iaload, 1) := by decide +kernel
theorem dX6_inForce_52 : decode cX6_inForce 52 = .ok (.if_icmp .lt 5, 3) := by decide +kernel
theorem dX6_inForce_55 : decode cX6_inForce 55 = .ok (.iload_n 3, 1) := by decide +kernel
theorem dX6_inForce_56 : decode cX6_inForce 56 = .ok (.ireturn, 1) := by decide +kernel
theorem dX6_inForce_57 : decode cX6_inForce 57 = .ok (.iinc 3 (-1), 3) := by decide +kernel
theorem dX6_inForce_60 : decode cX6_inForce 60 = .ok (.goto (-50), 3) := by decide +kernel
theorem dX6_inForce_63 : decode cX6_inForce 63 = .ok (.bipush (-2), 2) := by decide +kernel
theorem dX6_inForce_65 : decode cX6_inForce 65 = .ok (.ireturn, 1) := by decide +kernel
theorem dX6_workedOut_0 : decode cX6_workedOut 0 = .ok (.iload_n 2, 1) := by decide +kernel
theorem dX6_workedOut_1 : decode cX6_workedOut 1 = .ok (.iconst 0, 1) := by decide +kernel
theorem dX6_workedOut_2 : decode cX6_workedOut 2 = .ok (.aload_n 0, 1) := by decide +kernel
theorem dX6_workedOut_3 : decode cX6_workedOut 3 = .ok (.getfield 32, 3) := by decide +kernel
theorem dX6_workedOut_6 : decode cX6_workedOut 6 = .ok (.invokevirtual 73, 3) := by decide +kernel
theorem dX6_workedOut_9 : decode cX6_workedOut 9 = .ok (.iconst 1, 1) := by decide +kernel
theorem dX6_workedOut_10 : decode cX6_workedOut 10 = .ok (.isub, 1) := by decide +kernel
theorem dX6_workedOut_11 : decode cX6_workedOut 11 = .ok (.invokestatic 57, 3) := by decide +kernel
theorem dX6_workedOut_14 : decode cX6_workedOut 14 = .ok (.ifCond .ne 9, 3) := by decide +kernel
theorem dX6_workedOut_17 : decode cX6_workedOut 17 = .ok (.getstatic 224, 3) := by decide +kernel
theorem dX6_workedOut_20 : decode cX6_workedOut 20 = .ok (.iload_n 1, 1) := by decide +kernel
theorem dX6_workedOut_21 : decode cX6_workedOut 21 = .ok (.iaload, 1) := by decide +kernel
theorem dX6_workedOut_22 : decode cX6_workedOut 22 = .ok (.ireturn, 1) := by decide +kernel
theorem dX6_workedOut_23 : decode cX6_workedOut 23 = .ok (.aload_n 0, 1) := by decide +kernel
theorem dX6_workedOut_24 : decode cX6_workedOut 24 = .ok (.getfield 45, 3) := by decide +kernel
theorem dX6_workedOut_27 : decode cX6_workedOut 27 = .ok (.aload_n 0, 1) := by decide +kernel
theorem dX6_workedOut_28 : decode cX6_workedOut 28 = .ok (.getfield 32, 3) := by decide +kernel
theorem dX6_workedOut_31 : decode cX6_workedOut 31 = .ok (.iload_n 2, 1) := by decide +kernel
theorem dX6_workedOut_32 : decode cX6_workedOut 32 = .ok (.invokevirtual 213, 3) := by decide +kernel
theorem dX6_workedOut_35 : decode cX6_workedOut 35 = .ok (.checkcast 153, 3) := by decide +kernel
theorem dX6_workedOut_38 : decode cX6_workedOut 38 = .ok (.getfield 227, 3) := by decide +kernel
theorem dX6_workedOut_41 : decode cX6_workedOut 41 = .ok (.invokevirtual 230, 3) := by decide +kernel
theorem dX6_workedOut_44 : decode cX6_workedOut 44 = .ok (.ireturn, 1) := by decide +kernel
theorem dX6_lookAt_0 : decode cX6_lookAt 0 = .ok (.iconst 0, 1) := by decide +kernel
theorem dX6_lookAt_1 : decode cX6_lookAt 1 = .ok (.istore_n 2, 1) := by decide +kernel
theorem dX6_lookAt_2 : decode cX6_lookAt 2 = .ok (.iconst 0, 1) := by decide +kernel
theorem dX6_lookAt_3 : decode cX6_lookAt 3 = .ok (.istore_n 3, 1) := by decide +kernel
theorem dX6_lookAt_4 : decode cX6_lookAt 4 = .ok (.iload_n 3, 1) := by decide +kernel
theorem dX6_lookAt_5 : decode cX6_lookAt 5 = .ok (.aload_n 0, 1) := by decide +kernel
theorem dX6_lookAt_6 : decode cX6_lookAt 6 = .ok (.getfield 25, 3) := by decide +kernel
theorem dX6_lookAt_9 : decode cX6_lookAt 9 = .ok (.invokevirtual 73, 3) := by decide +kernel
theorem dX6_lookAt_12 : decode cX6_lookAt 12 = .ok (.if_icmp .ge 46, 3) := by decide +kernel
theorem dX6_lookAt_15 : decode cX6_lookAt 15 = .ok (.aload_n 0, 1) := by decide +kernel
theorem dX6_lookAt_16 : decode cX6_lookAt 16 = .ok (.getfield 25, 3) := by decide +kernel
theorem dX6_lookAt_19 : decode cX6_lookAt 19 = .ok (.iload_n 3, 1) := by decide +kernel
theorem dX6_lookAt_20 : decode cX6_lookAt 20 = .ok (.invokevirtual 213, 3) := by decide +kernel
theorem dX6_lookAt_23 : decode cX6_lookAt 23 = .ok (.checkcast 77, 3) := by decide +kernel
theorem dX6_lookAt_26 : decode cX6_lookAt 26 = .ok (.astore 4, 2) := by decide +kernel
theorem dX6_lookAt_28 : decode cX6_lookAt 28 = .ok (.aload 4, 2) := by decide +kernel
theorem dX6_lookAt_30 : decode cX6_lookAt 30 = .ok (.getfield 166, 3) := by decide +kernel
theorem dX6_lookAt_33 : decode cX6_lookAt 33 = .ok (.iconst 1, 1) := by decide +kernel
theorem dX6_lookAt_34 : decode cX6_lookAt 34 = .ok (.if_icmp .ne 18, 3) := by decide +kernel
theorem dX6_lookAt_37 : decode cX6_lookAt 37 = .ok (.aload 4, 2) := by decide +kernel
theorem dX6_lookAt_39 : decode cX6_lookAt 39 = .ok (.getfield 180, 3) := by decide +kernel
theorem dX6_lookAt_42 : decode cX6_lookAt 42 = .ok (.aload_n 1, 1) := by decide +kernel
theorem dX6_lookAt_43 : decode cX6_lookAt 43 = .ok (.getfield 180, 3) := by decide +kernel
theorem dX6_lookAt_46 : decode cX6_lookAt 46 = .ok (.if_icmp .ne 6, 3) := by decide +kernel
theorem dX6_lookAt_49 : decode cX6_lookAt 49 = .ok (.iinc 2 1, 3) := by decide +kernel
theorem dX6_lookAt_52 : decode cX6_lookAt 52 = .ok (.iinc 3 1, 3) := by decide +kernel
theorem dX6_lookAt_55 : decode cX6_lookAt 55 = .ok (.goto (-51), 3) := by decide +kernel
theorem dX6_lookAt_58 : decode cX6_lookAt 58 = .ok (.aload_n 0, 1) := by decide +kernel
theorem dX6_lookAt_59 : decode cX6_lookAt 59 = .ok (.getfield 45, 3) := by decide +kernel
theorem dX6_lookAt_62 : decode cX6_lookAt 62 = .ok (.aload_n 1, 1) := by decide +kernel
theorem dX6_lookAt_63 : decode cX6_lookAt 63 = .ok (.aload_n 0, 1) := by decide +kernel
theorem dX6_lookAt_64 : decode cX6_lookAt 64 = .ok (.getfield 122, 3) := by decide +kernel
theorem dX6_lookAt_67 : decode cX6_lookAt 67 = .ok (.iload_n 2, 1) := by decide +kernel
theorem dX6_lookAt_68 : decode cX6_lookAt 68 = .ok (.invokevirtual 234, 3) := by decide +kernel
theorem dX6_lookAt_71 : decode cX6_lookAt 71 = .ok (.return_, 1) := by decide +kernel
theorem dX6_goByOneDay_0 : decode cX6_goByOneDay 0 = .ok (.aload_n 0, 1) := by decide +kernel
theorem dX6_goByOneDay_1 : decode cX6_goByOneDay 1 = .ok (.dup, 1) := by decide +kernel
theorem dX6_goByOneDay_2 : decode cX6_goByOneDay 2 = .ok (.getfield 122, 3) := by decide +kernel
theorem dX6_goByOneDay_5 : decode cX6_goByOneDay 5 = .ok (.iconst 1, 1) := by decide +kernel
theorem dX6_goByOneDay_6 : decode cX6_goByOneDay 6 = .ok (.iadd, 1) := by decide +kernel
theorem dX6_goByOneDay_7 : decode cX6_goByOneDay 7 = .ok (.putfield 122, 3) := by decide +kernel
theorem dX6_goByOneDay_10 : decode cX6_goByOneDay 10 = .ok (.iconst 0, 1) := by decide +kernel
theorem dX6_goByOneDay_11 : decode cX6_goByOneDay 11 = .ok (.istore_n 1, 1) := by decide +kernel
theorem dX6_goByOneDay_12 : decode cX6_goByOneDay 12 = .ok (.iload_n 1, 1) := by decide +kernel
theorem dX6_goByOneDay_13 : decode cX6_goByOneDay 13 = .ok (.aload_n 0, 1) := by decide +kernel
theorem dX6_goByOneDay_14 : decode cX6_goByOneDay 14 = .ok (.getfield 25, 3) := by decide +kernel
theorem dX6_goByOneDay_17 : decode cX6_goByOneDay 17 = .ok (.invokevirtual 73, 3) := by decide +kernel
theorem dX6_goByOneDay_20 : decode cX6_goByOneDay 20 = .ok (.if_icmp .ge 66, 3) := by decide +kernel
theorem dX6_goByOneDay_23 : decode cX6_goByOneDay 23 = .ok (.aload_n 0, 1) := by decide +kernel
theorem dX6_goByOneDay_24 : decode cX6_goByOneDay 24 = .ok (.getfield 25, 3) := by decide +kernel
theorem dX6_goByOneDay_27 : decode cX6_goByOneDay 27 = .ok (.iload_n 1, 1) := by decide +kernel
theorem dX6_goByOneDay_28 : decode cX6_goByOneDay 28 = .ok (.invokevirtual 213, 3) := by decide +kernel
theorem dX6_goByOneDay_31 : decode cX6_goByOneDay 31 = .ok (.checkcast 77, 3) := by decide +kernel
theorem dX6_goByOneDay_34 : decode cX6_goByOneDay 34 = .ok (.astore_n 2, 1) := by decide +kernel
theorem dX6_goByOneDay_35 : decode cX6_goByOneDay 35 = .ok (.aload_n 2, 1) := by decide +kernel
theorem dX6_goByOneDay_36 : decode cX6_goByOneDay 36 = .ok (.getfield 166, 3) := by decide +kernel
theorem dX6_goByOneDay_39 : decode cX6_goByOneDay 39 = .ok (.iconst 2, 1) := by decide +kernel
theorem dX6_goByOneDay_40 : decode cX6_goByOneDay 40 = .ok (.if_icmp .ne 11, 3) := by decide +kernel
theorem dX6_goByOneDay_43 : decode cX6_goByOneDay 43 = .ok (.aload_n 0, 1) := by decide +kernel
theorem dX6_goByOneDay_44 : decode cX6_goByOneDay 44 = .ok (.aload_n 2, 1) := by decide +kernel
theorem dX6_goByOneDay_45 : decode cX6_goByOneDay 45 = .ok (.invokevirtual 238, 3) := by decide +kernel
theorem dX6_goByOneDay_48 : decode cX6_goByOneDay 48 = .ok (.goto 32, 3) := by decide +kernel
theorem dX6_goByOneDay_51 : decode cX6_goByOneDay 51 = .ok (.aload_n 2, 1) := by decide +kernel
theorem dX6_goByOneDay_52 : decode cX6_goByOneDay 52 = .ok (.getfield 166, 3) := by decide +kernel
theorem dX6_goByOneDay_55 : decode cX6_goByOneDay 55 = .ok (.iconst 1, 1) := by decide +kernel
theorem dX6_goByOneDay_56 : decode cX6_goByOneDay 56 = .ok (.if_icmp .ne 24, 3) := by decide +kernel
theorem dX6_goByOneDay_59 : decode cX6_goByOneDay 59 = .ok (.aload_n 0, 1) := by decide +kernel
theorem dX6_goByOneDay_60 : decode cX6_goByOneDay 60 = .ok (.aload_n 2, 1) := by decide +kernel
theorem dX6_goByOneDay_61 : decode cX6_goByOneDay 61 = .ok (.invokevirtual 241, 3) := by decide +kernel
theorem dX6_goByOneDay_64 : decode cX6_goByOneDay 64 = .ok (.ifCond .eq 16, 3) := by decide +kernel
theorem dX6_goByOneDay_67 : decode cX6_goByOneDay 67 = .ok (.aload_n 0, 1) := by decide +kernel
theorem dX6_goByOneDay_68 : decode cX6_goByOneDay 68 = .ok (.aload_n 2, 1) := by decide +kernel
theorem dX6_goByOneDay_69 : decode cX6_goByOneDay 69 = .ok (.invokevirtual 245, 3) := by decide +kernel
theorem dX6_goByOneDay_72 : decode cX6_goByOneDay 72 = .ok (.ifCond .ne 8, 3) := by decide +kernel
theorem dX6_goByOneDay_75 : decode cX6_goByOneDay 75 = .ok (.aload_n 0, 1) := by decide +kernel
theorem dX6_goByOneDay_76 : decode cX6_goByOneDay 76 = .ok (.aload_n 2, 1) := by decide +kernel
theorem dX6_goByOneDay_77 : decode cX6_goByOneDay 77 = .ok (.invokevirtual 248, 3) := by decide +kernel
theorem dX6_goByOneDay_80 : decode cX6_goByOneDay 80 = .ok (.iinc 1 1, 3) := by decide +kernel
theorem dX6_goByOneDay_83 : decode cX6_goByOneDay 83 = .ok (.goto (-71), 3) := by decide +kernel
theorem dX6_goByOneDay_86 : decode cX6_goByOneDay 86 = .ok (.return_, 1) := by decide +kernel
theorem dX6_sailOn_0 : decode cX6_sailOn 0 = .ok (.aload_n 1, 1) := by decide +kernel
theorem dX6_sailOn_1 : decode cX6_sailOn 1 = .ok (.dup, 1) := by decide +kernel
theorem dX6_sailOn_2 : decode cX6_sailOn 2 = .ok (.getfield 251, 3) := by decide +kernel
theorem dX6_sailOn_5 : decode cX6_sailOn 5 = .ok (.iconst 1, 1) := by decide +kernel
theorem dX6_sailOn_6 : decode cX6_sailOn 6 = .ok (.aload_n 1, 1) := by decide +kernel
theorem dX6_sailOn_7 : decode cX6_sailOn 7 = .ok (.getfield 254, 3) := by decide +kernel
theorem dX6_sailOn_10 : decode cX6_sailOn 10 = .ok (.aload_n 0, 1) := by decide +kernel
theorem dX6_sailOn_11 : decode cX6_sailOn 11 = .ok (.getfield 19, 3) := by decide +kernel
theorem dX6_sailOn_14 : decode cX6_sailOn 14 = .ok (.aload_n 0, 1) := by decide +kernel
theorem dX6_sailOn_15 : decode cX6_sailOn 15 = .ok (.getfield 122, 3) := by decide +kernel
theorem dX6_sailOn_18 : decode cX6_sailOn 18 = .ok (.bipush 30, 2) := by decide +kernel
theorem dX6_sailOn_20 : decode cX6_sailOn 20 = .ok (.irem, 1) := by decide +kernel
theorem dX6_sailOn_21 : decode cX6_sailOn 21 = .ok (.iaload, 1) := by decide +kernel
theorem dX6_sailOn_22 : decode cX6_sailOn 22 = .ok (.iadd, 1) := by decide +kernel
theorem dX6_sailOn_23 : decode cX6_sailOn 23 = .ok (.invokestatic 257, 3) := by decide +kernel
theorem dX6_sailOn_26 : decode cX6_sailOn 26 = .ok (.iadd, 1) := by decide +kernel
theorem dX6_sailOn_27 : decode cX6_sailOn 27 = .ok (.putfield 251, 3) := by decide +kernel
theorem dX6_sailOn_30 : decode cX6_sailOn 30 = .ok (.aload_n 1, 1) := by decide +kernel
theorem dX6_sailOn_31 : decode cX6_sailOn 31 = .ok (.getfield 251, 3) := by decide +kernel
theorem dX6_sailOn_34 : decode cX6_sailOn 34 = .ok (.bipush 10, 2) := by decide +kernel
theorem dX6_sailOn_36 : decode cX6_sailOn 36 = .ok (.aload_n 0, 1) := by decide +kernel
theorem dX6_sailOn_37 : decode cX6_sailOn 37 = .ok (.getfield 13, 3) := by decide +kernel
theorem dX6_sailOn_40 : decode cX6_sailOn 40 = .ok (.aload_n 1, 1) := by decide +kernel
theorem dX6_sailOn_41 : decode cX6_sailOn 41 = .ok (.getfield 180, 3) := by decide +kernel
theorem dX6_sailOn_44 : decode cX6_sailOn 44 = .ok (.iaload, 1) := by decide +kernel
theorem dX6_sailOn_45 : decode cX6_sailOn 45 = .ok (.imul, 1) := by decide +kernel
theorem dX6_sailOn_46 : decode cX6_sailOn 46 = .ok (.if_icmp .ge 4, 3) := by decide +kernel
theorem dX6_sailOn_49 : decode cX6_sailOn 49 = .ok (.return_, 1) := by decide +kernel
theorem dX6_sailOn_50 : decode cX6_sailOn 50 = .ok (.aload_n 1, 1) := by decide +kernel
theorem dX6_sailOn_51 : decode cX6_sailOn 51 = .ok (.aload_n 1, 1) := by decide +kernel
theorem dX6_sailOn_52 : decode cX6_sailOn 52 = .ok (.getfield 180, 3) := by decide +kernel
theorem dX6_sailOn_55 : decode cX6_sailOn 55 = .ok (.aload_n 0, 1) := by decide +kernel
theorem dX6_sailOn_56 : decode cX6_sailOn 56 = .ok (.getfield 122, 3) := by decide +kernel
theorem dX6_sailOn_59 : decode cX6_sailOn 59 = .ok (.invokevirtual 186, 3) := by decide +kernel
theorem dX6_sailOn_62 : decode cX6_sailOn 62 = .ok (.iconst 0, 1) := by decide +kernel
theorem dX6_sailOn_63 : decode cX6_sailOn 63 = .ok (.istore_n 2, 1) := by decide +kernel
theorem dX6_sailOn_64 : decode cX6_sailOn 64 = .ok (.iload_n 2, 1) := by decide +kernel
theorem dX6_sailOn_65 : decode cX6_sailOn 65 = .ok (.aload_n 0, 1) := by decide +kernel
theorem dX6_sailOn_66 : decode cX6_sailOn 66 = .ok (.getfield 29, 3) := by decide +kernel
theorem dX6_sailOn_69 : decode cX6_sailOn 69 = .ok (.invokevirtual 73, 3) := by decide +kernel
theorem dX6_sailOn_72 : decode cX6_sailOn 72 = .ok (.if_icmp .ge 46, 3) := by decide +kernel
theorem dX6_sailOn_75 : decode cX6_sailOn 75 = .ok (.aload_n 0, 1) := by decide +kernel
theorem dX6_sailOn_76 : decode cX6_sailOn 76 = .ok (.getfield 29, 3) := by decide +kernel
theorem dX6_sailOn_79 : decode cX6_sailOn 79 = .ok (.iload_n 2, 1) := by decide +kernel
theorem dX6_sailOn_80 : decode cX6_sailOn 80 = .ok (.invokevirtual 213, 3) := by decide +kernel
theorem dX6_sailOn_83 : decode cX6_sailOn 83 = .ok (.checkcast 120, 3) := by decide +kernel
theorem dX6_sailOn_86 : decode cX6_sailOn 86 = .ok (.astore_n 3, 1) := by decide +kernel
theorem dX6_sailOn_87 : decode cX6_sailOn 87 = .ok (.aload_n 3, 1) := by decide +kernel
theorem dX6_sailOn_88 : decode cX6_sailOn 88 = .ok (.aload_n 1, 1) := by decide +kernel
theorem dX6_sailOn_89 : decode cX6_sailOn 89 = .ok (.invokevirtual 262, 3) := by decide +kernel
theorem dX6_sailOn_92 : decode cX6_sailOn 92 = .ok (.ifCond .eq 20, 3) := by decide +kernel
theorem dX6_sailOn_95 : decode cX6_sailOn 95 = .ok (.aload_n 3, 1) := by decide +kernel
theorem dX6_sailOn_96 : decode cX6_sailOn 96 = .ok (.getfield 265, 3) := by decide +kernel
theorem dX6_sailOn_99 : decode cX6_sailOn 99 = .ok (.aload_n 1, 1) := by decide +kernel
theorem dX6_sailOn_100 : decode cX6_sailOn 100 = .ok (.getfield 180, 3) := by decide +kernel
theorem dX6_sailOn_103 : decode cX6_sailOn 103 = .ok (.if_icmp .ne 9, 3) := by decide +kernel
theorem dX6_sailOn_106 : decode cX6_sailOn 106 = .ok (.aload_n 0, 1) := by decide +kernel
theorem dX6_sailOn_107 : decode cX6_sailOn 107 = .ok (.aload_n 3, 1) := by decide +kernel
theorem dX6_sailOn_108 : decode cX6_sailOn 108 = .ok (.aload_n 1, 1) := by decide +kernel
theorem dX6_sailOn_109 : decode cX6_sailOn 109 = .ok (.invokevirtual 268, 3) := by decide +kernel
theorem dX6_sailOn_112 : decode cX6_sailOn 112 = .ok (.iinc 2 1, 3) := by decide +kernel
theorem dX6_sailOn_115 : decode cX6_sailOn 115 = .ok (.goto (-51), 3) := by decide +kernel
theorem dX6_sailOn_118 : decode cX6_sailOn 118 = .ok (.return_, 1) := by decide +kernel
theorem dX6_giveOut_0 : decode cX6_giveOut 0 = .ok (.aload_n 2, 1) := by decide +kernel
theorem dX6_giveOut_1 : decode cX6_giveOut 1 = .ok (.aload_n 1, 1) := by decide +kernel
theorem dX6_giveOut_2 : decode cX6_giveOut 2 = .ok (.invokevirtual 272, 3) := by decide +kernel
theorem dX6_giveOut_5 : decode cX6_giveOut 5 = .ok (.aload_n 1, 1) := by decide +kernel
theorem dX6_giveOut_6 : decode cX6_giveOut 6 = .ok (.iconst 2, 1) := by decide +kernel
theorem dX6_giveOut_7 : decode cX6_giveOut 7 = .ok (.aload_n 0, 1) := by decide +kernel
theorem dX6_giveOut_8 : decode cX6_giveOut 8 = .ok (.getfield 122, 3) := by decide +kernel
theorem dX6_giveOut_11 : decode cX6_giveOut 11 = .ok (.invokevirtual 276, 3) := by decide +kernel
theorem dX6_giveOut_14 : decode cX6_giveOut 14 = .ok (.aload_n 2, 1) := by decide +kernel
theorem dX6_giveOut_15 : decode cX6_giveOut 15 = .ok (.dup, 1) := by decide +kernel
theorem dX6_giveOut_16 : decode cX6_giveOut 16 = .ok (.getfield 279, 3) := by decide +kernel
theorem dX6_giveOut_19 : decode cX6_giveOut 19 = .ok (.aload_n 1, 1) := by decide +kernel
theorem dX6_giveOut_20 : decode cX6_giveOut 20 = .ok (.getfield 282, 3) := by decide +kernel
theorem dX6_giveOut_23 : decode cX6_giveOut 23 = .ok (.iadd, 1) := by decide +kernel
theorem dX6_giveOut_24 : decode cX6_giveOut 24 = .ok (.putfield 279, 3) := by decide +kernel
theorem dX6_giveOut_27 : decode cX6_giveOut 27 = .ok (.aload_n 0, 1) := by decide +kernel
theorem dX6_giveOut_28 : decode cX6_giveOut 28 = .ok (.getfield 9, 3) := by decide +kernel
theorem dX6_giveOut_31 : decode cX6_giveOut 31 = .ok (.aload_n 1, 1) := by decide +kernel
theorem dX6_giveOut_32 : decode cX6_giveOut 32 = .ok (.getfield 285, 3) := by decide +kernel
theorem dX6_giveOut_35 : decode cX6_giveOut 35 = .ok (.dup2, 1) := by decide +kernel
theorem dX6_giveOut_36 : decode cX6_giveOut 36 = .ok (.iaload, 1) := by decide +kernel
theorem dX6_giveOut_37 : decode cX6_giveOut 37 = .ok (.aload_n 1, 1) := by decide +kernel
theorem dX6_giveOut_38 : decode cX6_giveOut 38 = .ok (.getfield 282, 3) := by decide +kernel
theorem dX6_giveOut_41 : decode cX6_giveOut 41 = .ok (.isub, 1) := by decide +kernel
theorem dX6_giveOut_42 : decode cX6_giveOut 42 = .ok (.iastore, 1) := by decide +kernel
theorem dX6_giveOut_43 : decode cX6_giveOut 43 = .ok (.aload_n 1, 1) := by decide +kernel
theorem dX6_giveOut_44 : decode cX6_giveOut 44 = .ok (.getfield 282, 3) := by decide +kernel
theorem dX6_giveOut_47 : decode cX6_giveOut 47 = .ok (.istore_n 3, 1) := by decide +kernel
theorem dX6_giveOut_48 : decode cX6_giveOut 48 = .ok (.iconst 0, 1) := by decide +kernel
theorem dX6_giveOut_49 : decode cX6_giveOut 49 = .ok (.istore 4, 2) := by decide +kernel
theorem dX6_giveOut_51 : decode cX6_giveOut 51 = .ok (.iload 4, 2) := by decide +kernel
theorem dX6_giveOut_53 : decode cX6_giveOut 53 = .ok (.bipush 10, 2) := by decide +kernel
theorem dX6_giveOut_55 : decode cX6_giveOut 55 = .ok (.if_icmp .ge 43, 3) := by decide +kernel
theorem dX6_giveOut_58 : decode cX6_giveOut 58 = .ok (.aload_n 1, 1) := by decide +kernel
theorem dX6_giveOut_59 : decode cX6_giveOut 59 = .ok (.getfield 282, 3) := by decide +kernel
theorem dX6_giveOut_62 : decode cX6_giveOut 62 = .ok (.aload_n 2, 1) := by decide +kernel
theorem dX6_giveOut_63 : decode cX6_giveOut 63 = .ok (.getfield 108, 3) := by decide +kernel
theorem dX6_giveOut_66 : decode cX6_giveOut 66 = .ok (.iload 4, 2) := by decide +kernel
theorem dX6_giveOut_68 : decode cX6_giveOut 68 = .ok (.iaload, 1) := by decide +kernel
theorem dX6_giveOut_69 : decode cX6_giveOut 69 = .ok (.imul, 1) := by decide +kernel
theorem dX6_giveOut_70 : decode cX6_giveOut 70 = .ok (.bipush 24, 2) := by decide +kernel
theorem dX6_giveOut_72 : decode cX6_giveOut 72 = .ok (.idiv, 1) := by decide +kernel
theorem dX6_giveOut_73 : decode cX6_giveOut 73 = .ok (.istore 5, 2) := by decide +kernel
theorem dX6_giveOut_75 : decode cX6_giveOut 75 = .ok (.aload_n 0, 1) := by decide +kernel
theorem dX6_giveOut_76 : decode cX6_giveOut 76 = .ok (.getfield 9, 3) := by decide +kernel
theorem dX6_giveOut_79 : decode cX6_giveOut 79 = .ok (.iload 4, 2) := by decide +kernel
theorem dX6_giveOut_81 : decode cX6_giveOut 81 = .ok (.dup2, 1) := by decide +kernel
theorem dX6_giveOut_82 : decode cX6_giveOut 82 = .ok (.iaload, 1) := by decide +kernel
theorem dX6_giveOut_83 : decode cX6_giveOut 83 = .ok (.iload 5, 2) := by decide +kernel
theorem dX6_giveOut_85 : decode cX6_giveOut 85 = .ok (.iadd, 1) := by decide +kernel
theorem dX6_giveOut_86 : decode cX6_giveOut 86 = .ok (.iastore, 1) := by decide +kernel
theorem dX6_giveOut_87 : decode cX6_giveOut 87 = .ok (.iload_n 3, 1) := by decide +kernel
theorem dX6_giveOut_88 : decode cX6_giveOut 88 = .ok (.iload 5, 2) := by decide +kernel
theorem dX6_giveOut_90 : decode cX6_giveOut 90 = .ok (.isub, 1) := by decide +kernel
theorem dX6_giveOut_91 : decode cX6_giveOut 91 = .ok (.istore_n 3, 1) := by decide +kernel
theorem dX6_giveOut_92 : decode cX6_giveOut 92 = .ok (.iinc 4 1, 3) := by decide +kernel
theorem dX6_giveOut_95 : decode cX6_giveOut 95 = .ok (.goto (-44), 3) := by decide +kernel
theorem dX6_giveOut_98 : decode cX6_giveOut 98 = .ok (.aload_n 0, 1) := by decide +kernel
theorem dX6_giveOut_99 : decode cX6_giveOut 99 = .ok (.dup, 1) := by decide +kernel
theorem dX6_giveOut_100 : decode cX6_giveOut 100 = .ok (.getfield 101, 3) := by decide +kernel
theorem dX6_giveOut_103 : decode cX6_giveOut 103 = .ok (.iload_n 3, 1) := by decide +kernel
theorem dX6_giveOut_104 : decode cX6_giveOut 104 = .ok (.iadd, 1) := by decide +kernel
theorem dX6_giveOut_105 : decode cX6_giveOut 105 = .ok (.putfield 101, 3) := by decide +kernel
theorem dX6_giveOut_108 : decode cX6_giveOut 108 = .ok (.return_, 1) := by decide +kernel
theorem dX6_hasStayed_0 : decode cX6_hasStayed 0 = .ok (.aload_n 0, 1) := by decide +kernel
theorem dX6_hasStayed_1 : decode cX6_hasStayed 1 = .ok (.aload_n 1, 1) := by decide +kernel
theorem dX6_hasStayed_2 : decode cX6_hasStayed 2 = .ok (.invokevirtual 169, 3) := by decide +kernel
theorem dX6_hasStayed_5 : decode cX6_hasStayed 5 = .ok (.aload_n 0, 1) := by decide +kernel
theorem dX6_hasStayed_6 : decode cX6_hasStayed 6 = .ok (.iconst 0, 1) := by decide +kernel
theorem dX6_hasStayed_7 : decode cX6_hasStayed 7 = .ok (.aload_n 0, 1) := by decide +kernel
theorem dX6_hasStayed_8 : decode cX6_hasStayed 8 = .ok (.iconst 0, 1) := by decide +kernel
theorem dX6_hasStayed_9 : decode cX6_hasStayed 9 = .ok (.aload_n 1, 1) := by decide +kernel
theorem dX6_hasStayed_10 : decode cX6_hasStayed 10 = .ok (.getfield 180, 3) := by decide +kernel
theorem dX6_hasStayed_13 : decode cX6_hasStayed 13 = .ok (.invokevirtual 162, 3) := by decide +kernel
theorem dX6_hasStayed_16 : decode cX6_hasStayed 16 = .ok (.invokevirtual 183, 3) := by decide +kernel
theorem dX6_hasStayed_19 : decode cX6_hasStayed 19 = .ok (.istore_n 2, 1) := by decide +kernel
theorem dX6_hasStayed_20 : decode cX6_hasStayed 20 = .ok (.aload_n 0, 1) := by decide +kernel
theorem dX6_hasStayed_21 : decode cX6_hasStayed 21 = .ok (.getfield 122, 3) := by decide +kernel
theorem dX6_hasStayed_24 : decode cX6_hasStayed 24 = .ok (.aload_n 1, 1) := by decide +kernel
theorem dX6_hasStayed_25 : decode cX6_hasStayed 25 = .ok (.getfield 288, 3) := by decide +kernel
theorem dX6_hasStayed_28 : decode cX6_hasStayed 28 = .ok (.isub, 1) := by decide +kernel
theorem dX6_hasStayed_29 : decode cX6_hasStayed 29 = .ok (.iconst 0, 1) := by decide +kernel
theorem dX6_hasStayed_30 : decode cX6_hasStayed 30 = .ok (.bipush 30, 2) := by decide +kernel
theorem dX6_hasStayed_32 : decode cX6_hasStayed 32 = .ok (.iload_n 2, 1) := by decide +kernel
theorem dX6_hasStayed_33 : decode cX6_hasStayed 33 = .ok (.invokestatic 291, 3) := by decide +kernel
theorem dX6_hasStayed_36 : decode cX6_hasStayed 36 = .ok (.invokestatic 257, 3) := by decide +kernel
theorem dX6_hasStayed_39 : decode cX6_hasStayed 39 = .ok (.if_icmp .lt 7, 3) := by decide +kernel
theorem dX6_hasStayed_42 : decode cX6_hasStayed 42 = .ok (.iconst 1, 1) := by decide +kernel
theorem dX6_hasStayed_43 : decode cX6_hasStayed 43 = .ok (.goto 4, 3) := by decide +kernel
theorem dX6_hasStayed_46 : decode cX6_hasStayed 46 = .ok (.iconst 0, 1) := by decide +kernel
theorem dX6_hasStayed_47 : decode cX6_hasStayed 47 = .ok (.ireturn, 1) := by decide +kernel
theorem dX6_waitsForAnother_0 : decode cX6_waitsForAnother 0 = .ok (.aload_n 0, 1) := by decide +kernel
theorem dX6_waitsForAnother_1 : decode cX6_waitsForAnother 1 = .ok (.aload_n 1, 1) := by decide +kernel
theorem dX6_waitsForAnother_2 : decode cX6_waitsForAnother 2 = .ok (.invokevirtual 169, 3) := by decide +kernel
theorem dX6_waitsForAnother_5 : decode cX6_waitsForAnother 5 = .ok (.aload_n 0, 1) := by decide +kernel
theorem dX6_waitsForAnother_6 : decode cX6_waitsForAnother 6 = .ok (.iconst 2, 1) := by decide +kernel
theorem dX6_waitsForAnother_7 : decode cX6_waitsForAnother 7 = .ok (.aload_n 1, 1) := by decide +kernel
theorem dX6_waitsForAnother_8 : decode cX6_waitsForAnother 8 = .ok (.getfield 180, 3) := by decide +kernel
theorem dX6_waitsForAnother_11 : decode cX6_waitsForAnother 11 = .ok (.invokevirtual 162, 3) := by decide +kernel
theorem dX6_waitsForAnother_14 : decode cX6_waitsForAnother 14 = .ok (.istore_n 2, 1) := by decide +kernel
theorem dX6_waitsForAnother_15 : decode cX6_waitsForAnother 15 = .ok (.iconst 0, 1) := by decide +kernel
theorem dX6_waitsForAnother_16 : decode cX6_waitsForAnother 16 = .ok (.istore_n 3, 1) := by decide +kernel
theorem dX6_waitsForAnother_17 : decode cX6_waitsForAnother 17 = .ok (.iload_n 3, 1) := by decide +kernel
theorem dX6_waitsForAnother_18 : decode cX6_waitsForAnother 18 = .ok (.aload_n 0, 1) := by decide +kernel
theorem dX6_waitsForAnother_19 : decode cX6_waitsForAnother 19 = .ok (.getfield 25, 3) := by decide +kernel
theorem dX6_waitsForAnother_22 : decode cX6_waitsForAnother 22 = .ok (.invokevirtual 73, 3) := by decide +kernel
theorem dX6_waitsForAnother_25 : decode cX6_waitsForAnother 25 = .ok (.if_icmp .ge 63, 3) := by decide +kernel
theorem dX6_waitsForAnother_28 : decode cX6_waitsForAnother 28 = .ok (.aload_n 0, 1) := by decide +kernel
theorem dX6_waitsForAnother_29 : decode cX6_waitsForAnother 29 = .ok (.getfield 25, 3) := by decide +kernel
theorem dX6_waitsForAnother_32 : decode cX6_waitsForAnother 32 = .ok (.iload_n 3, 1) := by decide +kernel
theorem dX6_waitsForAnother_33 : decode cX6_waitsForAnother 33 = .ok (.invokevirtual 213, 3) := by decide +kernel
theorem dX6_waitsForAnother_36 : decode cX6_waitsForAnother 36 = .ok (.checkcast 77, 3) := by decide +kernel
theorem dX6_waitsForAnother_39 : decode cX6_waitsForAnother 39 = .ok (.astore 4, 2) := by decide +kernel
theorem dX6_waitsForAnother_41 : decode cX6_waitsForAnother 41 = .ok (.aload 4, 2) := by decide +kernel
theorem dX6_waitsForAnother_43 : decode cX6_waitsForAnother 43 = .ok (.getfield 166, 3) := by decide +kernel
theorem dX6_waitsForAnother_46 : decode cX6_waitsForAnother 46 = .ok (.iconst 2, 1) := by decide +kernel
theorem dX6_waitsForAnother_47 : decode cX6_waitsForAnother 47 = .ok (.if_icmp .ne 35, 3) := by decide +kernel
theorem dX6_waitsForAnother_50 : decode cX6_waitsForAnother 50 = .ok (.aload 4, 2) := by decide +kernel
theorem dX6_waitsForAnother_52 : decode cX6_waitsForAnother 52 = .ok (.getfield 180, 3) := by decide +kernel
theorem dX6_waitsForAnother_55 : decode cX6_waitsForAnother 55 = .ok (.aload_n 1, 1) := by decide +kernel
theorem dX6_waitsForAnother_56 : decode cX6_waitsForAnother 56 = .ok (.getfield 180, 3) := by decide +kernel
theorem dX6_waitsForAnother_59 : decode cX6_waitsForAnother 59 = .ok (.if_icmp .ne 23, 3) := by decide +kernel
theorem dX6_waitsForAnother_62 : decode cX6_waitsForAnother 62 = .ok (.aload_n 0, 1) := by decide +kernel
theorem dX6_waitsForAnother_63 : decode cX6_waitsForAnother 63 = .ok (.getfield 45, 3) := by decide +kernel
theorem dX6_waitsForAnother_66 : decode cX6_waitsForAnother 66 = .ok (.aload 4, 2) := by decide +kernel
theorem dX6_waitsForAnother_68 : decode cX6_waitsForAnother 68 = .ok (.invokevirtual 177, 3) := by decide +kernel
theorem dX6_waitsForAnother_71 : decode cX6_waitsForAnother 71 = .ok (.aload_n 0, 1) := by decide +kernel
theorem dX6_waitsForAnother_72 : decode cX6_waitsForAnother 72 = .ok (.iconst 2, 1) := by decide +kernel
theorem dX6_waitsForAnother_73 : decode cX6_waitsForAnother 73 = .ok (.iload_n 2, 1) := by decide +kernel
theorem dX6_waitsForAnother_74 : decode cX6_waitsForAnother 74 = .ok (.invokevirtual 183, 3) := by decide +kernel
theorem dX6_waitsForAnother_77 : decode cX6_waitsForAnother 77 = .ok (.ifCond .le 5, 3) := by decide +kernel
theorem dX6_waitsForAnother_80 : decode cX6_waitsForAnother 80 = .ok (.iconst 1, 1) := by decide +kernel
theorem dX6_waitsForAnother_81 : decode cX6_waitsForAnother 81 = .ok (.ireturn, 1) := by decide +kernel
theorem dX6_waitsForAnother_82 : decode cX6_waitsForAnother 82 = .ok (.iinc 3 1, 3) := by decide +kernel
theorem dX6_waitsForAnother_85 : decode cX6_waitsForAnother 85 = .ok (.goto (-68), 3) := by decide +kernel
theorem dX6_waitsForAnother_88 : decode cX6_waitsForAnother 88 = .ok (.iconst 0, 1) := by decide +kernel
theorem dX6_waitsForAnother_89 : decode cX6_waitsForAnother 89 = .ok (.ireturn, 1) := by decide +kernel
theorem dX6_leave_0 : decode cX6_leave 0 = .ok (.aload_n 1, 1) := by decide +kernel
theorem dX6_leave_1 : decode cX6_leave 1 = .ok (.getfield 180, 3) := by decide +kernel
theorem dX6_leave_4 : decode cX6_leave 4 = .ok (.aload_n 0, 1) := by decide +kernel
theorem dX6_leave_5 : decode cX6_leave 5 = .ok (.getfield 66, 3) := by decide +kernel
theorem dX6_leave_8 : decode cX6_leave 8 = .ok (.iconst 1, 1) := by decide +kernel
theorem dX6_leave_9 : decode cX6_leave 9 = .ok (.isub, 1) := by decide +kernel
theorem dX6_leave_10 : decode cX6_leave 10 = .ok (.if_icmp .lt 9, 3) := by decide +kernel
theorem dX6_leave_13 : decode cX6_leave 13 = .ok (.aload_n 1, 1) := by decide +kernel
theorem dX6_leave_14 : decode cX6_leave 14 = .ok (.iconst 3, 1) := by decide +kernel
theorem dX6_leave_15 : decode cX6_leave 15 = .ok (.putfield 166, 3) := by decide +kernel
theorem dX6_leave_18 : decode cX6_leave 18 = .ok (.return_, 1) := by decide +kernel
theorem dX6_leave_19 : decode cX6_leave 19 = .ok (.aload_n 0, 1) := by decide +kernel
theorem dX6_leave_20 : decode cX6_leave 20 = .ok (.aload_n 1, 1) := by decide +kernel
theorem dX6_leave_21 : decode cX6_leave 21 = .ok (.invokevirtual 294, 3) := by decide +kernel
theorem dX6_leave_24 : decode cX6_leave 24 = .ok (.iconst 0, 1) := by decide +kernel
theorem dX6_leave_25 : decode cX6_leave 25 = .ok (.istore_n 2, 1) := by decide +kernel
theorem dX6_leave_26 : decode cX6_leave 26 = .ok (.iload_n 2, 1) := by decide +kernel
theorem dX6_leave_27 : decode cX6_leave 27 = .ok (.aload_n 0, 1) := by decide +kernel
theorem dX6_leave_28 : decode cX6_leave 28 = .ok (.getfield 49, 3) := by decide +kernel
theorem dX6_leave_31 : decode cX6_leave 31 = .ok (.invokevirtual 73, 3) := by decide +kernel
theorem dX6_leave_34 : decode cX6_leave 34 = .ok (.if_icmp .ge 51, 3) := by decide +kernel
theorem dX6_leave_37 : decode cX6_leave 37 = .ok (.aload_n 0, 1) := by decide +kernel
theorem dX6_leave_38 : decode cX6_leave 38 = .ok (.getfield 49, 3) := by decide +kernel
theorem dX6_leave_41 : decode cX6_leave 41 = .ok (.iload_n 2, 1) := by decide +kernel
theorem dX6_leave_42 : decode cX6_leave 42 = .ok (.invokevirtual 213, 3) := by decide +kernel
theorem dX6_leave_45 : decode cX6_leave 45 = .ok (.checkcast 120, 3) := by decide +kernel
theorem dX6_leave_48 : decode cX6_leave 48 = .ok (.astore_n 3, 1) := by decide +kernel
theorem dX6_leave_49 : decode cX6_leave 49 = .ok (.aload_n 1, 1) := by decide +kernel
theorem dX6_leave_50 : decode cX6_leave 50 = .ok (.aload_n 3, 1) := by decide +kernel
theorem dX6_leave_51 : decode cX6_leave 51 = .ok (.invokevirtual 297, 3) := by decide +kernel
theorem dX6_leave_54 : decode cX6_leave 54 = .ok (.ifCond .eq 25, 3) := by decide +kernel
theorem dX6_leave_57 : decode cX6_leave 57 = .ok (.aload_n 1, 1) := by decide +kernel
theorem dX6_leave_58 : decode cX6_leave 58 = .ok (.aload_n 3, 1) := by decide +kernel
theorem dX6_leave_59 : decode cX6_leave 59 = .ok (.invokevirtual 301, 3) := by decide +kernel
theorem dX6_leave_62 : decode cX6_leave 62 = .ok (.aload_n 3, 1) := by decide +kernel
theorem dX6_leave_63 : decode cX6_leave 63 = .ok (.aload_n 1, 1) := by decide +kernel
theorem dX6_leave_64 : decode cX6_leave 64 = .ok (.getfield 304, 3) := by decide +kernel
theorem dX6_leave_67 : decode cX6_leave 67 = .ok (.putfield 307, 3) := by decide +kernel
theorem dX6_leave_70 : decode cX6_leave 70 = .ok (.aload_n 3, 1) := by decide +kernel
theorem dX6_leave_71 : decode cX6_leave 71 = .ok (.iconst 1, 1) := by decide +kernel
theorem dX6_leave_72 : decode cX6_leave 72 = .ok (.aload_n 0, 1) := by decide +kernel
theorem dX6_leave_73 : decode cX6_leave 73 = .ok (.getfield 122, 3) := by decide +kernel
theorem dX6_leave_76 : decode cX6_leave 76 = .ok (.invokevirtual 276, 3) := by decide +kernel
theorem dX6_leave_79 : decode cX6_leave 79 = .ok (.iinc 2 1, 3) := by decide +kernel
theorem dX6_leave_82 : decode cX6_leave 82 = .ok (.goto (-56), 3) := by decide +kernel
theorem dX6_leave_85 : decode cX6_leave 85 = .ok (.aload_n 1, 1) := by decide +kernel
theorem dX6_leave_86 : decode cX6_leave 86 = .ok (.aload_n 0, 1) := by decide +kernel
theorem dX6_leave_87 : decode cX6_leave 87 = .ok (.getfield 122, 3) := by decide +kernel
theorem dX6_leave_90 : decode cX6_leave 90 = .ok (.invokevirtual 310, 3) := by decide +kernel
theorem dX6_leave_93 : decode cX6_leave 93 = .ok (.return_, 1) := by decide +kernel
theorem dX6_rankForLading_0 : decode cX6_rankForLading 0 = .ok (.aload_n 0, 1) := by decide +kernel
theorem dX6_rankForLading_1 : decode cX6_rankForLading 1 = .ok (.getfield 49, 3) := by decide +kernel
theorem dX6_rankForLading_4 : decode cX6_rankForLading 4 = .ok (.invokevirtual 313, 3) := by decide +kernel
theorem dX6_rankForLading_7 : decode cX6_rankForLading 7 = .ok (.aload_n 0, 1) := by decide +kernel
theorem dX6_rankForLading_8 : decode cX6_rankForLading 8 = .ok (.aload_n 1, 1) := by decide +kernel
theorem dX6_rankForLading_9 : decode cX6_rankForLading 9 = .ok (.invokevirtual 169, 3) := by decide +kernel
theorem dX6_rankForLading_12 : decode cX6_rankForLading 12 = .ok (.aload_n 0, 1) := by decide +kernel
theorem dX6_rankForLading_13 : decode cX6_rankForLading 13 = .ok (.iconst 1, 1) := by decide +kernel
theorem dX6_rankForLading_14 : decode cX6_rankForLading 14 = .ok (.aload_n 1, 1) := by decide +kernel
theorem dX6_rankForLading_15 : decode cX6_rankForLading 15 = .ok (.getfield 180, 3) := by decide +kernel
theorem dX6_rankForLading_18 : decode cX6_rankForLading 18 = .ok (.invokevirtual 162, 3) := by decide +kernel
theorem dX6_rankForLading_21 : decode cX6_rankForLading 21 = .ok (.istore_n 2, 1) := by decide +kernel
theorem dX6_rankForLading_22 : decode cX6_rankForLading 22 = .ok (.iconst 0, 1) := by decide +kernel
theorem dX6_rankForLading_23 : decode cX6_rankForLading 23 = .ok (.istore_n 3, 1) := by decide +kernel
theorem dX6_rankForLading_24 : decode cX6_rankForLading 24 = .ok (.iload_n 3, 1) := by decide +kernel
theorem dX6_rankForLading_25 : decode cX6_rankForLading 25 = .ok (.aload_n 0, 1) := by decide +kernel
theorem dX6_rankForLading_26 : decode cX6_rankForLading 26 = .ok (.getfield 29, 3) := by decide +kernel
theorem dX6_rankForLading_29 : decode cX6_rankForLading 29 = .ok (.invokevirtual 73, 3) := by decide +kernel
theorem dX6_rankForLading_32 : decode cX6_rankForLading 32 = .ok (.if_icmp .ge 76, 3) := by decide +kernel
theorem dX6_rankForLading_35 : decode cX6_rankForLading 35 = .ok (.aload_n 0, 1) := by decide +kernel
theorem dX6_rankForLading_36 : decode cX6_rankForLading 36 = .ok (.getfield 29, 3) := by decide +kernel
theorem dX6_rankForLading_39 : decode cX6_rankForLading 39 = .ok (.iload_n 3, 1) := by decide +kernel
theorem dX6_rankForLading_40 : decode cX6_rankForLading 40 = .ok (.invokevirtual 213, 3) := by decide +kernel
theorem dX6_rankForLading_43 : decode cX6_rankForLading 43 = .ok (.checkcast 120, 3) := by decide +kernel
theorem dX6_rankForLading_46 : decode cX6_rankForLading 46 = .ok (.astore 4, 2) := by decide +kernel
theorem dX6_rankForLading_48 : decode cX6_rankForLading 48 = .ok (.aload 4, 2) := by decide +kernel
theorem dX6_rankForLading_50 : decode cX6_rankForLading 50 = .ok (.getfield 217, 3) := by decide +kernel
theorem dX6_rankForLading_53 : decode cX6_rankForLading 53 = .ok (.ifCond .ne 49, 3) := by decide +kernel
theorem dX6_rankForLading_56 : decode cX6_rankForLading 56 = .ok (.aload 4, 2) := by decide +kernel
theorem dX6_rankForLading_58 : decode cX6_rankForLading 58 = .ok (.getfield 316, 3) := by decide +kernel
theorem dX6_rankForLading_61 : decode cX6_rankForLading 61 = .ok (.aload_n 1, 1) := by decide +kernel
theorem dX6_rankForLading_62 : decode cX6_rankForLading 62 = .ok (.getfield 180, 3) := by decide +kernel
theorem dX6_rankForLading_65 : decode cX6_rankForLading 65 = .ok (.if_icmp .ne 37, 3) := by decide +kernel
theorem dX6_rankForLading_68 : decode cX6_rankForLading 68 = .ok (.aload_n 0, 1) := by decide +kernel
theorem dX6_rankForLading_69 : decode cX6_rankForLading 69 = .ok (.getfield 45, 3) := by decide +kernel
theorem dX6_rankForLading_72 : decode cX6_rankForLading 72 = .ok (.aload 4, 2) := by decide +kernel
theorem dX6_rankForLading_74 : decode cX6_rankForLading 74 = .ok (.aload_n 0, 1) := by decide +kernel
theorem dX6_rankForLading_75 : decode cX6_rankForLading 75 = .ok (.getfield 122, 3) := by decide +kernel
theorem dX6_rankForLading_78 : decode cX6_rankForLading 78 = .ok (.invokevirtual 173, 3) := by decide +kernel
theorem dX6_rankForLading_81 : decode cX6_rankForLading 81 = .ok (.aload_n 0, 1) := by decide +kernel
theorem dX6_rankForLading_82 : decode cX6_rankForLading 82 = .ok (.iconst 1, 1) := by decide +kernel
theorem dX6_rankForLading_83 : decode cX6_rankForLading 83 = .ok (.iload_n 2, 1) := by decide +kernel
theorem dX6_rankForLading_84 : decode cX6_rankForLading 84 = .ok (.invokevirtual 183, 3) := by decide +kernel
theorem dX6_rankForLading_87 : decode cX6_rankForLading 87 = .ok (.istore 5, 2) := by decide +kernel
theorem dX6_rankForLading_89 : decode cX6_rankForLading 89 = .ok (.iload 5, 2) := by decide +kernel
theorem dX6_rankForLading_91 : decode cX6_rankForLading 91 = .ok (.ifCond .le 11, 3) := by decide +kernel
theorem dX6_rankForLading_94 : decode cX6_rankForLading 94 = .ok (.aload_n 0, 1) := by decide +kernel
theorem dX6_rankForLading_95 : decode cX6_rankForLading 95 = .ok (.aload 4, 2) := by decide +kernel
theorem dX6_rankForLading_97 : decode cX6_rankForLading 97 = .ok (.iload 5, 2) := by decide +kernel
theorem dX6_rankForLading_99 : decode cX6_rankForLading 99 = .ok (.invokevirtual 319, 3) := by decide +kernel
theorem dX6_rankForLading_102 : decode cX6_rankForLading 102 = .ok (.iinc 3 1, 3) := by decide +kernel
theorem dX6_rankForLading_105 : decode cX6_rankForLading 105 = .ok (.goto (-81), 3) := by decide +kernel
theorem dX6_rankForLading_108 : decode cX6_rankForLading 108 = .ok (.return_, 1) := by decide +kernel
theorem dX6_rank_0 : decode cX6_rank 0 = .ok (.aload_n 1, 1) := by decide +kernel
theorem dX6_rank_1 : decode cX6_rank 1 = .ok (.iload_n 2, 1) := by decide +kernel
theorem dX6_rank_2 : decode cX6_rank 2 = .ok (.putfield 322, 3) := by decide +kernel
theorem dX6_rank_5 : decode cX6_rank 5 = .ok (.aload_n 0, 1) := by decide +kernel
theorem dX6_rank_6 : decode cX6_rank 6 = .ok (.getfield 49, 3) := by decide +kernel
theorem dX6_rank_9 : decode cX6_rank 9 = .ok (.invokevirtual 73, 3) := by decide +kernel
theorem dX6_rank_12 : decode cX6_rank 12 = .ok (.istore_n 3, 1) := by decide +kernel
theorem dX6_rank_13 : decode cX6_rank 13 = .ok (.aload_n 0, 1) := by decide +kernel
theorem dX6_rank_14 : decode cX6_rank 14 = .ok (.getfield 49, 3) := by decide +kernel
theorem dX6_rank_17 : decode cX6_rank 17 = .ok (.invokevirtual 73, 3) := by decide +kernel
theorem dX6_rank_20 : decode cX6_rank 20 = .ok (.iconst 1, 1) := by decide +kernel
theorem dX6_rank_21 : decode cX6_rank 21 = .ok (.isub, 1) := by decide +kernel
theorem dX6_rank_22 : decode cX6_rank 22 = .ok (.istore 4, 2) := by decide +kernel
theorem dX6_rank_24 : decode cX6_rank 24 = .ok (.iload 4, 2) := by decide +kernel
theorem dX6_rank_26 : decode cX6_rank 26 = .ok (.ifCond .lt 31, 3) := by decide +kernel
theorem dX6_rank_29 : decode cX6_rank 29 = .ok (.aload_n 0, 1) := by decide +kernel
theorem dX6_rank_30 : decode cX6_rank 30 = .ok (.getfield 49, 3) := by decide +kernel
theorem dX6_rank_33 : decode cX6_rank 33 = .ok (.iload 4, 2) := by decide +kernel
theorem dX6_rank_35 : decode cX6_rank 35 = .ok (.invokevirtual 213, 3) := by decide +kernel
theorem dX6_rank_38 : decode cX6_rank 38 = .ok (.checkcast 120, 3) := by decide +kernel
theorem dX6_rank_41 : decode cX6_rank 41 = .ok (.getfield 322, 3) := by decide +kernel
theorem dX6_rank_44 : decode cX6_rank 44 = .ok (.iload_n 2, 1) := by decide +kernel
theorem dX6_rank_45 : decode cX6_rank 45 = .ok (.if_icmp .ge 12, 3) := by decide +kernel
theorem dX6_rank_48 : decode cX6_rank 48 = .ok (.iload 4, 2) := by decide +kernel
theorem dX6_rank_50 : decode cX6_rank 50 = .ok (.istore_n 3, 1) := by decide +kernel
theorem dX6_rank_51 : decode cX6_rank 51 = .ok (.iinc 4 (-1), 3) := by decide +kernel
theorem dX6_rank_54 : decode cX6_rank 54 = .ok (.goto (-30), 3) := by decide +kernel
theorem dX6_rank_57 : decode cX6_rank 57 = .ok (.aload_n 0, 1) := by decide +kernel
theorem dX6_rank_58 : decode cX6_rank 58 = .ok (.getfield 49, 3) := by decide +kernel
theorem dX6_rank_61 : decode cX6_rank 61 = .ok (.iload_n 3, 1) := by decide +kernel
theorem dX6_rank_62 : decode cX6_rank 62 = .ok (.aload_n 1, 1) := by decide +kernel
theorem dX6_rank_63 : decode cX6_rank 63 = .ok (.invokevirtual 324, 3) := by decide +kernel
theorem dX6_rank_66 : decode cX6_rank 66 = .ok (.return_, 1) := by decide +kernel
theorem dX6_rankAboard_0 : decode cX6_rankAboard 0 = .ok (.aload_n 0, 1) := by decide +kernel
theorem dX6_rankAboard_1 : decode cX6_rankAboard 1 = .ok (.getfield 49, 3) := by decide +kernel
theorem dX6_rankAboard_4 : decode cX6_rankAboard 4 = .ok (.invokevirtual 313, 3) := by decide +kernel
theorem dX6_rankAboard_7 : decode cX6_rankAboard 7 = .ok (.iconst 0, 1) := by decide +kernel
theorem dX6_rankAboard_8 : decode cX6_rankAboard 8 = .ok (.istore_n 2, 1) := by decide +kernel
theorem dX6_rankAboard_9 : decode cX6_rankAboard 9 = .ok (.iconst 0, 1) := by decide +kernel
theorem dX6_rankAboard_10 : decode cX6_rankAboard 10 = .ok (.istore_n 3, 1) := by decide +kernel
theorem dX6_rankAboard_11 : decode cX6_rankAboard 11 = .ok (.iload_n 3, 1) := by decide +kernel
theorem dX6_rankAboard_12 : decode cX6_rankAboard 12 = .ok (.aload_n 0, 1) := by decide +kernel
theorem dX6_rankAboard_13 : decode cX6_rankAboard 13 = .ok (.getfield 29, 3) := by decide +kernel
theorem dX6_rankAboard_16 : decode cX6_rankAboard 16 = .ok (.invokevirtual 73, 3) := by decide +kernel
theorem dX6_rankAboard_19 : decode cX6_rankAboard 19 = .ok (.if_icmp .ge 50, 3) := by decide +kernel
theorem dX6_rankAboard_22 : decode cX6_rankAboard 22 = .ok (.aload_n 0, 1) := by decide +kernel
theorem dX6_rankAboard_23 : decode cX6_rankAboard 23 = .ok (.getfield 29, 3) := by decide +kernel
theorem dX6_rankAboard_26 : decode cX6_rankAboard 26 = .ok (.iload_n 3, 1) := by decide +kernel
theorem dX6_rankAboard_27 : decode cX6_rankAboard 27 = .ok (.invokevirtual 213, 3) := by decide +kernel
theorem dX6_rankAboard_30 : decode cX6_rankAboard 30 = .ok (.checkcast 120, 3) := by decide +kernel
theorem dX6_rankAboard_33 : decode cX6_rankAboard 33 = .ok (.astore 4, 2) := by decide +kernel
theorem dX6_rankAboard_35 : decode cX6_rankAboard 35 = .ok (.aload 4, 2) := by decide +kernel
theorem dX6_rankAboard_37 : decode cX6_rankAboard 37 = .ok (.aload_n 1, 1) := by decide +kernel
theorem dX6_rankAboard_38 : decode cX6_rankAboard 38 = .ok (.invokevirtual 262, 3) := by decide +kernel
theorem dX6_rankAboard_41 : decode cX6_rankAboard 41 = .ok (.ifCond .eq 22, 3) := by decide +kernel
theorem dX6_rankAboard_44 : decode cX6_rankAboard 44 = .ok (.aload_n 0, 1) := by decide +kernel
theorem dX6_rankAboard_45 : decode cX6_rankAboard 45 = .ok (.aload 4, 2) := by decide +kernel
theorem dX6_rankAboard_47 : decode cX6_rankAboard 47 = .ok (.aload 4, 2) := by decide +kernel
theorem dX6_rankAboard_49 : decode cX6_rankAboard 49 = .ok (.getfield 327, 3) := by decide +kernel
theorem dX6_rankAboard_52 : decode cX6_rankAboard 52 = .ok (.invokevirtual 319, 3) := by decide +kernel
theorem dX6_rankAboard_55 : decode cX6_rankAboard 55 = .ok (.iload_n 2, 1) := by decide +kernel
theorem dX6_rankAboard_56 : decode cX6_rankAboard 56 = .ok (.aload 4, 2) := by decide +kernel
theorem dX6_rankAboard_58 : decode cX6_rankAboard 58 = .ok (.getfield 330, 3) := by decide +kernel
theorem dX6_rankAboard_61 : decode cX6_rankAboard 61 = .ok (.iadd, 1) := by decide +kernel
theorem dX6_rankAboard_62 : decode cX6_rankAboard 62 = .ok (.istore_n 2, 1) := by decide +kernel
theorem dX6_rankAboard_63 : decode cX6_rankAboard 63 = .ok (.iinc 3 1, 3) := by decide +kernel
theorem dX6_rankAboard_66 : decode cX6_rankAboard 66 = .ok (.goto (-55), 3) := by decide +kernel
theorem dX6_rankAboard_69 : decode cX6_rankAboard 69 = .ok (.iload_n 2, 1) := by decide +kernel
theorem dX6_rankAboard_70 : decode cX6_rankAboard 70 = .ok (.ireturn, 1) := by decide +kernel
theorem dX6_throwOut_0 : decode cX6_throwOut 0 = .ok (.iconst 0, 1) := by decide +kernel
theorem dX6_throwOut_1 : decode cX6_throwOut 1 = .ok (.istore_n 3, 1) := by decide +kernel
theorem dX6_throwOut_2 : decode cX6_throwOut 2 = .ok (.iconst 0, 1) := by decide +kernel
theorem dX6_throwOut_3 : decode cX6_throwOut 3 = .ok (.istore 4, 2) := by decide +kernel
theorem dX6_throwOut_5 : decode cX6_throwOut 5 = .ok (.iconst 0, 1) := by decide +kernel
theorem dX6_throwOut_6 : decode cX6_throwOut 6 = .ok (.istore 5, 2) := by decide +kernel
theorem dX6_throwOut_8 : decode cX6_throwOut 8 = .ok (.iload 5, 2) := by decide +kernel
theorem dX6_throwOut_10 : decode cX6_throwOut 10 = .ok (.aload_n 0, 1) := by decide +kernel
theorem dX6_throwOut_11 : decode cX6_throwOut 11 = .ok (.getfield 49, 3) := by decide +kernel
theorem dX6_throwOut_14 : decode cX6_throwOut 14 = .ok (.invokevirtual 73, 3) := by decide +kernel
theorem dX6_throwOut_17 : decode cX6_throwOut 17 = .ok (.if_icmp .ge 81, 3) := by decide +kernel
theorem dX6_throwOut_20 : decode cX6_throwOut 20 = .ok (.iload 4, 2) := by decide +kernel
theorem dX6_throwOut_22 : decode cX6_throwOut 22 = .ok (.iload_n 2, 1) := by decide +kernel
theorem dX6_throwOut_23 : decode cX6_throwOut 23 = .ok (.if_icmp .ge 75, 3) := by decide +kernel
theorem dX6_throwOut_26 : decode cX6_throwOut 26 = .ok (.aload_n 0, 1) := by decide +kernel
theorem dX6_throwOut_27 : decode cX6_throwOut 27 = .ok (.getfield 49, 3) := by decide +kernel
theorem dX6_throwOut_30 : decode cX6_throwOut 30 = .ok (.iload 5, 2) := by decide +kernel
theorem dX6_throwOut_32 : decode cX6_throwOut 32 = .ok (.invokevirtual 213, 3) := by decide +kernel
theorem dX6_throwOut_35 : decode cX6_throwOut 35 = .ok (.checkcast 120, 3) := by decide +kernel
theorem dX6_throwOut_38 : decode cX6_throwOut 38 = .ok (.astore 6, 2) := by decide +kernel
theorem dX6_throwOut_40 : decode cX6_throwOut 40 = .ok (.aload_n 1, 1) := by decide +kernel
theorem dX6_throwOut_41 : decode cX6_throwOut 41 = .ok (.aload 6, 2) := by decide +kernel
theorem dX6_throwOut_43 : decode cX6_throwOut 43 = .ok (.invokevirtual 272, 3) := by decide +kernel
theorem dX6_throwOut_46 : decode cX6_throwOut 46 = .ok (.aload 6, 2) := by decide +kernel
theorem dX6_throwOut_48 : decode cX6_throwOut 48 = .ok (.iconst 3, 1) := by decide +kernel
theorem dX6_throwOut_49 : decode cX6_throwOut 49 = .ok (.aload_n 0, 1) := by decide +kernel
theorem dX6_throwOut_50 : decode cX6_throwOut 50 = .ok (.getfield 122, 3) := by decide +kernel
theorem dX6_throwOut_53 : decode cX6_throwOut 53 = .ok (.invokevirtual 276, 3) := by decide +kernel
theorem dX6_throwOut_56 : decode cX6_throwOut 56 = .ok (.aload_n 0, 1) := by decide +kernel
theorem dX6_throwOut_57 : decode cX6_throwOut 57 = .ok (.getfield 9, 3) := by decide +kernel
theorem dX6_throwOut_60 : decode cX6_throwOut 60 = .ok (.aload 6, 2) := by decide +kernel
theorem dX6_throwOut_62 : decode cX6_throwOut 62 = .ok (.getfield 285, 3) := by decide +kernel
theorem dX6_throwOut_65 : decode cX6_throwOut 65 = .ok (.dup2, 1) := by decide +kernel
theorem dX6_throwOut_66 : decode cX6_throwOut 66 = .ok (.iaload, 1) := by decide +kernel
theorem dX6_throwOut_67 : decode cX6_throwOut 67 = .ok (.aload 6, 2) := by decide +kernel
theorem dX6_throwOut_69 : decode cX6_throwOut 69 = .ok (.getfield 330, 3) := by decide +kernel
theorem dX6_throwOut_72 : decode cX6_throwOut 72 = .ok (.iadd, 1) := by decide +kernel
theorem dX6_throwOut_73 : decode cX6_throwOut 73 = .ok (.iastore, 1) := by decide +kernel
theorem dX6_throwOut_74 : decode cX6_throwOut 74 = .ok (.iload 4, 2) := by decide +kernel
theorem dX6_throwOut_76 : decode cX6_throwOut 76 = .ok (.aload 6, 2) := by decide +kernel
theorem dX6_throwOut_78 : decode cX6_throwOut 78 = .ok (.getfield 327, 3) := by decide +kernel
theorem dX6_throwOut_81 : decode cX6_throwOut 81 = .ok (.iadd, 1) := by decide +kernel
theorem dX6_throwOut_82 : decode cX6_throwOut 82 = .ok (.istore 4, 2) := by decide +kernel
theorem dX6_throwOut_84 : decode cX6_throwOut 84 = .ok (.iload_n 3, 1) := by decide +kernel
theorem dX6_throwOut_85 : decode cX6_throwOut 85 = .ok (.aload 6, 2) := by decide +kernel
theorem dX6_throwOut_87 : decode cX6_throwOut 87 = .ok (.getfield 330, 3) := by decide +kernel
theorem dX6_throwOut_90 : decode cX6_throwOut 90 = .ok (.iadd, 1) := by decide +kernel
theorem dX6_throwOut_91 : decode cX6_throwOut 91 = .ok (.istore_n 3, 1) := by decide +kernel
theorem dX6_throwOut_92 : decode cX6_throwOut 92 = .ok (.iinc 5 1, 3) := by decide +kernel
theorem dX6_throwOut_95 : decode cX6_throwOut 95 = .ok (.goto (-87), 3) := by decide +kernel
theorem dX6_throwOut_98 : decode cX6_throwOut 98 = .ok (.iload_n 3, 1) := by decide +kernel
theorem dX6_throwOut_99 : decode cX6_throwOut 99 = .ok (.ireturn, 1) := by decide +kernel
theorem dX6_shareLoss_0 : decode cX6_shareLoss 0 = .ok (.iload_n 2, 1) := by decide +kernel
theorem dX6_shareLoss_1 : decode cX6_shareLoss 1 = .ok (.iconst 1, 1) := by decide +kernel
theorem dX6_shareLoss_2 : decode cX6_shareLoss 2 = .ok (.if_icmp .ge 4, 3) := by decide +kernel
theorem dX6_shareLoss_5 : decode cX6_shareLoss 5 = .ok (.return_, 1) := by decide +kernel
theorem dX6_shareLoss_6 : decode cX6_shareLoss 6 = .ok (.iload_n 1, 1) := by decide +kernel
theorem dX6_shareLoss_7 : decode cX6_shareLoss 7 = .ok (.istore_n 3, 1) := by decide +kernel
theorem dX6_shareLoss_8 : decode cX6_shareLoss 8 = .ok (.iconst 0, 1) := by decide +kernel
theorem dX6_shareLoss_9 : decode cX6_shareLoss 9 = .ok (.istore 4, 2) := by decide +kernel
theorem dX6_shareLoss_11 : decode cX6_shareLoss 11 = .ok (.iload 4, 2) := by decide +kernel
theorem dX6_shareLoss_13 : decode cX6_shareLoss 13 = .ok (.aload_n 0, 1) := by decide +kernel
theorem dX6_shareLoss_14 : decode cX6_shareLoss 14 = .ok (.getfield 49, 3) := by decide +kernel
theorem dX6_shareLoss_17 : decode cX6_shareLoss 17 = .ok (.invokevirtual 73, 3) := by decide +kernel
theorem dX6_shareLoss_20 : decode cX6_shareLoss 20 = .ok (.if_icmp .ge 58, 3) := by decide +kernel
theorem dX6_shareLoss_23 : decode cX6_shareLoss 23 = .ok (.aload_n 0, 1) := by decide +kernel
theorem dX6_shareLoss_24 : decode cX6_shareLoss 24 = .ok (.getfield 49, 3) := by decide +kernel
theorem dX6_shareLoss_27 : decode cX6_shareLoss 27 = .ok (.iload 4, 2) := by decide +kernel
theorem dX6_shareLoss_29 : decode cX6_shareLoss 29 = .ok (.invokevirtual 213, 3) := by decide +kernel
theorem dX6_shareLoss_32 : decode cX6_shareLoss 32 = .ok (.checkcast 120, 3) := by decide +kernel
theorem dX6_shareLoss_35 : decode cX6_shareLoss 35 = .ok (.astore 5, 2) := by decide +kernel
theorem dX6_shareLoss_37 : decode cX6_shareLoss 37 = .ok (.iload_n 1, 1) := by decide +kernel
theorem dX6_shareLoss_38 : decode cX6_shareLoss 38 = .ok (.i2l, 1) := by decide +kernel
theorem dX6_shareLoss_39 : decode cX6_shareLoss 39 = .ok (.aload 5, 2) := by decide +kernel
theorem dX6_shareLoss_41 : decode cX6_shareLoss 41 = .ok (.getfield 330, 3) := by decide +kernel
theorem dX6_shareLoss_44 : decode cX6_shareLoss 44 = .ok (.i2l, 1) := by decide +kernel
theorem dX6_shareLoss_45 : decode cX6_shareLoss 45 = .ok (.lmul, 1) := by decide +kernel
theorem dX6_shareLoss_46 : decode cX6_shareLoss 46 = .ok (.iload_n 2, 1) := by decide +kernel
theorem dX6_shareLoss_47 : decode cX6_shareLoss 47 = .ok (.i2l, 1) := by decide +kernel
theorem dX6_shareLoss_48 : decode cX6_shareLoss 48 = .ok (.ldiv, 1) := by decide +kernel
theorem dX6_shareLoss_49 : decode cX6_shareLoss 49 = .ok (.l2i, 1) := by decide +kernel
theorem dX6_shareLoss_50 : decode cX6_shareLoss 50 = .ok (.istore 6, 2) := by decide +kernel
theorem dX6_shareLoss_52 : decode cX6_shareLoss 52 = .ok (.aload_n 0, 1) := by decide +kernel
theorem dX6_shareLoss_53 : decode cX6_shareLoss 53 = .ok (.getfield 9, 3) := by decide +kernel
theorem dX6_shareLoss_56 : decode cX6_shareLoss 56 = .ok (.aload 5, 2) := by decide +kernel
theorem dX6_shareLoss_58 : decode cX6_shareLoss 58 = .ok (.getfield 285, 3) := by decide +kernel
theorem dX6_shareLoss_61 : decode cX6_shareLoss 61 = .ok (.dup2, 1) := by decide +kernel
theorem dX6_shareLoss_62 : decode cX6_shareLoss 62 = .ok (.iaload, 1) := by decide +kernel
theorem dX6_shareLoss_63 : decode cX6_shareLoss 63 = .ok (.iload 6, 2) := by decide +kernel
theorem dX6_shareLoss_65 : decode cX6_shareLoss 65 = .ok (.isub, 1) := by decide +kernel
theorem dX6_shareLoss_66 : decode cX6_shareLoss 66 = .ok (.iastore, 1) := by decide +kernel
theorem dX6_shareLoss_67 : decode cX6_shareLoss 67 = .ok (.iload_n 3, 1) := by decide +kernel
theorem dX6_shareLoss_68 : decode cX6_shareLoss 68 = .ok (.iload 6, 2) := by decide +kernel
theorem dX6_shareLoss_70 : decode cX6_shareLoss 70 = .ok (.isub, 1) := by decide +kernel
theorem dX6_shareLoss_71 : decode cX6_shareLoss 71 = .ok (.istore_n 3, 1) := by decide +kernel
theorem dX6_shareLoss_72 : decode cX6_shareLoss 72 = .ok (.iinc 4 1, 3) := by decide +kernel
theorem dX6_shareLoss_75 : decode cX6_shareLoss 75 = .ok (.goto (-64), 3) := by decide +kernel
theorem dX6_shareLoss_78 : decode cX6_shareLoss 78 = .ok (.aload_n 0, 1) := by decide +kernel
theorem dX6_shareLoss_79 : decode cX6_shareLoss 79 = .ok (.dup, 1) := by decide +kernel
theorem dX6_shareLoss_80 : decode cX6_shareLoss 80 = .ok (.getfield 101, 3) := by decide +kernel
theorem dX6_shareLoss_83 : decode cX6_shareLoss 83 = .ok (.iload_n 3, 1) := by decide +kernel
theorem dX6_shareLoss_84 : decode cX6_shareLoss 84 = .ok (.isub, 1) := by decide +kernel
theorem dX6_shareLoss_85 : decode cX6_shareLoss 85 = .ok (.putfield 101, 3) := by decide +kernel
theorem dX6_shareLoss_88 : decode cX6_shareLoss 88 = .ok (.return_, 1) := by decide +kernel
end
section
theorem dL_law_0 : decode cL_law 0 = .ok (.new 7, 3) := by decide +kernel
theorem dL_law_3 : decode cL_law 3 = .ok (.dup, 1) := by decide +kernel
theorem dL_law_4 : decode cL_law 4 = .ok (.invokespecial 9, 3) := by decide +kernel
theorem dL_law_7 : decode cL_law 7 = .ok (.astore_n 1, 1) := by decide +kernel
theorem dL_law_8 : decode cL_law 8 = .ok (.new 10, 3) := by decide +kernel
theorem dL_law_11 : decode cL_law 11 = .ok (.dup, 1) := by decide +kernel
theorem dL_law_12 : decode cL_law 12 = .ok (.invokespecial 12, 3) := by decide +kernel
theorem dL_law_15 : decode cL_law 15 = .ok (.astore_n 2, 1) := by decide +kernel
theorem dL_law_16 : decode cL_law 16 = .ok (.iconst 0, 1) := by decide +kernel
theorem dL_law_17 : decode cL_law 17 = .ok (.istore_n 3, 1) := by decide +kernel
theorem dL_law_18 : decode cL_law 18 = .ok (.iload_n 3, 1) := by decide +kernel
theorem dL_law_19 : decode cL_law 19 = .ok (.aload_n 0, 1) := by decide +kernel
theorem dL_law_20 : decode cL_law 20 = .ok (.arraylength, 1) := by decide +kernel
theorem dL_law_21 : decode cL_law 21 = .ok (.iconst 5, 1) := by decide +kernel
theorem dL_law_22 : decode cL_law 22 = .ok (.isub, 1) := by decide +kernel
theorem dL_law_23 : decode cL_law 23 = .ok (.if_icmp .gt 781, 3) := by decide +kernel
theorem dL_law_26 : decode cL_law 26 = .ok (.aload_n 0, 1) := by decide +kernel
theorem dL_law_27 : decode cL_law 27 = .ok (.iload_n 3, 1) := by decide +kernel
theorem dL_law_28 : decode cL_law 28 = .ok (.iaload, 1) := by decide +kernel
theorem dL_law_29 : decode cL_law 29 = .ok (.bipush 31, 2) := by decide +kernel
theorem dL_law_31 : decode cL_law 31 = .ok (.iand, 1) := by decide +kernel
theorem dL_law_32 : decode cL_law 32 = .ok (.tableswitch 766 0 19 #[96, 129, 152, 185, 238, 281, 304, 357, 390, 443, 476, 509, 532, 565, 608, 631, 654, 687, 720, 743], 96) := by decide +kernel
theorem dL_law_128 : decode cL_law 128 = .ok (.aload_n 1, 1) := by decide +kernel
theorem dL_law_129 : decode cL_law 129 = .ok (.aload_n 0, 1) := by decide +kernel
theorem dL_law_130 : decode cL_law 130 = .ok (.iload_n 3, 1) := by decide +kernel
theorem dL_law_131 : decode cL_law 131 = .ok (.iconst 1, 1) := by decide +kernel
theorem dL_law_132 : decode cL_law 132 = .ok (.iadd, 1) := by decide +kernel
theorem dL_law_133 : decode cL_law 133 = .ok (.iaload, 1) := by decide +kernel
theorem dL_law_134 : decode cL_law 134 = .ok (.aload_n 0, 1) := by decide +kernel
theorem dL_law_135 : decode cL_law 135 = .ok (.iload_n 3, 1) := by decide +kernel
theorem dL_law_136 : decode cL_law 136 = .ok (.iconst 2, 1) := by decide +kernel
theorem dL_law_137 : decode cL_law 137 = .ok (.iadd, 1) := by decide +kernel
theorem dL_law_138 : decode cL_law 138 = .ok (.iaload, 1) := by decide +kernel
theorem dL_law_139 : decode cL_law 139 = .ok (.invokevirtual 13, 3) := by decide +kernel
theorem dL_law_142 : decode cL_law 142 = .ok (.aload_n 2, 1) := by decide +kernel
theorem dL_law_143 : decode cL_law 143 = .ok (.aload_n 0, 1) := by decide +kernel
theorem dL_law_144 : decode cL_law 144 = .ok (.iload_n 3, 1) := by decide +kernel
theorem dL_law_145 : decode cL_law 145 = .ok (.iconst 1, 1) := by decide +kernel
theorem dL_law_146 : decode cL_law 146 = .ok (.iadd, 1) := by decide +kernel
theorem dL_law_147 : decode cL_law 147 = .ok (.iaload, 1) := by decide +kernel
theorem dL_law_148 : decode cL_law 148 = .ok (.aload_n 0, 1) := by decide +kernel
theorem dL_law_149 : decode cL_law 149 = .ok (.iload_n 3, 1) := by decide +kernel
theorem dL_law_150 : decode cL_law 150 = .ok (.iconst 2, 1) := by decide +kernel
theorem dL_law_151 : decode cL_law 151 = .ok (.iadd, 1) := by decide +kernel
theorem dL_law_152 : decode cL_law 152 = .ok (.iaload, 1) := by decide +kernel
theorem dL_law_153 : decode cL_law 153 = .ok (.invokevirtual 17, 3) := by decide +kernel
theorem dL_law_156 : decode cL_law 156 = .ok (.if_icmp .eq 642, 3) := by decide +kernel
theorem dL_law_159 : decode cL_law 159 = .ok (.iconst 0, 1) := by decide +kernel
theorem dL_law_160 : decode cL_law 160 = .ok (.ireturn, 1) := by decide +kernel
theorem dL_law_161 : decode cL_law 161 = .ok (.aload_n 1, 1) := by decide +kernel
theorem dL_law_162 : decode cL_law 162 = .ok (.aload_n 0, 1) := by decide +kernel
theorem dL_law_163 : decode cL_law 163 = .ok (.iload_n 3, 1) := by decide +kernel
theorem dL_law_164 : decode cL_law 164 = .ok (.iconst 1, 1) := by decide +kernel
theorem dL_law_165 : decode cL_law 165 = .ok (.iadd, 1) := by decide +kernel
theorem dL_law_166 : decode cL_law 166 = .ok (.iaload, 1) := by decide +kernel
theorem dL_law_167 : decode cL_law 167 = .ok (.invokevirtual 18, 3) := by decide +kernel
theorem dL_law_170 : decode cL_law 170 = .ok (.aload_n 2, 1) := by decide +kernel
theorem dL_law_171 : decode cL_law 171 = .ok (.aload_n 0, 1) := by decide +kernel
theorem dL_law_172 : decode cL_law 172 = .ok (.iload_n 3, 1) := by decide +kernel
theorem dL_law_173 : decode cL_law 173 = .ok (.iconst 1, 1) := by decide +kernel
theorem dL_law_174 : decode cL_law 174 = .ok (.iadd, 1) := by decide +kernel
theorem dL_law_175 : decode cL_law 175 = .ok (.iaload, 1) := by decide +kernel
theorem dL_law_176 : decode cL_law 176 = .ok (.invokevirtual 22, 3) := by decide +kernel
theorem dL_law_179 : decode cL_law 179 = .ok (.if_icmp .eq 619, 3) := by decide +kernel
theorem dL_law_182 : decode cL_law 182 = .ok (.iconst 0, 1) := by decide +kernel
theorem dL_law_183 : decode cL_law 183 = .ok (.ireturn, 1) := by decide +kernel
theorem dL_law_184 : decode cL_law 184 = .ok (.aload_n 1, 1) := by decide +kernel
theorem dL_law_185 : decode cL_law 185 = .ok (.aload_n 0, 1) := by decide +kernel
theorem dL_law_186 : decode cL_law 186 = .ok (.iload_n 3, 1) := by decide +kernel
theorem dL_law_187 : decode cL_law 187 = .ok (.iconst 1, 1) := by decide +kernel
theorem dL_law_188 : decode cL_law 188 = .ok (.iadd, 1) := by decide +kernel
theorem dL_law_189 : decode cL_law 189 = .ok (.iaload, 1) := by decide +kernel
theorem dL_law_190 : decode cL_law 190 = .ok (.aload_n 0, 1) := by decide +kernel
theorem dL_law_191 : decode cL_law 191 = .ok (.iload_n 3, 1) := by decide +kernel
theorem dL_law_192 : decode cL_law 192 = .ok (.iconst 2, 1) := by decide +kernel
theorem dL_law_193 : decode cL_law 193 = .ok (.iadd, 1) := by decide +kernel
theorem dL_law_194 : decode cL_law 194 = .ok (.iaload, 1) := by decide +kernel
theorem dL_law_195 : decode cL_law 195 = .ok (.invokevirtual 23, 3) := by decide +kernel
theorem dL_law_198 : decode cL_law 198 = .ok (.aload_n 2, 1) := by decide +kernel
theorem dL_law_199 : decode cL_law 199 = .ok (.aload_n 0, 1) := by decide +kernel
theorem dL_law_200 : decode cL_law 200 = .ok (.iload_n 3, 1) := by decide +kernel
theorem dL_law_201 : decode cL_law 201 = .ok (.iconst 1, 1) := by decide +kernel
theorem dL_law_202 : decode cL_law 202 = .ok (.iadd, 1) := by decide +kernel
theorem dL_law_203 : decode cL_law 203 = .ok (.iaload, 1) := by decide +kernel
theorem dL_law_204 : decode cL_law 204 = .ok (.aload_n 0, 1) := by decide +kernel
theorem dL_law_205 : decode cL_law 205 = .ok (.iload_n 3, 1) := by decide +kernel
theorem dL_law_206 : decode cL_law 206 = .ok (.iconst 2, 1) := by decide +kernel
theorem dL_law_207 : decode cL_law 207 = .ok (.iadd, 1) := by decide +kernel
theorem dL_law_208 : decode cL_law 208 = .ok (.iaload, 1) := by decide +kernel
theorem dL_law_209 : decode cL_law 209 = .ok (.invokevirtual 26, 3) := by decide +kernel
theorem dL_law_212 : decode cL_law 212 = .ok (.if_icmp .eq 586, 3) := by decide +kernel
theorem dL_law_215 : decode cL_law 215 = .ok (.iconst 0, 1) := by decide +kernel
theorem dL_law_216 : decode cL_law 216 = .ok (.ireturn, 1) := by decide +kernel
theorem dL_law_217 : decode cL_law 217 = .ok (.aload_n 1, 1) := by decide +kernel
theorem dL_law_218 : decode cL_law 218 = .ok (.aload_n 0, 1) := by decide +kernel
theorem dL_law_219 : decode cL_law 219 = .ok (.iload_n 3, 1) := by decide +kernel
theorem dL_law_220 : decode cL_law 220 = .ok (.iconst 1, 1) := by decide +kernel
theorem dL_law_221 : decode cL_law 221 = .ok (.iadd, 1) := by decide +kernel
theorem dL_law_222 : decode cL_law 222 = .ok (.iaload, 1) := by decide +kernel
theorem dL_law_223 : decode cL_law 223 = .ok (.aload_n 0, 1) := by decide +kernel
theorem dL_law_224 : decode cL_law 224 = .ok (.iload_n 3, 1) := by decide +kernel
theorem dL_law_225 : decode cL_law 225 = .ok (.iconst 2, 1) := by decide +kernel
theorem dL_law_226 : decode cL_law 226 = .ok (.iadd, 1) := by decide +kernel
theorem dL_law_227 : decode cL_law 227 = .ok (.iaload, 1) := by decide +kernel
theorem dL_law_228 : decode cL_law 228 = .ok (.aload_n 0, 1) := by decide +kernel
theorem dL_law_229 : decode cL_law 229 = .ok (.iload_n 3, 1) := by decide +kernel
theorem dL_law_230 : decode cL_law 230 = .ok (.iconst 3, 1) := by decide +kernel
theorem dL_law_231 : decode cL_law 231 = .ok (.iadd, 1) := by decide +kernel
theorem dL_law_232 : decode cL_law 232 = .ok (.iaload, 1) := by decide +kernel
theorem dL_law_233 : decode cL_law 233 = .ok (.aload_n 0, 1) := by decide +kernel
theorem dL_law_234 : decode cL_law 234 = .ok (.iload_n 3, 1) := by decide +kernel
theorem dL_law_235 : decode cL_law 235 = .ok (.iconst 4, 1) := by decide +kernel
theorem dL_law_236 : decode cL_law 236 = .ok (.iadd, 1) := by decide +kernel
theorem dL_law_237 : decode cL_law 237 = .ok (.iaload, 1) := by decide +kernel
theorem dL_law_238 : decode cL_law 238 = .ok (.invokevirtual 27, 3) := by decide +kernel
theorem dL_law_241 : decode cL_law 241 = .ok (.aload_n 2, 1) := by decide +kernel
theorem dL_law_242 : decode cL_law 242 = .ok (.aload_n 0, 1) := by decide +kernel
theorem dL_law_243 : decode cL_law 243 = .ok (.iload_n 3, 1) := by decide +kernel
theorem dL_law_244 : decode cL_law 244 = .ok (.iconst 1, 1) := by decide +kernel
theorem dL_law_245 : decode cL_law 245 = .ok (.iadd, 1) := by decide +kernel
theorem dL_law_246 : decode cL_law 246 = .ok (.iaload, 1) := by decide +kernel
theorem dL_law_247 : decode cL_law 247 = .ok (.aload_n 0, 1) := by decide +kernel
theorem dL_law_248 : decode cL_law 248 = .ok (.iload_n 3, 1) := by decide +kernel
theorem dL_law_249 : decode cL_law 249 = .ok (.iconst 2, 1) := by decide +kernel
theorem dL_law_250 : decode cL_law 250 = .ok (.iadd, 1) := by decide +kernel
theorem dL_law_251 : decode cL_law 251 = .ok (.iaload, 1) := by decide +kernel
theorem dL_law_252 : decode cL_law 252 = .ok (.aload_n 0, 1) := by decide +kernel
theorem dL_law_253 : decode cL_law 253 = .ok (.iload_n 3, 1) := by decide +kernel
theorem dL_law_254 : decode cL_law 254 = .ok (.iconst 3, 1) := by decide +kernel
theorem dL_law_255 : decode cL_law 255 = .ok (.iadd, 1) := by decide +kernel
theorem dL_law_256 : decode cL_law 256 = .ok (.iaload, 1) := by decide +kernel
theorem dL_law_257 : decode cL_law 257 = .ok (.aload_n 0, 1) := by decide +kernel
theorem dL_law_258 : decode cL_law 258 = .ok (.iload_n 3, 1) := by decide +kernel
theorem dL_law_259 : decode cL_law 259 = .ok (.iconst 4, 1) := by decide +kernel
theorem dL_law_260 : decode cL_law 260 = .ok (.iadd, 1) := by decide +kernel
theorem dL_law_261 : decode cL_law 261 = .ok (.iaload, 1) := by decide +kernel
theorem dL_law_262 : decode cL_law 262 = .ok (.invokevirtual 31, 3) := by decide +kernel
theorem dL_law_265 : decode cL_law 265 = .ok (.if_icmp .eq 533, 3) := by decide +kernel
theorem dL_law_268 : decode cL_law 268 = .ok (.iconst 0, 1) := by decide +kernel
theorem dL_law_269 : decode cL_law 269 = .ok (.ireturn, 1) := by decide +kernel
theorem dL_law_270 : decode cL_law 270 = .ok (.aload_n 1, 1) := by decide +kernel
theorem dL_law_271 : decode cL_law 271 = .ok (.aload_n 0, 1) := by decide +kernel
theorem dL_law_272 : decode cL_law 272 = .ok (.iload_n 3, 1) := by decide +kernel
theorem dL_law_273 : decode cL_law 273 = .ok (.iconst 1, 1) := by decide +kernel
theorem dL_law_274 : decode cL_law 274 = .ok (.iadd, 1) := by decide +kernel
theorem dL_law_275 : decode cL_law 275 = .ok (.iaload, 1) := by decide +kernel
theorem dL_law_276 : decode cL_law 276 = .ok (.aload_n 0, 1) := by decide +kernel
theorem dL_law_277 : decode cL_law 277 = .ok (.iload_n 3, 1) := by decide +kernel
theorem dL_law_278 : decode cL_law 278 = .ok (.iconst 2, 1) := by decide +kernel
theorem dL_law_279 : decode cL_law 279 = .ok (.iadd, 1) := by decide +kernel
theorem dL_law_280 : decode cL_law 280 = .ok (.iaload, 1) := by decide +kernel
theorem dL_law_281 : decode cL_law 281 = .ok (.aload_n 0, 1) := by decide +kernel
theorem dL_law_282 : decode cL_law 282 = .ok (.iload_n 3, 1) := by decide +kernel
theorem dL_law_283 : decode cL_law 283 = .ok (.iconst 3, 1) := by decide +kernel
theorem dL_law_284 : decode cL_law 284 = .ok (.iadd, 1) := by decide +kernel
theorem dL_law_285 : decode cL_law 285 = .ok (.iaload, 1) := by decide +kernel
theorem dL_law_286 : decode cL_law 286 = .ok (.invokevirtual 32, 3) := by decide +kernel
theorem dL_law_289 : decode cL_law 289 = .ok (.aload_n 2, 1) := by decide +kernel
theorem dL_law_290 : decode cL_law 290 = .ok (.aload_n 0, 1) := by decide +kernel
theorem dL_law_291 : decode cL_law 291 = .ok (.iload_n 3, 1) := by decide +kernel
theorem dL_law_292 : decode cL_law 292 = .ok (.iconst 1, 1) := by decide +kernel
theorem dL_law_293 : decode cL_law 293 = .ok (.iadd, 1) := by decide +kernel
theorem dL_law_294 : decode cL_law 294 = .ok (.iaload, 1) := by decide +kernel
theorem dL_law_295 : decode cL_law 295 = .ok (.aload_n 0, 1) := by decide +kernel
theorem dL_law_296 : decode cL_law 296 = .ok (.iload_n 3, 1) := by decide +kernel
theorem dL_law_297 : decode cL_law 297 = .ok (.iconst 2, 1) := by decide +kernel
theorem dL_law_298 : decode cL_law 298 = .ok (.iadd, 1) := by decide +kernel
theorem dL_law_299 : decode cL_law 299 = .ok (.iaload, 1) := by decide +kernel
theorem dL_law_300 : decode cL_law 300 = .ok (.aload_n 0, 1) := by decide +kernel
theorem dL_law_301 : decode cL_law 301 = .ok (.iload_n 3, 1) := by decide +kernel
theorem dL_law_302 : decode cL_law 302 = .ok (.iconst 3, 1) := by decide +kernel
theorem dL_law_303 : decode cL_law 303 = .ok (.iadd, 1) := by decide +kernel
theorem dL_law_304 : decode cL_law 304 = .ok (.iaload, 1) := by decide +kernel
theorem dL_law_305 : decode cL_law 305 = .ok (.invokevirtual 36, 3) := by decide +kernel
theorem dL_law_308 : decode cL_law 308 = .ok (.if_icmp .eq 490, 3) := by decide +kernel
theorem dL_law_311 : decode cL_law 311 = .ok (.iconst 0, 1) := by decide +kernel
theorem dL_law_312 : decode cL_law 312 = .ok (.ireturn, 1) := by decide +kernel
theorem dL_law_313 : decode cL_law 313 = .ok (.aload_n 1, 1) := by decide +kernel
theorem dL_law_314 : decode cL_law 314 = .ok (.aload_n 0, 1) := by decide +kernel
theorem dL_law_315 : decode cL_law 315 = .ok (.iload_n 3, 1) := by decide +kernel
theorem dL_law_316 : decode cL_law 316 = .ok (.iconst 1, 1) := by decide +kernel
theorem dL_law_317 : decode cL_law 317 = .ok (.iadd, 1) := by decide +kernel
theorem dL_law_318 : decode cL_law 318 = .ok (.iaload, 1) := by decide +kernel
theorem dL_law_319 : decode cL_law 319 = .ok (.invokevirtual 37, 3) := by decide +kernel
theorem dL_law_322 : decode cL_law 322 = .ok (.aload_n 2, 1) := by decide +kernel
theorem dL_law_323 : decode cL_law 323 = .ok (.aload_n 0, 1) := by decide +kernel
theorem dL_law_324 : decode cL_law 324 = .ok (.iload_n 3, 1) := by decide +kernel
theorem dL_law_325 : decode cL_law 325 = .ok (.iconst 1, 1) := by decide +kernel
theorem dL_law_326 : decode cL_law 326 = .ok (.iadd, 1) := by decide +kernel
theorem dL_law_327 : decode cL_law 327 = .ok (.iaload, 1) := by decide +kernel
theorem dL_law_328 : decode cL_law 328 = .ok (.invokevirtual 40, 3) := by decide +kernel
theorem dL_law_331 : decode cL_law 331 = .ok (.if_icmp .eq 467, 3) := by decide +kernel
theorem dL_law_334 : decode cL_law 334 = .ok (.iconst 0, 1) := by decide +kernel
theorem dL_law_335 : decode cL_law 335 = .ok (.ireturn, 1) := by decide +kernel
theorem dL_law_336 : decode cL_law 336 = .ok (.aload_n 1, 1) := by decide +kernel
theorem dL_law_337 : decode cL_law 337 = .ok (.aload_n 0, 1) := by decide +kernel
theorem dL_law_338 : decode cL_law 338 = .ok (.iload_n 3, 1) := by decide +kernel
theorem dL_law_339 : decode cL_law 339 = .ok (.iconst 1, 1) := by decide +kernel
theorem dL_law_340 : decode cL_law 340 = .ok (.iadd, 1) := by decide +kernel
theorem dL_law_341 : decode cL_law 341 = .ok (.iaload, 1) := by decide +kernel
theorem dL_law_342 : decode cL_law 342 = .ok (.aload_n 0, 1) := by decide +kernel
theorem dL_law_343 : decode cL_law 343 = .ok (.iload_n 3, 1) := by decide +kernel
theorem dL_law_344 : decode cL_law 344 = .ok (.iconst 2, 1) := by decide +kernel
theorem dL_law_345 : decode cL_law 345 = .ok (.iadd, 1) := by decide +kernel
theorem dL_law_346 : decode cL_law 346 = .ok (.iaload, 1) := by decide +kernel
theorem dL_law_347 : decode cL_law 347 = .ok (.aload_n 0, 1) := by decide +kernel
theorem dL_law_348 : decode cL_law 348 = .ok (.iload_n 3, 1) := by decide +kernel
theorem dL_law_349 : decode cL_law 349 = .ok (.iconst 3, 1) := by decide +kernel
theorem dL_law_350 : decode cL_law 350 = .ok (.iadd, 1) := by decide +kernel
theorem dL_law_351 : decode cL_law 351 = .ok (.iaload, 1) := by decide +kernel
theorem dL_law_352 : decode cL_law 352 = .ok (.aload_n 0, 1) := by decide +kernel
theorem dL_law_353 : decode cL_law 353 = .ok (.iload_n 3, 1) := by decide +kernel
theorem dL_law_354 : decode cL_law 354 = .ok (.iconst 4, 1) := by decide +kernel
theorem dL_law_355 : decode cL_law 355 = .ok (.iadd, 1) := by decide +kernel
theorem dL_law_356 : decode cL_law 356 = .ok (.iaload, 1) := by decide +kernel
theorem dL_law_357 : decode cL_law 357 = .ok (.invokevirtual 41, 3) := by decide +kernel
theorem dL_law_360 : decode cL_law 360 = .ok (.aload_n 2, 1) := by decide +kernel
theorem dL_law_361 : decode cL_law 361 = .ok (.aload_n 0, 1) := by decide +kernel
theorem dL_law_362 : decode cL_law 362 = .ok (.iload_n 3, 1) := by decide +kernel
theorem dL_law_363 : decode cL_law 363 = .ok (.iconst 1, 1) := by decide +kernel
theorem dL_law_364 : decode cL_law 364 = .ok (.iadd, 1) := by decide +kernel
theorem dL_law_365 : decode cL_law 365 = .ok (.iaload, 1) := by decide +kernel
theorem dL_law_366 : decode cL_law 366 = .ok (.aload_n 0, 1) := by decide +kernel
theorem dL_law_367 : decode cL_law 367 = .ok (.iload_n 3, 1) := by decide +kernel
theorem dL_law_368 : decode cL_law 368 = .ok (.iconst 2, 1) := by decide +kernel
theorem dL_law_369 : decode cL_law 369 = .ok (.iadd, 1) := by decide +kernel
theorem dL_law_370 : decode cL_law 370 = .ok (.iaload, 1) := by decide +kernel
theorem dL_law_371 : decode cL_law 371 = .ok (.aload_n 0, 1) := by decide +kernel
theorem dL_law_372 : decode cL_law 372 = .ok (.iload_n 3, 1) := by decide +kernel
theorem dL_law_373 : decode cL_law 373 = .ok (.iconst 3, 1) := by decide +kernel
theorem dL_law_374 : decode cL_law 374 = .ok (.iadd, 1) := by decide +kernel
theorem dL_law_375 : decode cL_law 375 = .ok (.iaload, 1) := by decide +kernel
theorem dL_law_376 : decode cL_law 376 = .ok (.aload_n 0, 1) := by decide +kernel
theorem dL_law_377 : decode cL_law 377 = .ok (.iload_n 3, 1) := by decide +kernel
theorem dL_law_378 : decode cL_law 378 = .ok (.iconst 4, 1) := by decide +kernel
theorem dL_law_379 : decode cL_law 379 = .ok (.iadd, 1) := by decide +kernel
theorem dL_law_380 : decode cL_law 380 = .ok (.iaload, 1) := by decide +kernel
theorem dL_law_381 : decode cL_law 381 = .ok (.invokevirtual 44, 3) := by decide +kernel
theorem dL_law_384 : decode cL_law 384 = .ok (.if_icmp .eq 414, 3) := by decide +kernel
theorem dL_law_387 : decode cL_law 387 = .ok (.iconst 0, 1) := by decide +kernel
theorem dL_law_388 : decode cL_law 388 = .ok (.ireturn, 1) := by decide +kernel
theorem dL_law_389 : decode cL_law 389 = .ok (.aload_n 1, 1) := by decide +kernel
theorem dL_law_390 : decode cL_law 390 = .ok (.aload_n 0, 1) := by decide +kernel
theorem dL_law_391 : decode cL_law 391 = .ok (.iload_n 3, 1) := by decide +kernel
theorem dL_law_392 : decode cL_law 392 = .ok (.iconst 1, 1) := by decide +kernel
theorem dL_law_393 : decode cL_law 393 = .ok (.iadd, 1) := by decide +kernel
theorem dL_law_394 : decode cL_law 394 = .ok (.iaload, 1) := by decide +kernel
theorem dL_law_395 : decode cL_law 395 = .ok (.aload_n 0, 1) := by decide +kernel
theorem dL_law_396 : decode cL_law 396 = .ok (.iload_n 3, 1) := by decide +kernel
theorem dL_law_397 : decode cL_law 397 = .ok (.iconst 2, 1) := by decide +kernel
theorem dL_law_398 : decode cL_law 398 = .ok (.iadd, 1) := by decide +kernel
theorem dL_law_399 : decode cL_law 399 = .ok (.iaload, 1) := by decide +kernel
theorem dL_law_400 : decode cL_law 400 = .ok (.invokevirtual 45, 3) := by decide +kernel
theorem dL_law_403 : decode cL_law 403 = .ok (.aload_n 2, 1) := by decide +kernel
theorem dL_law_404 : decode cL_law 404 = .ok (.aload_n 0, 1) := by decide +kernel
theorem dL_law_405 : decode cL_law 405 = .ok (.iload_n 3, 1) := by decide +kernel
theorem dL_law_406 : decode cL_law 406 = .ok (.iconst 1, 1) := by decide +kernel
theorem dL_law_407 : decode cL_law 407 = .ok (.iadd, 1) := by decide +kernel
theorem dL_law_408 : decode cL_law 408 = .ok (.iaload, 1) := by decide +kernel
theorem dL_law_409 : decode cL_law 409 = .ok (.aload_n 0, 1) := by decide +kernel
theorem dL_law_410 : decode cL_law 410 = .ok (.iload_n 3, 1) := by decide +kernel
theorem dL_law_411 : decode cL_law 411 = .ok (.iconst 2, 1) := by decide +kernel
theorem dL_law_412 : decode cL_law 412 = .ok (.iadd, 1) := by decide +kernel
theorem dL_law_413 : decode cL_law 413 = .ok (.iaload, 1) := by decide +kernel
theorem dL_law_414 : decode cL_law 414 = .ok (.invokevirtual 48, 3) := by decide +kernel
theorem dL_law_417 : decode cL_law 417 = .ok (.if_icmp .eq 381, 3) := by decide +kernel
theorem dL_law_420 : decode cL_law 420 = .ok (.iconst 0, 1) := by decide +kernel
theorem dL_law_421 : decode cL_law 421 = .ok (.ireturn, 1) := by decide +kernel
theorem dL_law_422 : decode cL_law 422 = .ok (.aload_n 1, 1) := by decide +kernel
theorem dL_law_423 : decode cL_law 423 = .ok (.aload_n 0, 1) := by decide +kernel
theorem dL_law_424 : decode cL_law 424 = .ok (.iload_n 3, 1) := by decide +kernel
theorem dL_law_425 : decode cL_law 425 = .ok (.iconst 1, 1) := by decide +kernel
theorem dL_law_426 : decode cL_law 426 = .ok (.iadd, 1) := by decide +kernel
theorem dL_law_427 : decode cL_law 427 = .ok (.iaload, 1) := by decide +kernel
theorem dL_law_428 : decode cL_law 428 = .ok (.aload_n 0, 1) := by decide +kernel
theorem dL_law_429 : decode cL_law 429 = .ok (.iload_n 3, 1) := by decide +kernel
theorem dL_law_430 : decode cL_law 430 = .ok (.iconst 2, 1) := by decide +kernel
theorem dL_law_431 : decode cL_law 431 = .ok (.iadd, 1) := by decide +kernel
theorem dL_law_432 : decode cL_law 432 = .ok (.iaload, 1) := by decide +kernel
theorem dL_law_433 : decode cL_law 433 = .ok (.aload_n 0, 1) := by decide +kernel
theorem dL_law_434 : decode cL_law 434 = .ok (.iload_n 3, 1) := by decide +kernel
theorem dL_law_435 : decode cL_law 435 = .ok (.iconst 3, 1) := by decide +kernel
theorem dL_law_436 : decode cL_law 436 = .ok (.iadd, 1) := by decide +kernel
theorem dL_law_437 : decode cL_law 437 = .ok (.iaload, 1) := by decide +kernel
theorem dL_law_438 : decode cL_law 438 = .ok (.aload_n 0, 1) := by decide +kernel
theorem dL_law_439 : decode cL_law 439 = .ok (.iload_n 3, 1) := by decide +kernel
theorem dL_law_440 : decode cL_law 440 = .ok (.iconst 4, 1) := by decide +kernel
theorem dL_law_441 : decode cL_law 441 = .ok (.iadd, 1) := by decide +kernel
theorem dL_law_442 : decode cL_law 442 = .ok (.iaload, 1) := by decide +kernel
theorem dL_law_443 : decode cL_law 443 = .ok (.invokevirtual 49, 3) := by decide +kernel
theorem dL_law_446 : decode cL_law 446 = .ok (.aload_n 2, 1) := by decide +kernel
theorem dL_law_447 : decode cL_law 447 = .ok (.aload_n 0, 1) := by decide +kernel
theorem dL_law_448 : decode cL_law 448 = .ok (.iload_n 3, 1) := by decide +kernel
theorem dL_law_449 : decode cL_law 449 = .ok (.iconst 1, 1) := by decide +kernel
theorem dL_law_450 : decode cL_law 450 = .ok (.iadd, 1) := by decide +kernel
theorem dL_law_451 : decode cL_law 451 = .ok (.iaload, 1) := by decide +kernel
theorem dL_law_452 : decode cL_law 452 = .ok (.aload_n 0, 1) := by decide +kernel
theorem dL_law_453 : decode cL_law 453 = .ok (.iload_n 3, 1) := by decide +kernel
theorem dL_law_454 : decode cL_law 454 = .ok (.iconst 2, 1) := by decide +kernel
theorem dL_law_455 : decode cL_law 455 = .ok (.iadd, 1) := by decide +kernel
theorem dL_law_456 : decode cL_law 456 = .ok (.iaload, 1) := by decide +kernel
theorem dL_law_457 : decode cL_law 457 = .ok (.aload_n 0, 1) := by decide +kernel
theorem dL_law_458 : decode cL_law 458 = .ok (.iload_n 3, 1) := by decide +kernel
theorem dL_law_459 : decode cL_law 459 = .ok (.iconst 3, 1) := by decide +kernel
theorem dL_law_460 : decode cL_law 460 = .ok (.iadd, 1) := by decide +kernel
theorem dL_law_461 : decode cL_law 461 = .ok (.iaload, 1) := by decide +kernel
theorem dL_law_462 : decode cL_law 462 = .ok (.aload_n 0, 1) := by decide +kernel
theorem dL_law_463 : decode cL_law 463 = .ok (.iload_n 3, 1) := by decide +kernel
theorem dL_law_464 : decode cL_law 464 = .ok (.iconst 4, 1) := by decide +kernel
theorem dL_law_465 : decode cL_law 465 = .ok (.iadd, 1) := by decide +kernel
theorem dL_law_466 : decode cL_law 466 = .ok (.iaload, 1) := by decide +kernel
theorem dL_law_467 : decode cL_law 467 = .ok (.invokevirtual 52, 3) := by decide +kernel
theorem dL_law_470 : decode cL_law 470 = .ok (.if_icmp .eq 328, 3) := by decide +kernel
theorem dL_law_473 : decode cL_law 473 = .ok (.iconst 0, 1) := by decide +kernel
theorem dL_law_474 : decode cL_law 474 = .ok (.ireturn, 1) := by decide +kernel
theorem dL_law_475 : decode cL_law 475 = .ok (.aload_n 1, 1) := by decide +kernel
theorem dL_law_476 : decode cL_law 476 = .ok (.aload_n 0, 1) := by decide +kernel
theorem dL_law_477 : decode cL_law 477 = .ok (.iload_n 3, 1) := by decide +kernel
theorem dL_law_478 : decode cL_law 478 = .ok (.iconst 1, 1) := by decide +kernel
theorem dL_law_479 : decode cL_law 479 = .ok (.iadd, 1) := by decide +kernel
theorem dL_law_480 : decode cL_law 480 = .ok (.iaload, 1) := by decide +kernel
theorem dL_law_481 : decode cL_law 481 = .ok (.aload_n 0, 1) := by decide +kernel
theorem dL_law_482 : decode cL_law 482 = .ok (.iload_n 3, 1) := by decide +kernel
theorem dL_law_483 : decode cL_law 483 = .ok (.iconst 2, 1) := by decide +kernel
theorem dL_law_484 : decode cL_law 484 = .ok (.iadd, 1) := by decide +kernel
theorem dL_law_485 : decode cL_law 485 = .ok (.iaload, 1) := by decide +kernel
theorem dL_law_486 : decode cL_law 486 = .ok (.invokevirtual 53, 3) := by decide +kernel
theorem dL_law_489 : decode cL_law 489 = .ok (.aload_n 2, 1) := by decide +kernel
theorem dL_law_490 : decode cL_law 490 = .ok (.aload_n 0, 1) := by decide +kernel
theorem dL_law_491 : decode cL_law 491 = .ok (.iload_n 3, 1) := by decide +kernel
theorem dL_law_492 : decode cL_law 492 = .ok (.iconst 1, 1) := by decide +kernel
theorem dL_law_493 : decode cL_law 493 = .ok (.iadd, 1) := by decide +kernel
theorem dL_law_494 : decode cL_law 494 = .ok (.iaload, 1) := by decide +kernel
theorem dL_law_495 : decode cL_law 495 = .ok (.aload_n 0, 1) := by decide +kernel
theorem dL_law_496 : decode cL_law 496 = .ok (.iload_n 3, 1) := by decide +kernel
theorem dL_law_497 : decode cL_law 497 = .ok (.iconst 2, 1) := by decide +kernel
theorem dL_law_498 : decode cL_law 498 = .ok (.iadd, 1) := by decide +kernel
theorem dL_law_499 : decode cL_law 499 = .ok (.iaload, 1) := by decide +kernel
theorem dL_law_500 : decode cL_law 500 = .ok (.invokevirtual 56, 3) := by decide +kernel
theorem dL_law_503 : decode cL_law 503 = .ok (.if_icmp .eq 295, 3) := by decide +kernel
theorem dL_law_506 : decode cL_law 506 = .ok (.iconst 0, 1) := by decide +kernel
theorem dL_law_507 : decode cL_law 507 = .ok (.ireturn, 1) := by decide +kernel
theorem dL_law_508 : decode cL_law 508 = .ok (.aload_n 1, 1) := by decide +kernel
theorem dL_law_509 : decode cL_law 509 = .ok (.aload_n 0, 1) := by decide +kernel
theorem dL_law_510 : decode cL_law 510 = .ok (.iload_n 3, 1) := by decide +kernel
theorem dL_law_511 : decode cL_law 511 = .ok (.iconst 1, 1) := by decide +kernel
theorem dL_law_512 : decode cL_law 512 = .ok (.iadd, 1) := by decide +kernel
theorem dL_law_513 : decode cL_law 513 = .ok (.iaload, 1) := by decide +kernel
theorem dL_law_514 : decode cL_law 514 = .ok (.aload_n 0, 1) := by decide +kernel
theorem dL_law_515 : decode cL_law 515 = .ok (.iload_n 3, 1) := by decide +kernel
theorem dL_law_516 : decode cL_law 516 = .ok (.iconst 2, 1) := by decide +kernel
theorem dL_law_517 : decode cL_law 517 = .ok (.iadd, 1) := by decide +kernel
theorem dL_law_518 : decode cL_law 518 = .ok (.iaload, 1) := by decide +kernel
theorem dL_law_519 : decode cL_law 519 = .ok (.invokevirtual 57, 3) := by decide +kernel
theorem dL_law_522 : decode cL_law 522 = .ok (.aload_n 2, 1) := by decide +kernel
theorem dL_law_523 : decode cL_law 523 = .ok (.aload_n 0, 1) := by decide +kernel
theorem dL_law_524 : decode cL_law 524 = .ok (.iload_n 3, 1) := by decide +kernel
theorem dL_law_525 : decode cL_law 525 = .ok (.iconst 1, 1) := by decide +kernel
theorem dL_law_526 : decode cL_law 526 = .ok (.iadd, 1) := by decide +kernel
theorem dL_law_527 : decode cL_law 527 = .ok (.iaload, 1) := by decide +kernel
theorem dL_law_528 : decode cL_law 528 = .ok (.aload_n 0, 1) := by decide +kernel
theorem dL_law_529 : decode cL_law 529 = .ok (.iload_n 3, 1) := by decide +kernel
theorem dL_law_530 : decode cL_law 530 = .ok (.iconst 2, 1) := by decide +kernel
theorem dL_law_531 : decode cL_law 531 = .ok (.iadd, 1) := by decide +kernel
theorem dL_law_532 : decode cL_law 532 = .ok (.iaload, 1) := by decide +kernel
theorem dL_law_533 : decode cL_law 533 = .ok (.invokevirtual 60, 3) := by decide +kernel
theorem dL_law_536 : decode cL_law 536 = .ok (.if_icmp .eq 262, 3) := by decide +kernel
theorem dL_law_539 : decode cL_law 539 = .ok (.iconst 0, 1) := by decide +kernel
theorem dL_law_540 : decode cL_law 540 = .ok (.ireturn, 1) := by decide +kernel
theorem dL_law_541 : decode cL_law 541 = .ok (.aload_n 1, 1) := by decide +kernel
theorem dL_law_542 : decode cL_law 542 = .ok (.aload_n 0, 1) := by decide +kernel
theorem dL_law_543 : decode cL_law 543 = .ok (.iload_n 3, 1) := by decide +kernel
theorem dL_law_544 : decode cL_law 544 = .ok (.iconst 1, 1) := by decide +kernel
theorem dL_law_545 : decode cL_law 545 = .ok (.iadd, 1) := by decide +kernel
theorem dL_law_546 : decode cL_law 546 = .ok (.iaload, 1) := by decide +kernel
theorem dL_law_547 : decode cL_law 547 = .ok (.invokevirtual 61, 3) := by decide +kernel
theorem dL_law_550 : decode cL_law 550 = .ok (.aload_n 2, 1) := by decide +kernel
theorem dL_law_551 : decode cL_law 551 = .ok (.aload_n 0, 1) := by decide +kernel
theorem dL_law_552 : decode cL_law 552 = .ok (.iload_n 3, 1) := by decide +kernel
theorem dL_law_553 : decode cL_law 553 = .ok (.iconst 1, 1) := by decide +kernel
theorem dL_law_554 : decode cL_law 554 = .ok (.iadd, 1) := by decide +kernel
theorem dL_law_555 : decode cL_law 555 = .ok (.iaload, 1) := by decide +kernel
theorem dL_law_556 : decode cL_law 556 = .ok (.invokevirtual 64, 3) := by decide +kernel
theorem dL_law_559 : decode cL_law 559 = .ok (.if_icmp .eq 239, 3) := by decide +kernel
theorem dL_law_562 : decode cL_law 562 = .ok (.iconst 0, 1) := by decide +kernel
theorem dL_law_563 : decode cL_law 563 = .ok (.ireturn, 1) := by decide +kernel
theorem dL_law_564 : decode cL_law 564 = .ok (.aload_n 1, 1) := by decide +kernel
theorem dL_law_565 : decode cL_law 565 = .ok (.aload_n 0, 1) := by decide +kernel
theorem dL_law_566 : decode cL_law 566 = .ok (.iload_n 3, 1) := by decide +kernel
theorem dL_law_567 : decode cL_law 567 = .ok (.iconst 1, 1) := by decide +kernel
theorem dL_law_568 : decode cL_law 568 = .ok (.iadd, 1) := by decide +kernel
theorem dL_law_569 : decode cL_law 569 = .ok (.iaload, 1) := by decide +kernel
theorem dL_law_570 : decode cL_law 570 = .ok (.aload_n 0, 1) := by decide +kernel
theorem dL_law_571 : decode cL_law 571 = .ok (.iload_n 3, 1) := by decide +kernel
theorem dL_law_572 : decode cL_law 572 = .ok (.iconst 2, 1) := by decide +kernel
theorem dL_law_573 : decode cL_law 573 = .ok (.iadd, 1) := by decide +kernel
theorem dL_law_574 : decode cL_law 574 = .ok (.iaload, 1) := by decide +kernel
theorem dL_law_575 : decode cL_law 575 = .ok (.invokevirtual 65, 3) := by decide +kernel
theorem dL_law_578 : decode cL_law 578 = .ok (.aload_n 2, 1) := by decide +kernel
theorem dL_law_579 : decode cL_law 579 = .ok (.aload_n 0, 1) := by decide +kernel
theorem dL_law_580 : decode cL_law 580 = .ok (.iload_n 3, 1) := by decide +kernel
theorem dL_law_581 : decode cL_law 581 = .ok (.iconst 1, 1) := by decide +kernel
theorem dL_law_582 : decode cL_law 582 = .ok (.iadd, 1) := by decide +kernel
theorem dL_law_583 : decode cL_law 583 = .ok (.iaload, 1) := by decide +kernel
theorem dL_law_584 : decode cL_law 584 = .ok (.aload_n 0, 1) := by decide +kernel
theorem dL_law_585 : decode cL_law 585 = .ok (.iload_n 3, 1) := by decide +kernel
theorem dL_law_586 : decode cL_law 586 = .ok (.iconst 2, 1) := by decide +kernel
theorem dL_law_587 : decode cL_law 587 = .ok (.iadd, 1) := by decide +kernel
theorem dL_law_588 : decode cL_law 588 = .ok (.iaload, 1) := by decide +kernel
theorem dL_law_589 : decode cL_law 589 = .ok (.invokevirtual 68, 3) := by decide +kernel
theorem dL_law_592 : decode cL_law 592 = .ok (.if_icmp .eq 206, 3) := by decide +kernel
theorem dL_law_595 : decode cL_law 595 = .ok (.iconst 0, 1) := by decide +kernel
theorem dL_law_596 : decode cL_law 596 = .ok (.ireturn, 1) := by decide +kernel
theorem dL_law_597 : decode cL_law 597 = .ok (.aload_n 1, 1) := by decide +kernel
theorem dL_law_598 : decode cL_law 598 = .ok (.aload_n 0, 1) := by decide +kernel
theorem dL_law_599 : decode cL_law 599 = .ok (.iload_n 3, 1) := by decide +kernel
theorem dL_law_600 : decode cL_law 600 = .ok (.iconst 1, 1) := by decide +kernel
theorem dL_law_601 : decode cL_law 601 = .ok (.iadd, 1) := by decide +kernel
theorem dL_law_602 : decode cL_law 602 = .ok (.iaload, 1) := by decide +kernel
theorem dL_law_603 : decode cL_law 603 = .ok (.aload_n 0, 1) := by decide +kernel
theorem dL_law_604 : decode cL_law 604 = .ok (.iload_n 3, 1) := by decide +kernel
theorem dL_law_605 : decode cL_law 605 = .ok (.iconst 2, 1) := by decide +kernel
theorem dL_law_606 : decode cL_law 606 = .ok (.iadd, 1) := by decide +kernel
theorem dL_law_607 : decode cL_law 607 = .ok (.iaload, 1) := by decide +kernel
theorem dL_law_608 : decode cL_law 608 = .ok (.aload_n 0, 1) := by decide +kernel
theorem dL_law_609 : decode cL_law 609 = .ok (.iload_n 3, 1) := by decide +kernel
theorem dL_law_610 : decode cL_law 610 = .ok (.iconst 3, 1) := by decide +kernel
theorem dL_law_611 : decode cL_law 611 = .ok (.iadd, 1) := by decide +kernel
theorem dL_law_612 : decode cL_law 612 = .ok (.iaload, 1) := by decide +kernel
theorem dL_law_613 : decode cL_law 613 = .ok (.invokevirtual 69, 3) := by decide +kernel
theorem dL_law_616 : decode cL_law 616 = .ok (.aload_n 2, 1) := by decide +kernel
theorem dL_law_617 : decode cL_law 617 = .ok (.aload_n 0, 1) := by decide +kernel
theorem dL_law_618 : decode cL_law 618 = .ok (.iload_n 3, 1) := by decide +kernel
theorem dL_law_619 : decode cL_law 619 = .ok (.iconst 1, 1) := by decide +kernel
theorem dL_law_620 : decode cL_law 620 = .ok (.iadd, 1) := by decide +kernel
theorem dL_law_621 : decode cL_law 621 = .ok (.iaload, 1) := by decide +kernel
theorem dL_law_622 : decode cL_law 622 = .ok (.aload_n 0, 1) := by decide +kernel
theorem dL_law_623 : decode cL_law 623 = .ok (.iload_n 3, 1) := by decide +kernel
theorem dL_law_624 : decode cL_law 624 = .ok (.iconst 2, 1) := by decide +kernel
theorem dL_law_625 : decode cL_law 625 = .ok (.iadd, 1) := by decide +kernel
theorem dL_law_626 : decode cL_law 626 = .ok (.iaload, 1) := by decide +kernel
theorem dL_law_627 : decode cL_law 627 = .ok (.aload_n 0, 1) := by decide +kernel
theorem dL_law_628 : decode cL_law 628 = .ok (.iload_n 3, 1) := by decide +kernel
theorem dL_law_629 : decode cL_law 629 = .ok (.iconst 3, 1) := by decide +kernel
theorem dL_law_630 : decode cL_law 630 = .ok (.iadd, 1) := by decide +kernel
theorem dL_law_631 : decode cL_law 631 = .ok (.iaload, 1) := by decide +kernel
theorem dL_law_632 : decode cL_law 632 = .ok (.invokevirtual 72, 3) := by decide +kernel
theorem dL_law_635 : decode cL_law 635 = .ok (.if_icmp .eq 163, 3) := by decide +kernel
theorem dL_law_638 : decode cL_law 638 = .ok (.iconst 0, 1) := by decide +kernel
theorem dL_law_639 : decode cL_law 639 = .ok (.ireturn, 1) := by decide +kernel
theorem dL_law_640 : decode cL_law 640 = .ok (.aload_n 1, 1) := by decide +kernel
theorem dL_law_641 : decode cL_law 641 = .ok (.aload_n 0, 1) := by decide +kernel
theorem dL_law_642 : decode cL_law 642 = .ok (.iload_n 3, 1) := by decide +kernel
theorem dL_law_643 : decode cL_law 643 = .ok (.iconst 1, 1) := by decide +kernel
theorem dL_law_644 : decode cL_law 644 = .ok (.iadd, 1) := by decide +kernel
theorem dL_law_645 : decode cL_law 645 = .ok (.iaload, 1) := by decide +kernel
theorem dL_law_646 : decode cL_law 646 = .ok (.invokevirtual 73, 3) := by decide +kernel
theorem dL_law_649 : decode cL_law 649 = .ok (.aload_n 2, 1) := by decide +kernel
theorem dL_law_650 : decode cL_law 650 = .ok (.aload_n 0, 1) := by decide +kernel
theorem dL_law_651 : decode cL_law 651 = .ok (.iload_n 3, 1) := by decide +kernel
theorem dL_law_652 : decode cL_law 652 = .ok (.iconst 1, 1) := by decide +kernel
theorem dL_law_653 : decode cL_law 653 = .ok (.iadd, 1) := by decide +kernel
theorem dL_law_654 : decode cL_law 654 = .ok (.iaload, 1) := by decide +kernel
theorem dL_law_655 : decode cL_law 655 = .ok (.invokevirtual 76, 3) := by decide +kernel
theorem dL_law_658 : decode cL_law 658 = .ok (.if_icmp .eq 140, 3) := by decide +kernel
theorem dL_law_661 : decode cL_law 661 = .ok (.iconst 0, 1) := by decide +kernel
theorem dL_law_662 : decode cL_law 662 = .ok (.ireturn, 1) := by decide +kernel
theorem dL_law_663 : decode cL_law 663 = .ok (.aload_n 1, 1) := by decide +kernel
theorem dL_law_664 : decode cL_law 664 = .ok (.aload_n 0, 1) := by decide +kernel
theorem dL_law_665 : decode cL_law 665 = .ok (.iload_n 3, 1) := by decide +kernel
theorem dL_law_666 : decode cL_law 666 = .ok (.iconst 1, 1) := by decide +kernel
theorem dL_law_667 : decode cL_law 667 = .ok (.iadd, 1) := by decide +kernel
theorem dL_law_668 : decode cL_law 668 = .ok (.iaload, 1) := by decide +kernel
theorem dL_law_669 : decode cL_law 669 = .ok (.invokevirtual 77, 3) := by decide +kernel
theorem dL_law_672 : decode cL_law 672 = .ok (.aload_n 2, 1) := by decide +kernel
theorem dL_law_673 : decode cL_law 673 = .ok (.aload_n 0, 1) := by decide +kernel
theorem dL_law_674 : decode cL_law 674 = .ok (.iload_n 3, 1) := by decide +kernel
theorem dL_law_675 : decode cL_law 675 = .ok (.iconst 1, 1) := by decide +kernel
theorem dL_law_676 : decode cL_law 676 = .ok (.iadd, 1) := by decide +kernel
theorem dL_law_677 : decode cL_law 677 = .ok (.iaload, 1) := by decide +kernel
theorem dL_law_678 : decode cL_law 678 = .ok (.invokevirtual 80, 3) := by decide +kernel
theorem dL_law_681 : decode cL_law 681 = .ok (.if_icmp .eq 117, 3) := by decide +kernel
theorem dL_law_684 : decode cL_law 684 = .ok (.iconst 0, 1) := by decide +kernel
theorem dL_law_685 : decode cL_law 685 = .ok (.ireturn, 1) := by decide +kernel
theorem dL_law_686 : decode cL_law 686 = .ok (.aload_n 1, 1) := by decide +kernel
theorem dL_law_687 : decode cL_law 687 = .ok (.aload_n 0, 1) := by decide +kernel
theorem dL_law_688 : decode cL_law 688 = .ok (.iload_n 3, 1) := by decide +kernel
theorem dL_law_689 : decode cL_law 689 = .ok (.iconst 1, 1) := by decide +kernel
theorem dL_law_690 : decode cL_law 690 = .ok (.iadd, 1) := by decide +kernel
theorem dL_law_691 : decode cL_law 691 = .ok (.iaload, 1) := by decide +kernel
theorem dL_law_692 : decode cL_law 692 = .ok (.aload_n 0, 1) := by decide +kernel
theorem dL_law_693 : decode cL_law 693 = .ok (.iload_n 3, 1) := by decide +kernel
theorem dL_law_694 : decode cL_law 694 = .ok (.iconst 2, 1) := by decide +kernel
theorem dL_law_695 : decode cL_law 695 = .ok (.iadd, 1) := by decide +kernel
theorem dL_law_696 : decode cL_law 696 = .ok (.iaload, 1) := by decide +kernel
theorem dL_law_697 : decode cL_law 697 = .ok (.invokevirtual 81, 3) := by decide +kernel
theorem dL_law_700 : decode cL_law 700 = .ok (.aload_n 2, 1) := by decide +kernel
theorem dL_law_701 : decode cL_law 701 = .ok (.aload_n 0, 1) := by decide +kernel
theorem dL_law_702 : decode cL_law 702 = .ok (.iload_n 3, 1) := by decide +kernel
theorem dL_law_703 : decode cL_law 703 = .ok (.iconst 1, 1) := by decide +kernel
theorem dL_law_704 : decode cL_law 704 = .ok (.iadd, 1) := by decide +kernel
theorem dL_law_705 : decode cL_law 705 = .ok (.iaload, 1) := by decide +kernel
theorem dL_law_706 : decode cL_law 706 = .ok (.aload_n 0, 1) := by decide +kernel
theorem dL_law_707 : decode cL_law 707 = .ok (.iload_n 3, 1) := by decide +kernel
theorem dL_law_708 : decode cL_law 708 = .ok (.iconst 2, 1) := by decide +kernel
theorem dL_law_709 : decode cL_law 709 = .ok (.iadd, 1) := by decide +kernel
theorem dL_law_710 : decode cL_law 710 = .ok (.iaload, 1) := by decide +kernel
theorem dL_law_711 : decode cL_law 711 = .ok (.invokevirtual 84, 3) := by decide +kernel
theorem dL_law_714 : decode cL_law 714 = .ok (.if_icmp .eq 84, 3) := by decide +kernel
theorem dL_law_717 : decode cL_law 717 = .ok (.iconst 0, 1) := by decide +kernel
theorem dL_law_718 : decode cL_law 718 = .ok (.ireturn, 1) := by decide +kernel
theorem dL_law_719 : decode cL_law 719 = .ok (.aload_n 1, 1) := by decide +kernel
theorem dL_law_720 : decode cL_law 720 = .ok (.aload_n 0, 1) := by decide +kernel
theorem dL_law_721 : decode cL_law 721 = .ok (.iload_n 3, 1) := by decide +kernel
theorem dL_law_722 : decode cL_law 722 = .ok (.iconst 1, 1) := by decide +kernel
theorem dL_law_723 : decode cL_law 723 = .ok (.iadd, 1) := by decide +kernel
theorem dL_law_724 : decode cL_law 724 = .ok (.iaload, 1) := by decide +kernel
theorem dL_law_725 : decode cL_law 725 = .ok (.aload_n 0, 1) := by decide +kernel
theorem dL_law_726 : decode cL_law 726 = .ok (.iload_n 3, 1) := by decide +kernel
theorem dL_law_727 : decode cL_law 727 = .ok (.iconst 2, 1) := by decide +kernel
theorem dL_law_728 : decode cL_law 728 = .ok (.iadd, 1) := by decide +kernel
theorem dL_law_729 : decode cL_law 729 = .ok (.iaload, 1) := by decide +kernel
theorem dL_law_730 : decode cL_law 730 = .ok (.invokevirtual 85, 3) := by decide +kernel
theorem dL_law_733 : decode cL_law 733 = .ok (.aload_n 2, 1) := by decide +kernel
theorem dL_law_734 : decode cL_law 734 = .ok (.aload_n 0, 1) := by decide +kernel
theorem dL_law_735 : decode cL_law 735 = .ok (.iload_n 3, 1) := by decide +kernel
theorem dL_law_736 : decode cL_law 736 = .ok (.iconst 1, 1) := by decide +kernel
theorem dL_law_737 : decode cL_law 737 = .ok (.iadd, 1) := by decide +kernel
theorem dL_law_738 : decode cL_law 738 = .ok (.iaload, 1) := by decide +kernel
theorem dL_law_739 : decode cL_law 739 = .ok (.aload_n 0, 1) := by decide +kernel
theorem dL_law_740 : decode cL_law 740 = .ok (.iload_n 3, 1) := by decide +kernel
theorem dL_law_741 : decode cL_law 741 = .ok (.iconst 2, 1) := by decide +kernel
theorem dL_law_742 : decode cL_law 742 = .ok (.iadd, 1) := by decide +kernel
theorem dL_law_743 : decode cL_law 743 = .ok (.iaload, 1) := by decide +kernel
theorem dL_law_744 : decode cL_law 744 = .ok (.invokevirtual 88, 3) := by decide +kernel
theorem dL_law_747 : decode cL_law 747 = .ok (.if_icmp .eq 51, 3) := by decide +kernel
theorem dL_law_750 : decode cL_law 750 = .ok (.iconst 0, 1) := by decide +kernel
theorem dL_law_751 : decode cL_law 751 = .ok (.ireturn, 1) := by decide +kernel
theorem dL_law_752 : decode cL_law 752 = .ok (.aload_n 1, 1) := by decide +kernel
theorem dL_law_753 : decode cL_law 753 = .ok (.aload_n 0, 1) := by decide +kernel
theorem dL_law_754 : decode cL_law 754 = .ok (.iload_n 3, 1) := by decide +kernel
theorem dL_law_755 : decode cL_law 755 = .ok (.iconst 1, 1) := by decide +kernel
theorem dL_law_756 : decode cL_law 756 = .ok (.iadd, 1) := by decide +kernel
theorem dL_law_757 : decode cL_law 757 = .ok (.iaload, 1) := by decide +kernel
theorem dL_law_758 : decode cL_law 758 = .ok (.invokevirtual 89, 3) := by decide +kernel
theorem dL_law_761 : decode cL_law 761 = .ok (.aload_n 2, 1) := by decide +kernel
theorem dL_law_762 : decode cL_law 762 = .ok (.aload_n 0, 1) := by decide +kernel
theorem dL_law_763 : decode cL_law 763 = .ok (.iload_n 3, 1) := by decide +kernel
theorem dL_law_764 : decode cL_law 764 = .ok (.iconst 1, 1) := by decide +kernel
theorem dL_law_765 : decode cL_law 765 = .ok (.iadd, 1) := by decide +kernel
theorem dL_law_766 : decode cL_law 766 = .ok (.iaload, 1) := by decide +kernel
theorem dL_law_767 : decode cL_law 767 = .ok (.invokevirtual 92, 3) := by decide +kernel
theorem dL_law_770 : decode cL_law 770 = .ok (.if_icmp .eq 28, 3) := by decide +kernel
theorem dL_law_773 : decode cL_law 773 = .ok (.iconst 0, 1) := by decide +kernel
theorem dL_law_774 : decode cL_law 774 = .ok (.ireturn, 1) := by decide +kernel
theorem dL_law_775 : decode cL_law 775 = .ok (.aload_n 1, 1) := by decide +kernel
theorem dL_law_776 : decode cL_law 776 = .ok (.aload_n 0, 1) := by decide +kernel
theorem dL_law_777 : decode cL_law 777 = .ok (.iload_n 3, 1) := by decide +kernel
theorem dL_law_778 : decode cL_law 778 = .ok (.iconst 1, 1) := by decide +kernel
theorem dL_law_779 : decode cL_law 779 = .ok (.iadd, 1) := by decide +kernel
theorem dL_law_780 : decode cL_law 780 = .ok (.iaload, 1) := by decide +kernel
theorem dL_law_781 : decode cL_law 781 = .ok (.invokevirtual 93, 3) := by decide +kernel
theorem dL_law_784 : decode cL_law 784 = .ok (.aload_n 2, 1) := by decide +kernel
theorem dL_law_785 : decode cL_law 785 = .ok (.aload_n 0, 1) := by decide +kernel
theorem dL_law_786 : decode cL_law 786 = .ok (.iload_n 3, 1) := by decide +kernel
theorem dL_law_787 : decode cL_law 787 = .ok (.iconst 1, 1) := by decide +kernel
theorem dL_law_788 : decode cL_law 788 = .ok (.iadd, 1) := by decide +kernel
theorem dL_law_789 : decode cL_law 789 = .ok (.iaload, 1) := by decide +kernel
theorem dL_law_790 : decode cL_law 790 = .ok (.invokevirtual 96, 3) := by decide +kernel
theorem dL_law_793 : decode cL_law 793 = .ok (.if_icmp .eq 5, 3) := by decide +kernel
theorem dL_law_796 : decode cL_law 796 = .ok (.iconst 0, 1) := by decide +kernel
theorem dL_law_797 : decode cL_law 797 = .ok (.ireturn, 1) := by decide +kernel
theorem dL_law_798 : decode cL_law 798 = .ok (.iinc 3 5, 3) := by decide +kernel
theorem dL_law_801 : decode cL_law 801 = .ok (.goto (-783), 3) := by decide +kernel
theorem dL_law_804 : decode cL_law 804 = .ok (.iconst 1, 1) := by decide +kernel
theorem dL_law_805 : decode cL_law 805 = .ok (.ireturn, 1) := by decide +kernel
end
section
/-! ===== THE WORLD BY LOGICAL NUMBERS =====
A world is a shape (what stands under each number: class or kind of array, with its length; which number each reference names; the address of each number)
and the whole numbers in it: N i k is field k of the object i, or element k of the array i.
Kinds: 0 .. 8 an object of the class of that number (CL); 9 int[], 10 byte[], 11 boolean[], 12 Object[]; above: nothing. -/
abbrev WSh : Type := (Nat → Nat × Nat) × (Nat → Nat → Option Nat) × (Nat → Nat)
abbrev WNm : Type := Nat → Nat → Int32
/-- the machine's numbers: classes and slots, array classes, the first own address, what is said of the outside -/
abbrev WGp : Type := va_G × (Nat → ClassId) × Nat × (State → Heap → Prop)
abbrev WGp.D (g : WGp) : va_G := g.1
abbrev WGp.tc (g : WGp) : Nat → ClassId := g.2.1
abbrev WGp.z (g : WGp) : Nat := g.2.2.1
abbrev WGp.X (g : WGp) : State → Heap → Prop := g.2.2.2
abbrev WGp.A (g : WGp) : Nat → Prop := fun q => g.2.2.1 ≤ q
def u2 {α : Type} (f : Nat → Nat → α) (i k : Nat) (v : α) : Nat → Nat → α := fun a b => if a = i ∧ b = k then v else f a b
theorem u2_eq {α : Type} (f : Nat → Nat → α) (i k : Nat) (v : α) : u2 f i k v i k = v := by simp [u2]
theorem u2_ne {α : Type} {f : Nat → Nat → α} {i k a b : Nat} {v : α} (h : ¬ (a = i ∧ b = k)) : u2 f i k v a b = f a b := by simp [u2, h]
theorem u2_row {α : Type} {f : Nat → Nat → α} {i k a : Nat} {v : α} (h : ¬ a = i) : u2 f i k v a = f a := by funext b; simp [u2, h]
def WV (sh : WSh) (N : WNm) (i : Nat) : Nat → Value := fun k => if isI (sh.1 i).1 k = true then .int (N i k) else va_rf ((sh.2.1 i k).map sh.2.2)
def WC (g : WGp) (sh : WSh) (N : WNm) (H : Heap) (i : Nat) : Prop :=
  ((sh.1 i).1 < 9 → t_OB (sh.2.2 i) (g.D.1 (sh.1 i).1) (nF (sh.1 i).1) (g.D.2 (sh.1 i).1) H (WV sh N i)) ∧
  ((sh.1 i).1 = 9 → H[sh.2.2 i]? = some (arrV (g.tc 0) (sh.1 i).2 (fun j => .int (N i j)))) ∧
  ((sh.1 i).1 = 10 → H[sh.2.2 i]? = some (arrV (g.tc 1) (sh.1 i).2 (fun j => .int (N i j)))) ∧
  ((sh.1 i).1 = 11 → H[sh.2.2 i]? = some (arrV (g.tc 2) (sh.1 i).2 (fun j => .int (N i j)))) ∧
  ((sh.1 i).1 = 12 → H[sh.2.2 i]? = some (arrV (g.tc 3) (sh.1 i).2 (fun j => va_rf ((sh.2.1 i j).map sh.2.2))))
def PIC (g : WGp) (sh : WSh) (N : WNm) (H : Heap) : Prop :=
  (∀ i, WC g sh N H i) ∧ (∀ i j, (sh.1 i).1 ≤ 12 → (sh.1 j).1 ≤ 12 → sh.2.2 i = sh.2.2 j → i = j) ∧ ∀ i, (sh.1 i).1 ≤ 12 → g.z ≤ sh.2.2 i ∧ sh.2.2 i < H.size
abbrev TYS (tc : Nat → ClassId) : List (ClassId × FieldType) := [(tc 0, .int), (tc 1, .byte), (tc 2, .boolean), (tc 3, .object "java/lang/Object")]
def KX (g : WGp) (U : State) : Prop := va_K g.D CL (TYS g.tc) U ∧ g.X U U.heap ∧ g.z ≤ U.heap.size
/-- what is said of the outside stays true while nothing of it is written -/
def GOK (g : WGp) : Prop := ∀ (s U : State) (H H1 : Heap), s.WarmedH U.vm → H.size ≤ H1.size → (∀ q : Nat, q < H.size → ¬ g.z ≤ q → H1[q]? = H[q]?) → g.X s H → g.X U H1
theorem WC.kept {g : WGp} {sh sh' : WSh} {N N' : WNm} {H H1 : Heap} {i : Nat} (h : WC g sh N H i) (h1 : sh'.1 i = sh.1 i) (h2 : sh'.2.1 i = sh.2.1 i) (h3 : sh'.2.2 = sh.2.2) (hN : N' i = N i) (hq : (sh.1 i).1 ≤ 12 → H1[sh.2.2 i]? = H[sh.2.2 i]?) : WC g sh' N' H1 i := by
  have hV : WV sh' N' i = WV sh N i := by funext k; simp only [WV, h1, h2, h3, hN]
  unfold WC at h ⊢
  rw [h1, h3, h2, hN, hV]
  refine ⟨fun t => (h.1 t).kept (hq (by omega)), fun t => ?_, fun t => ?_, fun t => ?_, fun t => ?_⟩
  · rw [hq (by omega)]; exact h.2.1 t
  · rw [hq (by omega)]; exact h.2.2.1 t
  · rw [hq (by omega)]; exact h.2.2.2.1 t
  · rw [hq (by omega)]; exact h.2.2.2.2 t
/-- one cell is written -/
theorem PIC.put {g : WGp} {sh sh' : WSh} {N N' : WNm} {H H1 : Heap} {i : Nat} (h : PIC g sh N H) (ht : (sh.1 i).1 ≤ 12) (h1 : sh'.1 = sh.1) (h3 : sh'.2.2 = sh.2.2) (h2 : ∀ a, a ≠ i → sh'.2.1 a = sh.2.1 a) (hN : ∀ a, a ≠ i → N' a = N a)
    (hz : H1.size = H.size) (oq : ∀ q : Nat, q ≠ sh.2.2 i → H1[q]? = H[q]?) (hc : WC g sh' N' H1 i) : PIC g sh' N' H1 := by
  refine ⟨fun a => ?_, ?_, ?_⟩
  · by_cases ha : a = i
    · subst ha; exact hc
    · exact (h.1 a).kept (by rw [h1]) (h2 a ha) h3 (hN a ha) (fun t => oq _ (fun e => ha (h.2.1 a i t ht e)))
  · rw [h1, h3]; exact h.2.1
  · rw [h1, h3, hz]; exact h.2.2
/-- one cell is made: at the free number i -/
theorem PIC.new {g : WGp} {sh sh' : WSh} {N N' : WNm} {H H1 : Heap} {i : Nat} (h : PIC g sh N H) (hf : 12 < (sh.1 i).1) (h1 : ∀ a, a ≠ i → sh'.1 a = sh.1 a) (h3 : ∀ a, a ≠ i → sh'.2.2 a = sh.2.2 a) (h2 : ∀ a, a ≠ i → sh'.2.1 a = sh.2.1 a) (hN : ∀ a, a ≠ i → N' a = N a)
    (hr : ∀ a k j, a ≠ i → sh.2.1 a k = some j → j ≠ i) (hi : sh'.2.2 i = H.size) (hg : g.z ≤ H.size) (hz : H1.size = H.size + 1) (oq : ∀ q : Nat, q < H.size → H1[q]? = H[q]?) (hc : WC g sh' N' H1 i) : PIC g sh' N' H1 := by
  have hm : ∀ a k, a ≠ i → (sh'.2.1 a k).map sh'.2.2 = (sh.2.1 a k).map sh.2.2 := by
    intro a k ha
    rw [h2 a ha]
    cases hc : sh.2.1 a k with
    | none => rfl
    | some j => simp only [Option.map_some]; rw [h3 j (hr a k j ha hc)]
  refine ⟨fun a => ?_, ?_, ?_⟩
  · by_cases ha : a = i
    · subst ha; exact hc
    · have h0 := h.1 a
      have hV : WV sh' N' a = WV sh N a := by funext k; simp only [WV, h1 a ha, hm a k ha, hN a ha]
      have hA : (fun j => va_rf ((sh'.2.1 a j).map sh'.2.2)) = (fun j => va_rf ((sh.2.1 a j).map sh.2.2)) := by funext k; rw [hm a k ha]
      have hq : (sh.1 a).1 ≤ 12 → H1[sh.2.2 a]? = H[sh.2.2 a]? := fun t => oq _ (h.2.2 a t).2
      unfold WC at h0 ⊢
      rw [h1 a ha, h3 a ha, hN a ha, hV, hA]
      refine ⟨fun t => (h0.1 t).kept (hq (by omega)), fun t => ?_, fun t => ?_, fun t => ?_, fun t => ?_⟩
      · rw [hq (by omega)]; exact h0.2.1 t
      · rw [hq (by omega)]; exact h0.2.2.1 t
      · rw [hq (by omega)]; exact h0.2.2.2.1 t
      · rw [hq (by omega)]; exact h0.2.2.2.2 t
  · intro a b ta tb e
    by_cases ha : a = i <;> by_cases hb : b = i
    · rw [ha, hb]
    · subst ha; rw [hi, h3 b hb] at e; rw [h1 b hb] at tb; have := (h.2.2 b tb).2; omega
    · subst hb; rw [hi, h3 a ha] at e; rw [h1 a ha] at ta; have := (h.2.2 a ta).2; omega
    · rw [h3 a ha, h3 b hb] at e; rw [h1 a ha] at ta; rw [h1 b hb] at tb; exact h.2.1 a b ta tb e
  · intro a ta
    by_cases ha : a = i
    · subst ha; rw [hi]; omega
    · rw [h3 a ha]; rw [h1 a ha] at ta; have := h.2.2 a ta; omega
theorem KX.moved {g : WGp} (hg : GOK g) {s U : State} {H : Heap} {locs : List Loc} (hW : s.WarmedH U.vm) (hU : U.heap = H) (hS : va_S g.A s.heap H locs) (h : KX g s) : KX g U :=
  ⟨va_K.moved hW.alike h.1, hg s U s.heap U.heap hW (by rw [hU]; exact hS.1) (fun q h1 h2 => by rw [hU]; exact hS.2.1 q h1 h2) h.2.1, by rw [hU]; exact Nat.le_trans h.2.2 hS.1⟩
/-! locals, by their places -/
def LV (ls : Array Slot) (nL : Nat) (lv : List (Option Value)) : Prop := ls.size = nL ∧ lv_wf ls ∧ ∀ (k : Nat) (v : Value), lv[k]? = some (some v) → ls[k]? = some (.val v)
theorem LV.at {ls : Array Slot} {nL : Nat} {lv : List (Option Value)} (h : LV ls nL lv) {k : Nat} {v : Value} (hk : lv[k]? = some (some v)) : ls[k]? = some (.val v) := h.2.2 k v hk
/-- the listed values, for the kit's rows -/
def lvL (lv : List (Option Value)) : List (Nat × Value) := (List.range lv.length).filterMap fun k => match lv[k]? with
  | some (some v) => some (k, v)
  | _ => none
theorem lvL_mem {lv : List (Option Value)} {k : Nat} {v : Value} : (k, v) ∈ lvL lv ↔ lv[k]? = some (some v) := by
  unfold lvL
  rw [List.mem_filterMap]
  constructor
  · rintro ⟨a, -, h⟩
    split at h
    · next w hw => cases h; exact hw
    · cases h
  · intro h
    refine ⟨k, List.mem_range.mpr (List.getElem?_eq_some_iff.mp h).1, ?_⟩
    rw [h]
theorem LV.has {ls : Array Slot} {nL : Nat} {lv : List (Option Value)} (h : LV ls nL lv) : lv_has ls nL (lvL lv) := ⟨h.1, h.2.1, fun q hq => h.2.2 q.1 q.2 (lvL_mem.mp hq)⟩
/-- no long, and no double, stands just ahead of a place -/
def lvok (lv : List (Option Value)) (i : Nat) : Bool := match i with
  | 0 => true
  | k + 1 => match lv[k]? with
    | some (some v) => v.category != 2
    | _ => true
theorem LV.set1 {ls' : Array Slot} {nL i : Nat} {lv : List (Option Value)} {v : Value} (hok : lvok lv i = true) (h : lv_has ls' nL ((i, v) :: (lvL lv).filter (fun q => !(q.1 == i) && !(q.1 + 1 == i && q.2.category == 2)))) : LV ls' nL (lv.set i (some v)) := by
  refine ⟨h.1, h.2.1, fun k w hk => ?_⟩
  by_cases hki : i = k
  · subst hki
    rw [List.getElem?_set] at hk
    rw [if_pos rfl] at hk
    split at hk
    · cases hk
      exact h.2.2 _ List.mem_cons_self
    · cases hk
  · rw [List.getElem?_set_ne hki] at hk
    refine h.2.2 (k, w) (List.mem_cons_of_mem _ (List.mem_filter.mpr ⟨lvL_mem.mpr hk, ?_⟩))
    have e1 : (k == i) = false := by simp; exact fun e => hki e.symm
    by_cases hk1 : k + 1 = i
    · subst hk1
      have hc : (w.category != 2) = true := by simpa [lvok, hk] using hok
      have hc' : (w.category == 2) = false := by simpa using hc
      simp [hc']
    · have e2 : (k + 1 == i) = false := by simpa using hk1
      simp [e1, e2]
theorem LV.set2 {ls' : Array Slot} {nL i : Nat} {lv : List (Option Value)} {v : Value} (hok : lvok lv i = true) (h : lv_has ls' nL ((i, v) :: (lvL lv).filter (fun q => !(q.1 == i) && (!(q.1 == i + 1) && !(q.1 + 1 == i && q.2.category == 2))))) : LV ls' nL ((lv.set i (some v)).set (i + 1) none) := by
  refine ⟨h.1, h.2.1, fun k w hk => ?_⟩
  by_cases hk2 : i + 1 = k
  · subst hk2
    rw [List.getElem?_set] at hk
    rw [if_pos rfl] at hk
    split at hk
    · cases hk
    · cases hk
  · rw [List.getElem?_set_ne hk2] at hk
    by_cases hki : i = k
    · subst hki
      rw [List.getElem?_set] at hk
      rw [if_pos rfl] at hk
      split at hk
      · cases hk
        exact h.2.2 _ List.mem_cons_self
      · cases hk
    · rw [List.getElem?_set_ne hki] at hk
      refine h.2.2 (k, w) (List.mem_cons_of_mem _ (List.mem_filter.mpr ⟨lvL_mem.mpr hk, ?_⟩))
      have e1 : (k == i) = false := by simp; exact fun e => hki e.symm
      have e3 : (k == i + 1) = false := by simp; exact fun e => hk2 e.symm
      by_cases hk1 : k + 1 = i
      · subst hk1
        have hc : (w.category != 2) = true := by simpa [lvok, hk] using hok
        have hc' : (w.category == 2) = false := by simpa using hc
        simp [hc']
        omega
      · have e2 : (k + 1 == i) = false := by simpa using hk1
        simp [e1, e2, e3]
/-- where a method stands: in any heap that holds the world, the machine comes to Q -/
def J (p : Program) (l : Launch) (e : Env) (R : Room) (s : State) (m : MethodId) (args : Array Value) (below : List Frame) (meth : Method) (c : Code) (Q : State → Prop) (g : WGp) (nL : Nat) (sh : WSh) (N : WNm) (cells slots pc : Nat) (lv : List (Option Value)) (st : List Value) : Prop :=
  ∀ (H : Heap) (locs : List Loc) (ls : Array Slot), PIC g sh N H → va_S g.A s.heap H locs → LV ls nL lv → W p l e R s m args below meth c H locs cells slots Q (F0 m pc ls st)
/-- what holds all through a method's body -/
def Cx (p : Program) (s : State) (m : MethodId) (args : Array Value) (meth : Method) (c : Code) (g : WGp) (nL : Nat) (own : String) (cc : ByteArray) (ret : Option FieldType) : Prop :=
  p.tables.exec = Jvm.exec ∧ c.code = cc ∧ c.maxLocals = nL ∧ s.vm.findClass own = some m.cls ∧ (∀ w ∈ TBL, w.before args s = true) ∧ KX g s ∧ GOK g ∧ meth.sig.returnType = ret ∧ meth.locks = false
section Rows
variable {p : Program} {l : Launch} {e : Env} {R : Room} {s : State} {m : MethodId} {args : Array Value} {below : List Frame} {meth : Method} {c : Code} {Q : State → Prop} {g : WGp} {nL : Nat} {own : String} {cc : ByteArray} {ret : Option FieldType}
variable {sh : WSh} {N : WNm} {cells slots pc : Nat} {lv : List (Option Value)} {st : List Value}
theorem J.widen {k n : Nat} (h1 : cells ≤ k) (h2 : slots ≤ n) (kk : J p l e R s m args below meth c Q g nL sh N k n pc lv st) : J p l e R s m args below meth c Q g nL sh N cells slots pc lv st := fun H locs ls a b d => W.widen h1 h2 (kk H locs ls a b d)
theorem J.sub {lv' : List (Option Value)} (h : ∀ (k : Nat) (v : Value), lv'[k]? = some (some v) → lv[k]? = some (some v)) (kk : J p l e R s m args below meth c Q g nL sh N cells slots pc lv' st) : J p l e R s m args below meth c Q g nL sh N cells slots pc lv st := fun H locs ls a b d => kk H locs ls a b ⟨d.1, d.2.1, fun k v hk => d.2.2 k v (h k v hk)⟩
end Rows
end
section
section Rows
variable {p : Program} {l : Launch} {e : Env} {R : Room} {s : State} {m : MethodId} {args : Array Value} {below : List Frame} {meth : Method} {c : Code} {Q : State → Prop} {g : WGp} {nL : Nat} {own : String} {cc : ByteArray} {ret : Option FieldType}
variable {sh : WSh} {N : WNm} {cells slots pc : Nat} {lv : List (Option Value)} {st : List Value}
theorem j_iconst (C : Cx p s m args meth c g nL own cc ret) {n : Int} {v : Int32} (hd : decode cc pc = .ok (.iconst n, 1)) (hv : Int32.ofInt n = v) (kk : J p l e R s m args below meth c Q g nL sh N cells slots (pc + 1) lv (.int v :: st)) : J p l e R s m args below meth c Q g nL sh N cells slots pc lv (st) := fun H locs ls a b d => lv_iconst C.1 C.2.1  hd hv (kk H locs ls a b d)
theorem j_bipush (C : Cx p s m args meth c g nL own cc ret) {n : Int} {v : Int32} (hd : decode cc pc = .ok (.bipush n, 2)) (hv : (Int8.ofInt n).toInt32 = v) (kk : J p l e R s m args below meth c Q g nL sh N cells slots (pc + 2) lv (.int v :: st)) : J p l e R s m args below meth c Q g nL sh N cells slots pc lv (st) := fun H locs ls a b d => lv_bipush C.1 C.2.1  hd hv (kk H locs ls a b d)
theorem j_sipush (C : Cx p s m args meth c g nL own cc ret) {n : Int} {v : Int32} (hd : decode cc pc = .ok (.sipush n, 3)) (hv : (Int16.ofInt n).toInt32 = v) (kk : J p l e R s m args below meth c Q g nL sh N cells slots (pc + 3) lv (.int v :: st)) : J p l e R s m args below meth c Q g nL sh N cells slots pc lv (st) := fun H locs ls a b d => lv_sipush C.1 C.2.1  hd hv (kk H locs ls a b d)
theorem j_lconst (C : Cx p s m args meth c g nL own cc ret) {n : Fin 2} {v : Int64} (hd : decode cc pc = .ok (.lconst n, 1)) (hv : Int64.ofNat (n : Nat) = v) (kk : J p l e R s m args below meth c Q g nL sh N cells slots (pc + 1) lv (.long v :: st)) : J p l e R s m args below meth c Q g nL sh N cells slots pc lv (st) := fun H locs ls a b d => lv_lconst C.1 C.2.1  hd hv (kk H locs ls a b d)
theorem j_anull (C : Cx p s m args meth c g nL own cc ret)  (hd : decode cc pc = .ok (.aconst_null, 1))  (kk : J p l e R s m args below meth c Q g nL sh N cells slots (pc + 1) lv (.null :: st)) : J p l e R s m args below meth c Q g nL sh N cells slots pc lv (st) := fun H locs ls a b d => lv_null C.1 C.2.1  hd  (kk H locs ls a b d)
theorem j_ldc (C : Cx p s m args meth c g nL own cc ret) {i : Nat} {v : Int32} (hw : Cond.constant own i v ∈ TBL) (hd : decode cc pc = .ok (.ldc i, 2)) (kk : J p l e R s m args below meth c Q g nL sh N cells slots (pc + 2) lv (.int v :: st)) : J p l e R s m args below meth c Q g nL sh N cells slots pc lv st := fun H locs ls a b d => lv_ldc C.1 C.2.1 C.2.2.2.1 (C.2.2.2.2.1 _ hw) hd (kk H locs ls a b d)
theorem j_ldc2 (C : Cx p s m args meth c g nL own cc ret) {i : Nat} {v : Int64} (hw : Cond.constantLong own i v ∈ TBL) (hd : decode cc pc = .ok (.ldc2_w i, 3)) (kk : J p l e R s m args below meth c Q g nL sh N cells slots (pc + 3) lv (.long v :: st)) : J p l e R s m args below meth c Q g nL sh N cells slots pc lv st := fun H locs ls a b d => lv_ldc2 C.1 C.2.1 C.2.2.2.1 (C.2.2.2.2.1 _ hw) hd (kk H locs ls a b d)
theorem j_iload_n (C : Cx p s m args meth c g nL own cc ret) {k : Fin 4} {x : Int32} (hd : decode cc pc = .ok (.iload_n k, 1)) (hk : lv[(k : Nat)]? = some (some (.int x))) (kk : J p l e R s m args below meth c Q g nL sh N cells slots (pc + 1) lv (.int x :: st)) : J p l e R s m args below meth c Q g nL sh N cells slots pc lv st := fun H locs ls a b d => lv_iload_n C.1 C.2.1 hd rfl (d.at hk) (kk H locs ls a b d)
theorem j_iload (C : Cx p s m args meth c g nL own cc ret) {k : Nat} {x : Int32} (hd : decode cc pc = .ok (.iload k, 2)) (hk : lv[k]? = some (some (.int x))) (kk : J p l e R s m args below meth c Q g nL sh N cells slots (pc + 2) lv (.int x :: st)) : J p l e R s m args below meth c Q g nL sh N cells slots pc lv st := fun H locs ls a b d => lv_iload C.1 C.2.1 hd (d.at hk) (kk H locs ls a b d)
theorem j_lload_n (C : Cx p s m args meth c g nL own cc ret) {k : Fin 4} {x : Int64} (hd : decode cc pc = .ok (.lload_n k, 1)) (hk : lv[(k : Nat)]? = some (some (.long x))) (kk : J p l e R s m args below meth c Q g nL sh N cells slots (pc + 1) lv (.long x :: st)) : J p l e R s m args below meth c Q g nL sh N cells slots pc lv st := fun H locs ls a b d => lv_lload_n C.1 C.2.1 hd rfl (d.at hk) (kk H locs ls a b d)
theorem j_lload (C : Cx p s m args meth c g nL own cc ret) {k : Nat} {x : Int64} (hd : decode cc pc = .ok (.lload k, 2)) (hk : lv[k]? = some (some (.long x))) (kk : J p l e R s m args below meth c Q g nL sh N cells slots (pc + 2) lv (.long x :: st)) : J p l e R s m args below meth c Q g nL sh N cells slots pc lv st := fun H locs ls a b d => lv_lload C.1 C.2.1 hd (d.at hk) (kk H locs ls a b d)
theorem j_aload_n (C : Cx p s m args meth c g nL own cc ret) {k : Fin 4} {x : Nat} (hd : decode cc pc = .ok (.aload_n k, 1)) (hk : lv[(k : Nat)]? = some (some (.ref x))) (kk : J p l e R s m args below meth c Q g nL sh N cells slots (pc + 1) lv (.ref x :: st)) : J p l e R s m args below meth c Q g nL sh N cells slots pc lv st := fun H locs ls a b d => lv_aload_n C.1 C.2.1 hd rfl (d.at hk) (kk H locs ls a b d)
theorem j_aload (C : Cx p s m args meth c g nL own cc ret) {k : Nat} {x : Nat} (hd : decode cc pc = .ok (.aload k, 2)) (hk : lv[k]? = some (some (.ref x))) (kk : J p l e R s m args below meth c Q g nL sh N cells slots (pc + 2) lv (.ref x :: st)) : J p l e R s m args below meth c Q g nL sh N cells slots pc lv st := fun H locs ls a b d => lv_aload C.1 C.2.1 hd (d.at hk) (kk H locs ls a b d)
theorem j_aload_nN (C : Cx p s m args meth c g nL own cc ret) {k : Fin 4} (hd : decode cc pc = .ok (.aload_n k, 1)) (hk : lv[(k : Nat)]? = some (some (.null))) (kk : J p l e R s m args below meth c Q g nL sh N cells slots (pc + 1) lv (.null :: st)) : J p l e R s m args below meth c Q g nL sh N cells slots pc lv st := fun H locs ls a b d => lv_aload_nN C.1 C.2.1 hd rfl (d.at hk) (kk H locs ls a b d)
theorem j_aloadN (C : Cx p s m args meth c g nL own cc ret) {k : Nat} (hd : decode cc pc = .ok (.aload k, 2)) (hk : lv[k]? = some (some (.null))) (kk : J p l e R s m args below meth c Q g nL sh N cells slots (pc + 2) lv (.null :: st)) : J p l e R s m args below meth c Q g nL sh N cells slots pc lv st := fun H locs ls a b d => lv_aloadN C.1 C.2.1 hd (d.at hk) (kk H locs ls a b d)
theorem j_istore_n (C : Cx p s m args meth c g nL own cc ret) {k : Fin 4} {x : Int32} (hd : decode cc pc = .ok (.istore_n k, 1)) (hn : (k : Nat) < nL) (hok : lvok lv (k : Nat) = true) (kk : J p l e R s m args below meth c Q g nL sh N cells slots (pc + 1) (lv.set (k : Nat) (some (.int x))) st) : J p l e R s m args below meth c Q g nL sh N cells slots pc lv (.int x :: st) := fun H locs ls a b d => lv_istore_n C.1 C.2.1 hd rfl d.has hn rfl (fun ls' hl' => kk H locs ls' a b (LV.set1 hok hl'))
theorem j_istore (C : Cx p s m args meth c g nL own cc ret) {k : Nat} {x : Int32} (hd : decode cc pc = .ok (.istore k, 2)) (hn : k < nL) (hok : lvok lv k = true) (kk : J p l e R s m args below meth c Q g nL sh N cells slots (pc + 2) (lv.set k (some (.int x))) st) : J p l e R s m args below meth c Q g nL sh N cells slots pc lv (.int x :: st) := fun H locs ls a b d => lv_istore C.1 C.2.1 hd d.has hn rfl (fun ls' hl' => kk H locs ls' a b (LV.set1 hok hl'))
theorem j_astore_n (C : Cx p s m args meth c g nL own cc ret) {k : Fin 4} {x : Nat} (hd : decode cc pc = .ok (.astore_n k, 1)) (hn : (k : Nat) < nL) (hok : lvok lv (k : Nat) = true) (kk : J p l e R s m args below meth c Q g nL sh N cells slots (pc + 1) (lv.set (k : Nat) (some (.ref x))) st) : J p l e R s m args below meth c Q g nL sh N cells slots pc lv (.ref x :: st) := fun H locs ls a b d => lv_astore_n C.1 C.2.1 hd rfl d.has hn rfl (fun ls' hl' => kk H locs ls' a b (LV.set1 hok hl'))
theorem j_astore (C : Cx p s m args meth c g nL own cc ret) {k : Nat} {x : Nat} (hd : decode cc pc = .ok (.astore k, 2)) (hn : k < nL) (hok : lvok lv k = true) (kk : J p l e R s m args below meth c Q g nL sh N cells slots (pc + 2) (lv.set k (some (.ref x))) st) : J p l e R s m args below meth c Q g nL sh N cells slots pc lv (.ref x :: st) := fun H locs ls a b d => lv_astore C.1 C.2.1 hd d.has hn rfl (fun ls' hl' => kk H locs ls' a b (LV.set1 hok hl'))
theorem j_astore_nN (C : Cx p s m args meth c g nL own cc ret) {k : Fin 4} (hd : decode cc pc = .ok (.astore_n k, 1)) (hn : (k : Nat) < nL) (hok : lvok lv (k : Nat) = true) (kk : J p l e R s m args below meth c Q g nL sh N cells slots (pc + 1) (lv.set (k : Nat) (some .null)) st) : J p l e R s m args below meth c Q g nL sh N cells slots pc lv (.null :: st) := fun H locs ls a b d => lv_astore_nN C.1 C.2.1 hd rfl d.has hn rfl (fun ls' hl' => kk H locs ls' a b (LV.set1 hok hl'))
theorem j_astoreN (C : Cx p s m args meth c g nL own cc ret) {k : Nat} (hd : decode cc pc = .ok (.astore k, 2)) (hn : k < nL) (hok : lvok lv k = true) (kk : J p l e R s m args below meth c Q g nL sh N cells slots (pc + 2) (lv.set k (some .null)) st) : J p l e R s m args below meth c Q g nL sh N cells slots pc lv (.null :: st) := fun H locs ls a b d => lv_astoreN C.1 C.2.1 hd d.has hn rfl (fun ls' hl' => kk H locs ls' a b (LV.set1 hok hl'))
theorem j_lstore_n (C : Cx p s m args meth c g nL own cc ret) {k : Fin 4} {x : Int64} (hd : decode cc pc = .ok (.lstore_n k, 1)) (hn : (k : Nat) + 1 < nL) (hok : lvok lv (k : Nat) = true) (kk : J p l e R s m args below meth c Q g nL sh N cells slots (pc + 1) ((lv.set (k : Nat) (some (.long x))).set ((k : Nat) + 1) none) st) : J p l e R s m args below meth c Q g nL sh N cells slots pc lv (.long x :: st) := fun H locs ls a b d => lv_lstore_n C.1 C.2.1 hd rfl d.has hn rfl (fun ls' hl' => kk H locs ls' a b (LV.set2 hok hl'))
theorem lvL_at {lv : List (Option Value)} {k : Nat} {v : Value} (h : lv[k]? = some (some v)) : ∃ j : Nat, (lvL lv)[j]? = some (k, v) := List.getElem?_of_mem (lvL_mem.mpr h)
theorem j_iinc (C : Cx p s m args meth c g nL own cc ret) {k : Nat} {n : Int} {x v : Int32} (hd : decode cc pc = .ok (.iinc k n, 3)) (hk : lv[k]? = some (some (.int x))) (hv : x + Int32.ofInt n = v) (hn : k < nL) (hok : lvok lv k = true) (kk : J p l e R s m args below meth c Q g nL sh N cells slots (pc + 3) (lv.set k (some (.int v))) st) : J p l e R s m args below meth c Q g nL sh N cells slots pc lv st := fun H locs ls a b d => (lvL_at hk).elim fun j hj => lv_iinc C.1 C.2.1 hd d.has hj hv hn rfl (fun ls' hl' => kk H locs ls' a b (LV.set1 hok hl'))
theorem j_iadd (C : Cx p s m args meth c g nL own cc ret) {x y : Int32} (hd : decode cc pc = .ok (.iadd, 1))  (kk : J p l e R s m args below meth c Q g nL sh N cells slots (pc + 1) lv (.int (x + y) :: st)) : J p l e R s m args below meth c Q g nL sh N cells slots pc lv (.int y :: .int x :: st) := fun H locs ls a b d => lv_iadd C.1 C.2.1  hd  (kk H locs ls a b d)
theorem j_isub (C : Cx p s m args meth c g nL own cc ret) {x y : Int32} (hd : decode cc pc = .ok (.isub, 1))  (kk : J p l e R s m args below meth c Q g nL sh N cells slots (pc + 1) lv (.int (x - y) :: st)) : J p l e R s m args below meth c Q g nL sh N cells slots pc lv (.int y :: .int x :: st) := fun H locs ls a b d => lv_isub C.1 C.2.1  hd  (kk H locs ls a b d)
theorem j_imul (C : Cx p s m args meth c g nL own cc ret) {x y : Int32} (hd : decode cc pc = .ok (.imul, 1))  (kk : J p l e R s m args below meth c Q g nL sh N cells slots (pc + 1) lv (.int (x * y) :: st)) : J p l e R s m args below meth c Q g nL sh N cells slots pc lv (.int y :: .int x :: st) := fun H locs ls a b d => lv_imul C.1 C.2.1  hd  (kk H locs ls a b d)
theorem j_iand (C : Cx p s m args meth c g nL own cc ret) {x y : Int32} (hd : decode cc pc = .ok (.iand, 1))  (kk : J p l e R s m args below meth c Q g nL sh N cells slots (pc + 1) lv (.int (x &&& y) :: st)) : J p l e R s m args below meth c Q g nL sh N cells slots pc lv (.int y :: .int x :: st) := fun H locs ls a b d => lv_iand C.1 C.2.1  hd  (kk H locs ls a b d)
theorem j_ior (C : Cx p s m args meth c g nL own cc ret) {x y : Int32} (hd : decode cc pc = .ok (.ior, 1))  (kk : J p l e R s m args below meth c Q g nL sh N cells slots (pc + 1) lv (.int (x ||| y) :: st)) : J p l e R s m args below meth c Q g nL sh N cells slots pc lv (.int y :: .int x :: st) := fun H locs ls a b d => lv_ior C.1 C.2.1  hd  (kk H locs ls a b d)
theorem j_ishl (C : Cx p s m args meth c g nL own cc ret) {x y : Int32} (hd : decode cc pc = .ok (.ishl, 1))  (kk : J p l e R s m args below meth c Q g nL sh N cells slots (pc + 1) lv (.int (x <<< (y &&& 31)) :: st)) : J p l e R s m args below meth c Q g nL sh N cells slots pc lv (.int y :: .int x :: st) := fun H locs ls a b d => lv_ishl C.1 C.2.1  hd  (kk H locs ls a b d)
theorem j_ishr (C : Cx p s m args meth c g nL own cc ret) {x y : Int32} (hd : decode cc pc = .ok (.ishr, 1))  (kk : J p l e R s m args below meth c Q g nL sh N cells slots (pc + 1) lv (.int (x >>> (y &&& 31)) :: st)) : J p l e R s m args below meth c Q g nL sh N cells slots pc lv (.int y :: .int x :: st) := fun H locs ls a b d => lv_ishr C.1 C.2.1  hd  (kk H locs ls a b d)
theorem j_idiv (C : Cx p s m args meth c g nL own cc ret) {x y : Int32} (hd : decode cc pc = .ok (.idiv, 1)) (hne : ¬ y = 0) (kk : J p l e R s m args below meth c Q g nL sh N cells slots (pc + 1) lv (.int (x / y) :: st)) : J p l e R s m args below meth c Q g nL sh N cells slots pc lv (.int y :: .int x :: st) := fun H locs ls a b d => lv_idiv C.1 C.2.1  hd hne (kk H locs ls a b d)
theorem j_irem (C : Cx p s m args meth c g nL own cc ret) {x y : Int32} (hd : decode cc pc = .ok (.irem, 1)) (hne : ¬ y = 0) (kk : J p l e R s m args below meth c Q g nL sh N cells slots (pc + 1) lv (.int (x - x / y * y) :: st)) : J p l e R s m args below meth c Q g nL sh N cells slots pc lv (.int y :: .int x :: st) := fun H locs ls a b d => lv_irem C.1 C.2.1  hd hne (kk H locs ls a b d)
theorem j_ineg (C : Cx p s m args meth c g nL own cc ret) {x : Int32} (hd : decode cc pc = .ok (.ineg, 1))  (kk : J p l e R s m args below meth c Q g nL sh N cells slots (pc + 1) lv (.int (-x) :: st)) : J p l e R s m args below meth c Q g nL sh N cells slots pc lv (.int x :: st) := fun H locs ls a b d => lv_ineg C.1 C.2.1  hd  (kk H locs ls a b d)
theorem j_iushr (C : Cx p s m args meth c g nL own cc ret) {x y : Int32} (hd : decode cc pc = .ok (.iushr, 1))  (kk : J p l e R s m args below meth c Q g nL sh N cells slots (pc + 1) lv (.int ((x.toUInt32 >>> (y.toUInt32 &&& Int32.toUInt32 31)).toInt32) :: st)) : J p l e R s m args below meth c Q g nL sh N cells slots pc lv (.int y :: .int x :: st) := fun H locs ls a b d => lv_iushr C.1 C.2.1  hd rfl (kk H locs ls a b d)
theorem j_i2b (C : Cx p s m args meth c g nL own cc ret) {x : Int32} (hd : decode cc pc = .ok (.i2b, 1))  (kk : J p l e R s m args below meth c Q g nL sh N cells slots (pc + 1) lv (.int (x.toInt8.toInt32) :: st)) : J p l e R s m args below meth c Q g nL sh N cells slots pc lv (.int x :: st) := fun H locs ls a b d => lv_i2b C.1 C.2.1  hd rfl (kk H locs ls a b d)
theorem j_i2c (C : Cx p s m args meth c g nL own cc ret) {x : Int32} (hd : decode cc pc = .ok (.i2c, 1))  (kk : J p l e R s m args below meth c Q g nL sh N cells slots (pc + 1) lv (.int ((x.toUInt32 % 65536).toInt32) :: st)) : J p l e R s m args below meth c Q g nL sh N cells slots pc lv (.int x :: st) := fun H locs ls a b d => lv_i2c C.1 C.2.1  hd rfl (kk H locs ls a b d)
theorem j_i2l (C : Cx p s m args meth c g nL own cc ret) {x : Int32} (hd : decode cc pc = .ok (.i2l, 1))  (kk : J p l e R s m args below meth c Q g nL sh N cells slots (pc + 1) lv (.long (x.toInt64) :: st)) : J p l e R s m args below meth c Q g nL sh N cells slots pc lv (.int x :: st) := fun H locs ls a b d => lv_i2l C.1 C.2.1  hd rfl (kk H locs ls a b d)
theorem j_l2i (C : Cx p s m args meth c g nL own cc ret) {x : Int64} (hd : decode cc pc = .ok (.l2i, 1))  (kk : J p l e R s m args below meth c Q g nL sh N cells slots (pc + 1) lv (.int (x.toInt32) :: st)) : J p l e R s m args below meth c Q g nL sh N cells slots pc lv (.long x :: st) := fun H locs ls a b d => lv_l2i C.1 C.2.1  hd rfl (kk H locs ls a b d)
theorem j_ladd (C : Cx p s m args meth c g nL own cc ret) {x y : Int64} (hd : decode cc pc = .ok (.ladd, 1))  (kk : J p l e R s m args below meth c Q g nL sh N cells slots (pc + 1) lv (.long (x + y) :: st)) : J p l e R s m args below meth c Q g nL sh N cells slots pc lv (.long y :: .long x :: st) := fun H locs ls a b d => lv_ladd C.1 C.2.1  hd  (kk H locs ls a b d)
theorem j_lsub (C : Cx p s m args meth c g nL own cc ret) {x y : Int64} (hd : decode cc pc = .ok (.lsub, 1))  (kk : J p l e R s m args below meth c Q g nL sh N cells slots (pc + 1) lv (.long (x - y) :: st)) : J p l e R s m args below meth c Q g nL sh N cells slots pc lv (.long y :: .long x :: st) := fun H locs ls a b d => lv_lsub C.1 C.2.1  hd  (kk H locs ls a b d)
theorem j_lmul (C : Cx p s m args meth c g nL own cc ret) {x y : Int64} (hd : decode cc pc = .ok (.lmul, 1))  (kk : J p l e R s m args below meth c Q g nL sh N cells slots (pc + 1) lv (.long (x * y) :: st)) : J p l e R s m args below meth c Q g nL sh N cells slots pc lv (.long y :: .long x :: st) := fun H locs ls a b d => lv_lmul C.1 C.2.1  hd  (kk H locs ls a b d)
theorem j_ldiv (C : Cx p s m args meth c g nL own cc ret) {x y : Int64} (hd : decode cc pc = .ok (.ldiv, 1)) (hne : ¬ y = 0) (kk : J p l e R s m args below meth c Q g nL sh N cells slots (pc + 1) lv (.long (x / y) :: st)) : J p l e R s m args below meth c Q g nL sh N cells slots pc lv (.long y :: .long x :: st) := fun H locs ls a b d => lv_ldiv C.1 C.2.1  hd hne (kk H locs ls a b d)
theorem j_lcmp (C : Cx p s m args meth c g nL own cc ret) {x y : Int64} (hd : decode cc pc = .ok (.lcmp, 1))  (kk : J p l e R s m args below meth c Q g nL sh N cells slots (pc + 1) lv (.int (lg_cmp x y) :: st)) : J p l e R s m args below meth c Q g nL sh N cells slots pc lv (.long y :: .long x :: st) := fun H locs ls a b d => W.lcmp C.1 C.2.1  hd  (kk H locs ls a b d)
theorem j_dup (C : Cx p s m args meth c g nL own cc ret) {v : Value} (hd : decode cc pc = .ok (.dup, 1)) (hv : v.category = 1) (kk : J p l e R s m args below meth c Q g nL sh N cells slots (pc + 1) lv (v :: v :: st)) : J p l e R s m args below meth c Q g nL sh N cells slots pc lv (v :: st) := fun H locs ls a b d => lv_dup C.1 C.2.1  hd hv (kk H locs ls a b d)
theorem j_pop (C : Cx p s m args meth c g nL own cc ret) {v : Value} (hd : decode cc pc = .ok (.pop, 1)) (hv : v.category = 1) (kk : J p l e R s m args below meth c Q g nL sh N cells slots (pc + 1) lv (st)) : J p l e R s m args below meth c Q g nL sh N cells slots pc lv (v :: st) := fun H locs ls a b d => lv_pop C.1 C.2.1  hd hv (kk H locs ls a b d)
theorem j_dup_x1 (C : Cx p s m args meth c g nL own cc ret) {v w : Value} (hd : decode cc pc = .ok (.dup_x1, 1)) (hv : v.category = 1) (hw : w.category = 1) (kk : J p l e R s m args below meth c Q g nL sh N cells slots (pc + 1) lv (v :: w :: v :: st)) : J p l e R s m args below meth c Q g nL sh N cells slots pc lv (v :: w :: st) := fun H locs ls a b d => lv_dup_x1 C.1 C.2.1  hd hv hw (kk H locs ls a b d)
theorem j_dup2 (C : Cx p s m args meth c g nL own cc ret) {v w : Value} (hd : decode cc pc = .ok (.dup2, 1)) (hv : v.category = 1) (hw : w.category = 1) (kk : J p l e R s m args below meth c Q g nL sh N cells slots (pc + 1) lv (v :: w :: v :: w :: st)) : J p l e R s m args below meth c Q g nL sh N cells slots pc lv (v :: w :: st) := fun H locs ls a b d => lv_dup2_11 C.1 C.2.1  hd hv hw (kk H locs ls a b d)
theorem j_if_eq (C : Cx p s m args meth c g nL own cc ret) {x : Int32} {off : Int} {tgt : Nat} (hd : decode cc pc = .ok (.ifCond .eq off, 3)) (ht : (pc : Int) + off = (tgt : Int)) (kt : x = 0 → J p l e R s m args below meth c Q g nL sh N cells slots tgt lv st) (kf : ¬ (x = 0) → J p l e R s m args below meth c Q g nL sh N cells slots (pc + 3) lv st) : J p l e R s m args below meth c Q g nL sh N cells slots pc lv (.int x :: st) := fun H locs ls a b d => lv_if_eq C.1 C.2.1 hd ht (fun z => kt z H locs ls a b d) (fun z => kf (by first | exact z | simpa using z) H locs ls a b d)
theorem j_icmp_eq (C : Cx p s m args meth c g nL own cc ret) {x y : Int32} {off : Int} {tgt : Nat} (hd : decode cc pc = .ok (.if_icmp .eq off, 3)) (ht : (pc : Int) + off = (tgt : Int)) (kt : x = y → J p l e R s m args below meth c Q g nL sh N cells slots tgt lv st) (kf : ¬ (x = y) → J p l e R s m args below meth c Q g nL sh N cells slots (pc + 3) lv st) : J p l e R s m args below meth c Q g nL sh N cells slots pc lv (.int y :: .int x :: st) := fun H locs ls a b d => lv_icmp_eq C.1 C.2.1 hd ht (fun z => kt z H locs ls a b d) (fun z => kf (by first | exact z | simpa using z) H locs ls a b d)
theorem j_if_ne (C : Cx p s m args meth c g nL own cc ret) {x : Int32} {off : Int} {tgt : Nat} (hd : decode cc pc = .ok (.ifCond .ne off, 3)) (ht : (pc : Int) + off = (tgt : Int)) (kt : ¬ x = 0 → J p l e R s m args below meth c Q g nL sh N cells slots tgt lv st) (kf : ¬ (¬ x = 0) → J p l e R s m args below meth c Q g nL sh N cells slots (pc + 3) lv st) : J p l e R s m args below meth c Q g nL sh N cells slots pc lv (.int x :: st) := fun H locs ls a b d => lv_if_ne C.1 C.2.1 hd ht (fun z => kt z H locs ls a b d) (fun z => kf (by first | exact z | simpa using z) H locs ls a b d)
theorem j_icmp_ne (C : Cx p s m args meth c g nL own cc ret) {x y : Int32} {off : Int} {tgt : Nat} (hd : decode cc pc = .ok (.if_icmp .ne off, 3)) (ht : (pc : Int) + off = (tgt : Int)) (kt : ¬ x = y → J p l e R s m args below meth c Q g nL sh N cells slots tgt lv st) (kf : ¬ (¬ x = y) → J p l e R s m args below meth c Q g nL sh N cells slots (pc + 3) lv st) : J p l e R s m args below meth c Q g nL sh N cells slots pc lv (.int y :: .int x :: st) := fun H locs ls a b d => lv_icmp_ne C.1 C.2.1 hd ht (fun z => kt z H locs ls a b d) (fun z => kf (by first | exact z | simpa using z) H locs ls a b d)
theorem j_if_lt (C : Cx p s m args meth c g nL own cc ret) {x : Int32} {off : Int} {tgt : Nat} (hd : decode cc pc = .ok (.ifCond .lt off, 3)) (ht : (pc : Int) + off = (tgt : Int)) (kt : x < 0 → J p l e R s m args below meth c Q g nL sh N cells slots tgt lv st) (kf : ¬ (x < 0) → J p l e R s m args below meth c Q g nL sh N cells slots (pc + 3) lv st) : J p l e R s m args below meth c Q g nL sh N cells slots pc lv (.int x :: st) := fun H locs ls a b d => lv_if_lt C.1 C.2.1 hd ht (fun z => kt z H locs ls a b d) (fun z => kf (by first | exact z | simpa using z) H locs ls a b d)
theorem j_icmp_lt (C : Cx p s m args meth c g nL own cc ret) {x y : Int32} {off : Int} {tgt : Nat} (hd : decode cc pc = .ok (.if_icmp .lt off, 3)) (ht : (pc : Int) + off = (tgt : Int)) (kt : x < y → J p l e R s m args below meth c Q g nL sh N cells slots tgt lv st) (kf : ¬ (x < y) → J p l e R s m args below meth c Q g nL sh N cells slots (pc + 3) lv st) : J p l e R s m args below meth c Q g nL sh N cells slots pc lv (.int y :: .int x :: st) := fun H locs ls a b d => lv_icmp_lt C.1 C.2.1 hd ht (fun z => kt z H locs ls a b d) (fun z => kf (by first | exact z | simpa using z) H locs ls a b d)
theorem j_if_ge (C : Cx p s m args meth c g nL own cc ret) {x : Int32} {off : Int} {tgt : Nat} (hd : decode cc pc = .ok (.ifCond .ge off, 3)) (ht : (pc : Int) + off = (tgt : Int)) (kt : 0 ≤ x → J p l e R s m args below meth c Q g nL sh N cells slots tgt lv st) (kf : ¬ (0 ≤ x) → J p l e R s m args below meth c Q g nL sh N cells slots (pc + 3) lv st) : J p l e R s m args below meth c Q g nL sh N cells slots pc lv (.int x :: st) := fun H locs ls a b d => lv_if_ge C.1 C.2.1 hd ht (fun z => kt z H locs ls a b d) (fun z => kf (by first | exact z | simpa using z) H locs ls a b d)
theorem j_icmp_ge (C : Cx p s m args meth c g nL own cc ret) {x y : Int32} {off : Int} {tgt : Nat} (hd : decode cc pc = .ok (.if_icmp .ge off, 3)) (ht : (pc : Int) + off = (tgt : Int)) (kt : y ≤ x → J p l e R s m args below meth c Q g nL sh N cells slots tgt lv st) (kf : ¬ (y ≤ x) → J p l e R s m args below meth c Q g nL sh N cells slots (pc + 3) lv st) : J p l e R s m args below meth c Q g nL sh N cells slots pc lv (.int y :: .int x :: st) := fun H locs ls a b d => lv_icmp_ge C.1 C.2.1 hd ht (fun z => kt z H locs ls a b d) (fun z => kf (by first | exact z | simpa using z) H locs ls a b d)
theorem j_if_gt (C : Cx p s m args meth c g nL own cc ret) {x : Int32} {off : Int} {tgt : Nat} (hd : decode cc pc = .ok (.ifCond .gt off, 3)) (ht : (pc : Int) + off = (tgt : Int)) (kt : 0 < x → J p l e R s m args below meth c Q g nL sh N cells slots tgt lv st) (kf : ¬ (0 < x) → J p l e R s m args below meth c Q g nL sh N cells slots (pc + 3) lv st) : J p l e R s m args below meth c Q g nL sh N cells slots pc lv (.int x :: st) := fun H locs ls a b d => lv_if_gt C.1 C.2.1 hd ht (fun z => kt z H locs ls a b d) (fun z => kf (by first | exact z | simpa using z) H locs ls a b d)
theorem j_icmp_gt (C : Cx p s m args meth c g nL own cc ret) {x y : Int32} {off : Int} {tgt : Nat} (hd : decode cc pc = .ok (.if_icmp .gt off, 3)) (ht : (pc : Int) + off = (tgt : Int)) (kt : y < x → J p l e R s m args below meth c Q g nL sh N cells slots tgt lv st) (kf : ¬ (y < x) → J p l e R s m args below meth c Q g nL sh N cells slots (pc + 3) lv st) : J p l e R s m args below meth c Q g nL sh N cells slots pc lv (.int y :: .int x :: st) := fun H locs ls a b d => lv_icmp_gt C.1 C.2.1 hd ht (fun z => kt z H locs ls a b d) (fun z => kf (by first | exact z | simpa using z) H locs ls a b d)
theorem j_if_le (C : Cx p s m args meth c g nL own cc ret) {x : Int32} {off : Int} {tgt : Nat} (hd : decode cc pc = .ok (.ifCond .le off, 3)) (ht : (pc : Int) + off = (tgt : Int)) (kt : x ≤ 0 → J p l e R s m args below meth c Q g nL sh N cells slots tgt lv st) (kf : ¬ (x ≤ 0) → J p l e R s m args below meth c Q g nL sh N cells slots (pc + 3) lv st) : J p l e R s m args below meth c Q g nL sh N cells slots pc lv (.int x :: st) := fun H locs ls a b d => lv_if_le C.1 C.2.1 hd ht (fun z => kt z H locs ls a b d) (fun z => kf (by first | exact z | simpa using z) H locs ls a b d)
theorem j_icmp_le (C : Cx p s m args meth c g nL own cc ret) {x y : Int32} {off : Int} {tgt : Nat} (hd : decode cc pc = .ok (.if_icmp .le off, 3)) (ht : (pc : Int) + off = (tgt : Int)) (kt : x ≤ y → J p l e R s m args below meth c Q g nL sh N cells slots tgt lv st) (kf : ¬ (x ≤ y) → J p l e R s m args below meth c Q g nL sh N cells slots (pc + 3) lv st) : J p l e R s m args below meth c Q g nL sh N cells slots pc lv (.int y :: .int x :: st) := fun H locs ls a b d => lv_icmp_le C.1 C.2.1 hd ht (fun z => kt z H locs ls a b d) (fun z => kf (by first | exact z | simpa using z) H locs ls a b d)
theorem j_goto (C : Cx p s m args meth c g nL own cc ret) {off : Int} {tgt : Nat} (hd : decode cc pc = .ok (.goto off, 3)) (ht : (pc : Int) + off = (tgt : Int)) (kk : J p l e R s m args below meth c Q g nL sh N cells slots tgt lv st) : J p l e R s m args below meth c Q g nL sh N cells slots pc lv st := fun H locs ls a b d => lv_goto C.1 C.2.1 hd ht (kk H locs ls a b d)
theorem j_ifnonnull (C : Cx p s m args meth c g nL own cc ret) {x : Nat} {off : Int} {tgt : Nat} (hd : decode cc pc = .ok (.ifnonnull off, 3)) (ht : (pc : Int) + off = (tgt : Int)) (kk : J p l e R s m args below meth c Q g nL sh N cells slots tgt lv st) : J p l e R s m args below meth c Q g nL sh N cells slots pc lv (.ref x :: st) := fun H locs ls a b d => lv_ifnonnull C.1 C.2.1 hd ht (kk H locs ls a b d)
theorem j_ifnull (C : Cx p s m args meth c g nL own cc ret) {x : Nat} {off : Int} (hd : decode cc pc = .ok (.ifnull off, 3)) (kk : J p l e R s m args below meth c Q g nL sh N cells slots (pc + 3) lv st) : J p l e R s m args below meth c Q g nL sh N cells slots pc lv (.ref x :: st) := fun H locs ls a b d => lv_ifnull C.1 C.2.1 hd (kk H locs ls a b d)
theorem j_ifnonnullN (C : Cx p s m args meth c g nL own cc ret) {off : Int} (hd : decode cc pc = .ok (.ifnonnull off, 3)) (kk : J p l e R s m args below meth c Q g nL sh N cells slots (pc + 3) lv st) : J p l e R s m args below meth c Q g nL sh N cells slots pc lv (.null :: st) := fun H locs ls a b d => lv_ifnonnullN C.1 C.2.1 hd (kk H locs ls a b d)
theorem j_ifnullN (C : Cx p s m args meth c g nL own cc ret) {off : Int} {tgt : Nat} (hd : decode cc pc = .ok (.ifnull off, 3)) (ht : (pc : Int) + off = (tgt : Int)) (kk : J p l e R s m args below meth c Q g nL sh N cells slots tgt lv st) : J p l e R s m args below meth c Q g nL sh N cells slots pc lv (.null :: st) := fun H locs ls a b d => lv_ifnullN C.1 C.2.1 hd ht (kk H locs ls a b d)
theorem j_acmp_eq (C : Cx p s m args meth c g nL own cc ret) {x y : Nat} {off : Int} {tgt : Nat} (hd : decode cc pc = .ok (.if_acmp .eq off, 3)) (ht : (pc : Int) + off = (tgt : Int)) (kt : x = y → J p l e R s m args below meth c Q g nL sh N cells slots tgt lv st) (kf : ¬ (x = y) → J p l e R s m args below meth c Q g nL sh N cells slots (pc + 3) lv st) : J p l e R s m args below meth c Q g nL sh N cells slots pc lv (.ref y :: .ref x :: st) := fun H locs ls a b d => lv_acmp_eq (rx := some x) (ry := some y) C.1 C.2.1 hd ht (fun z => kt (by simpa using z) H locs ls a b d) (fun z => kf (by simpa using z) H locs ls a b d)
theorem j_acmp_ne (C : Cx p s m args meth c g nL own cc ret) {x y : Nat} {off : Int} {tgt : Nat} (hd : decode cc pc = .ok (.if_acmp .ne off, 3)) (ht : (pc : Int) + off = (tgt : Int)) (kt : ¬ x = y → J p l e R s m args below meth c Q g nL sh N cells slots tgt lv st) (kf : ¬ (¬ x = y) → J p l e R s m args below meth c Q g nL sh N cells slots (pc + 3) lv st) : J p l e R s m args below meth c Q g nL sh N cells slots pc lv (.ref y :: .ref x :: st) := fun H locs ls a b d => lv_acmp_ne (rx := some x) (ry := some y) C.1 C.2.1 hd ht (fun z => kt (by simpa using z) H locs ls a b d) (fun z => kf (by simpa using z) H locs ls a b d)
theorem j_tabOut (C : Cx p s m args meth c g nL own cc ret) {dflt lo hi : Int} {offs : Array Int} {len : Nat} {x : Int32} {tgt : Nat} (hd : decode cc pc = .ok (.tableswitch dflt lo hi offs, len)) (h : x.toInt < lo ∨ hi < x.toInt) (ht : (pc : Int) + dflt = (tgt : Int)) (kk : J p l e R s m args below meth c Q g nL sh N cells slots tgt lv st) : J p l e R s m args below meth c Q g nL sh N cells slots pc lv (.int x :: st) := fun H locs ls a b d => lv_tableOut C.1 C.2.1 hd h ht (kk H locs ls a b d)
theorem j_tabIn (C : Cx p s m args meth c g nL own cc ret) {dflt lo hi : Int} {offs : Array Int} {len : Nat} {x : Int32} {off : Int} {tgt : Nat} (hd : decode cc pc = .ok (.tableswitch dflt lo hi offs, len)) (h1 : ¬ x.toInt < lo) (h2 : ¬ hi < x.toInt) (ho : offs[(x.toInt - lo).toNat]? = some off) (ht : (pc : Int) + off = (tgt : Int)) (kk : J p l e R s m args below meth c Q g nL sh N cells slots tgt lv st) : J p l e R s m args below meth c Q g nL sh N cells slots pc lv (.int x :: st) := fun H locs ls a b d => lv_tableIn C.1 C.2.1 hd h1 h2 ho ht (kk H locs ls a b d)
theorem j_lookup (C : Cx p s m args meth c g nL own cc ret) {dflt : Int} {ps : Array (Int × Int)} {len : Nat} {x : Int32} {off : Int} {tgt : Nat} (hd : decode cc pc = .ok (.lookupswitch dflt ps, len)) (hp : (ps.toList.zip (ps.toList.drop 1)).all (fun (a, next) => a.1 < next.1) = true) (ho : Op.lookupswitch.offset ps.toList dflt x.toInt = off) (ht : (pc : Int) + off = (tgt : Int)) (kk : J p l e R s m args below meth c Q g nL sh N cells slots tgt lv st) : J p l e R s m args below meth c Q g nL sh N cells slots pc lv (.int x :: st) := fun H locs ls a b d => lv_lookup C.1 C.2.1 hd hp ho ht (kk H locs ls a b d)
theorem j_topi {x : Int32} (k : ∀ y : Int32, y = x → J p l e R s m args below meth c Q g nL sh N cells slots pc lv (.int y :: st)) : J p l e R s m args below meth c Q g nL sh N cells slots pc lv (.int x :: st) := k x rfl
theorem j_nm {N : WNm} (k : ∀ N1 : WNm, N1 = N → J p l e R s m args below meth c Q g nL sh N1 cells slots pc lv st) : J p l e R s m args below meth c Q g nL sh N cells slots pc lv st := k N rfl

def FL (own : String) (idx ci k : Nat) : Prop := ci < 9 ∧ k < nF ci ∧ ∃ ref, Cond.fieldLink own idx ref (TT ci k).2.1 (TT ci k).2.2.1 ∈ TBL ∧ (ref = (TT ci k).1 ∨ Cond.sameField ref (TT ci k).1 (TT ci k).2.1 (TT ci k).2.2.1 ∈ TBL)
theorem FL.of {own : String} {idx ci k : Nat} (i : Nat) (h1 : ci < 9) (h2 : k < nF ci) (h3 : lw_tbl[i]? = some (Cond.fieldLink own idx (TT ci k).1 (TT ci k).2.1 (TT ci k).2.2.1)) : FL own idx ci k := ⟨h1, h2, (TT ci k).1, tbl_in i h3 rfl, Or.inl rfl⟩
theorem FL.same {idx ci k : Nat} {ref : String} (C : Cx p s m args meth c g nL own cc ret) (h : ref = (TT ci k).1 ∨ Cond.sameField ref (TT ci k).1 (TT ci k).2.1 (TT ci k).2.2.1 ∈ TBL) : ∀ x, s.fieldFound? (TT ci k).1 (TT ci k).2.1 (TT ci k).2.2.1 = some x → s.fieldFound? ref (TT ci k).2.1 (TT ci k).2.2.1 = some x := by
  rcases h with h | h
  · intro x hx; rw [h]; exact hx
  · exact u_same (C.2.2.2.2.1 _ h)
theorem j_getV (C : Cx p s m args meth c g nL own cc ret) {idx ci k i : Nat} (hf : FL own idx ci k) (hd : decode cc pc = .ok (.getfield idx, 3)) (ht : (sh.1 i).1 = ci) {v : Value} (hv : WV sh N i k = v) (kk : J p l e R s m args below meth c Q g nL sh N cells slots (pc + 3) lv (v :: st)) : J p l e R s m args below meth c Q g nL sh N cells slots pc lv (.ref (sh.2.2 i) :: st) := by
  intro H locs ls a b d
  obtain ⟨h9, hk, ref, hl, hsm⟩ := hf
  subst ht
  obtain ⟨cell, q1, q2, q3, q4⟩ := (a.1 i).1 h9
  obtain ⟨hS, hfc, kC, hkC, hkind⟩ := C.2.2.2.2.2.1.1.1 _ _ (CL_at h9)
  obtain ⟨cf, kf, fi, f, hi, hsl⟩ := hS k hk
  refine W.getf C.1 C.2.1 C.2.2.2.1 (C.2.2.2.2.1 _ hl) (FL.same (idx := idx) C hsm _ hi) (u_facts hfc hkC (u_lays C.2.2.2.2.1 (cls_in _ h9) hk) hi).1 q1 (by rw [q3]; exact fun h => by cases h) (v := v) ?_ rfl rfl hd (kk H locs ls a b d)
  rw [hsl, q4 k hk, hv]
theorem j_getI (C : Cx p s m args meth c g nL own cc ret) {idx ci k i : Nat} (hf : FL own idx ci k) (hd : decode cc pc = .ok (.getfield idx, 3)) (ht : (sh.1 i).1 = ci) (hi : isI ci k = true) (kk : J p l e R s m args below meth c Q g nL sh N cells slots (pc + 3) lv (.int (N i k) :: st)) : J p l e R s m args below meth c Q g nL sh N cells slots pc lv (.ref (sh.2.2 i) :: st) := j_getV C hf hd ht (by simp only [WV, ht, hi, if_true]) kk
theorem j_getR (C : Cx p s m args meth c g nL own cc ret) {idx ci k i j : Nat} (hf : FL own idx ci k) (hd : decode cc pc = .ok (.getfield idx, 3)) (ht : (sh.1 i).1 = ci) (hi : isI ci k = false) (hr : sh.2.1 i k = some j) (kk : J p l e R s m args below meth c Q g nL sh N cells slots (pc + 3) lv (.ref (sh.2.2 j) :: st)) : J p l e R s m args below meth c Q g nL sh N cells slots pc lv (.ref (sh.2.2 i) :: st) := j_getV C hf hd ht (by simp [WV, ht, hi, hr, va_rf]) kk
theorem put_core (C : Cx p s m args meth c g nL own cc ret) {idx ci k i : Nat} {sh1 : WSh} {N1 : WNm} (hf : FL own idx ci k) (hd : decode cc pc = .ok (.putfield idx, 3)) (ht : (sh.1 i).1 = ci) {v : Value} (hfin : (TT ci k).2.2.2 = false ∨ (meth.name = "<init>" ∧ (TT ci k).1 = own ∧ (TT ci k).2.2.2 = true)) (hn : narrow (tyT ci k) v = v) (hfit : fits (tyT ci k) v = true)
    (h1 : sh1.1 = sh.1) (h3 : sh1.2.2 = sh.2.2) (h2 : ∀ a, a ≠ i → sh1.2.1 a = sh.2.1 a) (hN : ∀ a, a ≠ i → N1 a = N a) (hV : ∀ j, j < nF ci → updV (WV sh N i) k v j = WV sh1 N1 i j)
    (kk : J p l e R s m args below meth c Q g nL sh1 N1 cells slots (pc + 3) lv st) : J p l e R s m args below meth c Q g nL sh N cells slots pc lv (v :: .ref (sh.2.2 i) :: st) := by
  intro H locs ls a b d
  obtain ⟨h9, hk, ref, hl, hsm⟩ := hf
  subst ht
  obtain ⟨cell, q1, q2, q3, q4⟩ := (a.1 i).1 h9
  have hts := C.2.2.2.2.1
  have hK := C.2.2.2.2.2.1.1
  have hap := va_apart (own := own) hts (cls_in _ h9) (tyT (sh.1 i).1) (cls_ty _ h9) (cls_nm _ h9) hK (CL_at h9)
  obtain ⟨hS, hfc, kC, hkC, hkind⟩ := hK.1 _ _ (CL_at h9)
  obtain ⟨cf, kf, fi, f, hi, hsl⟩ := hS k hk
  have hst := (u_facts hfc hkC (u_lays hts (cls_in _ h9) hk) hi).1
  have hty := cls_ty _ h9 k hk
  have hlay := hts _ (cls_in _ h9 _ (u_in_lay hk))
  have fin : ∀ (H' : Heap) (locs1 : List Loc), H'[sh.2.2 i]? = some (cell.setSlot f.slot v) → H'.size = H.size → (∀ q, q ≠ sh.2.2 i → H'[q]? = H[q]?) → locs1 = locs ++ [⟨sh.2.2 i, f.slot⟩] → W p l e R s m args below meth c H' locs1 cells slots Q (F0 m (pc + 3) ls st) := by
    intro H' locs1 e1 e2 e3 el
    subst el
    rw [hsl] at e1
    refine kk H' _ ls (a.put (by omega) h1 h3 h2 hN e2 e3 ?_) (b.put e2 e3 (a.2.2 i (by omega)).1) d
    refine ⟨fun _ => ?_, fun t => absurd t (by rw [h1]; omega), fun t => absurd t (by rw [h1]; omega), fun t => absurd t (by rw [h1]; omega), fun t => absurd t (by rw [h1]; omega)⟩
    rw [h1, h3]
    exact t_OB.to (V := updV (WV sh N i) k v) ⟨_, e1, q2, q3, t_set q4 hap hk v⟩ hV
  rcases hfin with hfin | ⟨hin2, hdecl, hfin⟩
  · unfold u_lay at hlay
    rw [if_neg (by rw [hfin]; decide)] at hlay
    have h6 := u_store hfc hkC hkind hlay hi hty hn hfit
    exact W.putK C.1 C.2.1 (f := f) ⟨C.2.2.2.1, hts _ hl, ⟨_, _, _, FL.same (idx := idx) C hsm _ hi⟩, hst⟩ (by rw [q2]; exact h6) q1 q3 (by rw [hsl]; exact k2_hasslot (q4 k hk)) rfl rfl hd fun H' e1 e2 e3 => fin H' _ e1 e2 e3 rfl
  · unfold u_lay at hlay
    rw [if_pos hfin] at hlay
    have hcf : m.cls = cf := by
      obtain ⟨_, _, c', _, _, _, -, -, hf', -, -, -, hown2, -⟩ := Cond.laysFinal_spec hlay
      have e1 : c' = cf := by have := hi.symm.trans hf'; simp at this; exact this.1.symm
      rw [hdecl] at hown2
      rw [← e1]; exact Option.some.inj (C.2.2.2.1.symm.trans hown2)
    have h6 := u_fits hfc hkC hkind (Or.inr hlay) hi hty hn hfit
    exact W.putFinK C.1 C.2.1 C.2.2.2.1 (hts _ hl) (FL.same (idx := idx) C hsm _ hi) hst hcf hin2 (by rw [q2]; exact h6) q1 q3 (by rw [hsl]; exact k2_hasslot (q4 k hk)) rfl rfl hd fun H' e1 e2 e3 => fin H' _ e1 e2 e3 rfl
theorem WV_putI {sh : WSh} {N : WNm} {i k : Nat} {v : Int32} (hi : isI (sh.1 i).1 k = true) (j : Nat) : updV (WV sh N i) k (.int v) j = WV sh (u2 N i k v) i j := by
  by_cases hj : j = k
  · subst hj; simp [updV, WV, hi, u2]
  · simp [updV, WV, hj, u2]
theorem WV_putR {sh : WSh} {N : WNm} {i k : Nat} {r : Option Nat} (hi : isI (sh.1 i).1 k = false) (j : Nat) : updV (WV sh N i) k (va_rf (r.map sh.2.2)) j = WV (sh.1, u2 sh.2.1 i k r, sh.2.2) N i j := by
  by_cases hj : j = k
  · subst hj; simp [updV, WV, hi, u2]
  · simp [updV, WV, hj, u2]
theorem j_putI (C : Cx p s m args meth c g nL own cc ret) {idx ci k i : Nat} {v : Int32} (hf : FL own idx ci k) (hd : decode cc pc = .ok (.putfield idx, 3)) (ht : (sh.1 i).1 = ci) (hi : isI ci k = true) (hfin : (TT ci k).2.2.2 = false) (hn : narrow (tyT ci k) (.int v) = .int v) (hfit : fits (tyT ci k) (.int v) = true)
    (kk : J p l e R s m args below meth c Q g nL sh (u2 N i k v) cells slots (pc + 3) lv st) : J p l e R s m args below meth c Q g nL sh N cells slots pc lv (.int v :: .ref (sh.2.2 i) :: st) :=
  put_core C hf hd ht (Or.inl hfin) hn hfit rfl rfl (fun _ _ => rfl) (fun _ h => u2_row h) (fun j _ => WV_putI (by rw [ht]; exact hi) j) kk
theorem j_putIf (C : Cx p s m args meth c g nL own cc ret) {idx ci k i : Nat} {v : Int32} (hname : meth.name = "<init>") (hf : FL own idx ci k) (hd : decode cc pc = .ok (.putfield idx, 3)) (ht : (sh.1 i).1 = ci) (hi : isI ci k = true) (hfin : (TT ci k).1 = own ∧ (TT ci k).2.2.2 = true) (hn : narrow (tyT ci k) (.int v) = .int v) (hfit : fits (tyT ci k) (.int v) = true)
    (kk : J p l e R s m args below meth c Q g nL sh (u2 N i k v) cells slots (pc + 3) lv st) : J p l e R s m args below meth c Q g nL sh N cells slots pc lv (.int v :: .ref (sh.2.2 i) :: st) :=
  put_core C hf hd ht (Or.inr ⟨hname, hfin⟩) hn hfit rfl rfl (fun _ _ => rfl) (fun _ h => u2_row h) (fun j _ => WV_putI (by rw [ht]; exact hi) j) kk
theorem j_putR (C : Cx p s m args meth c g nL own cc ret) {idx ci k i j : Nat} (hf : FL own idx ci k) (hd : decode cc pc = .ok (.putfield idx, 3)) (ht : (sh.1 i).1 = ci) (hi : isI ci k = false) (hfin : (TT ci k).2.2.2 = false) (hn : narrow (tyT ci k) (.ref (sh.2.2 j)) = .ref (sh.2.2 j)) (hfit : fits (tyT ci k) (.ref (sh.2.2 j)) = true)
    (kk : J p l e R s m args below meth c Q g nL (sh.1, u2 sh.2.1 i k (some j), sh.2.2) N cells slots (pc + 3) lv st) : J p l e R s m args below meth c Q g nL sh N cells slots pc lv (.ref (sh.2.2 j) :: .ref (sh.2.2 i) :: st) :=
  put_core (sh1 := (sh.1, u2 sh.2.1 i k (some j), sh.2.2)) C hf hd ht (Or.inl hfin) hn hfit rfl rfl (fun _ h => u2_row h) (fun _ _ => rfl) (fun x _ => WV_putR (r := some j) (by rw [ht]; exact hi) x) kk
theorem j_putRf (C : Cx p s m args meth c g nL own cc ret) {idx ci k i j : Nat} (hname : meth.name = "<init>") (hf : FL own idx ci k) (hd : decode cc pc = .ok (.putfield idx, 3)) (ht : (sh.1 i).1 = ci) (hi : isI ci k = false) (hfin : (TT ci k).1 = own ∧ (TT ci k).2.2.2 = true) (hn : narrow (tyT ci k) (.ref (sh.2.2 j)) = .ref (sh.2.2 j)) (hfit : fits (tyT ci k) (.ref (sh.2.2 j)) = true)
    (kk : J p l e R s m args below meth c Q g nL (sh.1, u2 sh.2.1 i k (some j), sh.2.2) N cells slots (pc + 3) lv st) : J p l e R s m args below meth c Q g nL sh N cells slots pc lv (.ref (sh.2.2 j) :: .ref (sh.2.2 i) :: st) :=
  put_core (sh1 := (sh.1, u2 sh.2.1 i k (some j), sh.2.2)) C hf hd ht (Or.inr ⟨hname, hfin⟩) hn hfit rfl rfl (fun _ h => u2_row h) (fun _ _ => rfl) (fun x _ => WV_putR (r := some j) (by rw [ht]; exact hi) x) kk
theorem j_iald (C : Cx p s m args meth c g nL own cc ret) {i n : Nat} {x : Int32} (ht : sh.1 i = (9, n)) (hin : vp_in x n) (hd : decode cc pc = .ok (.iaload, 1)) (kk : J p l e R s m args below meth c Q g nL sh N cells slots (pc + 1) lv (.int (N i x.toNatClampNeg) :: st)) : J p l e R s m args below meth c Q g nL sh N cells slots pc lv (.int x :: .ref (sh.2.2 i) :: st) := by
  intro H locs ls a b d
  have hc := (a.1 i).2.1 (by rw [ht])
  rw [ht] at hc
  have hlt : x.toNatClampNeg < n := Nat.not_le.mp fun q => hin (Or.inr q)
  exact W.iald (v := .int (N i x.toNatClampNeg)) C.1 C.2.1 hc ((C.2.2.2.2.2.1.1.2 0 _ rfl).1 n (fun j => .int (N i j))) (fun q => by cases q) (by show ¬ (x < 0 ∨ (arrV _ _ _).slots.size ≤ _); rw [arrV_size]; exact hin) (by show (arrV _ _ _).slots[_]? = _; rw [arrV_read _ _ hlt]) rfl rfl hd (kk H locs ls a b d)
theorem j_bald (C : Cx p s m args meth c g nL own cc ret) {i n : Nat} {x : Int32} (ht : sh.1 i = (10, n)) (hin : vp_in x n) (hd : decode cc pc = .ok (.baload, 1)) (kk : J p l e R s m args below meth c Q g nL sh N cells slots (pc + 1) lv (.int (N i x.toNatClampNeg) :: st)) : J p l e R s m args below meth c Q g nL sh N cells slots pc lv (.int x :: .ref (sh.2.2 i) :: st) := by
  intro H locs ls a b d
  have hc := (a.1 i).2.2.1 (by rw [ht])
  rw [ht] at hc
  have hlt : x.toNatClampNeg < n := Nat.not_le.mp fun q => hin (Or.inr q)
  exact W.bald (v := .int (N i x.toNatClampNeg)) C.1 C.2.1 hc ((C.2.2.2.2.2.1.1.2 1 _ rfl).1 n (fun j => .int (N i j))) (fun q => by cases q) (by show ¬ (x < 0 ∨ (arrV _ _ _).slots.size ≤ _); rw [arrV_size]; exact hin) (by show (arrV _ _ _).slots[_]? = _; rw [arrV_read _ _ hlt]) rfl rfl hd (kk H locs ls a b d)
theorem j_zald (C : Cx p s m args meth c g nL own cc ret) {i n : Nat} {x : Int32} (ht : sh.1 i = (11, n)) (hin : vp_in x n) (hd : decode cc pc = .ok (.baload, 1)) (kk : J p l e R s m args below meth c Q g nL sh N cells slots (pc + 1) lv (.int (N i x.toNatClampNeg) :: st)) : J p l e R s m args below meth c Q g nL sh N cells slots pc lv (.int x :: .ref (sh.2.2 i) :: st) := by
  intro H locs ls a b d
  have hc := (a.1 i).2.2.2.1 (by rw [ht])
  rw [ht] at hc
  have hlt : x.toNatClampNeg < n := Nat.not_le.mp fun q => hin (Or.inr q)
  exact W.zald (v := .int (N i x.toNatClampNeg)) C.1 C.2.1 hc ((C.2.2.2.2.2.1.1.2 2 _ rfl).1 n (fun j => .int (N i j))) (fun q => by cases q) (by show ¬ (x < 0 ∨ (arrV _ _ _).slots.size ≤ _); rw [arrV_size]; exact hin) (by show (arrV _ _ _).slots[_]? = _; rw [arrV_read _ _ hlt]) rfl rfl hd (kk H locs ls a b d)
theorem j_iast (C : Cx p s m args meth c g nL own cc ret) {i n : Nat} {x v : Int32} (ht : sh.1 i = (9, n)) (hin : vp_in x n)  (hd : decode cc pc = .ok (.iastore, 1)) (kk : J p l e R s m args below meth c Q g nL sh (u2 N i x.toNatClampNeg (v)) cells slots (pc + 1) lv st) : J p l e R s m args below meth c Q g nL sh N cells slots pc lv (.int v :: .int x :: .ref (sh.2.2 i) :: st) := by
  intro H locs ls a b d
  have hc := (a.1 i).2.1 (by rw [ht])
  rw [ht] at hc
  have hle : (sh.1 i).1 ≤ 12 := by simp [ht]
  refine W.iast C.1 C.2.1 hc ((C.2.2.2.2.2.1.1.2 0 _ rfl).1 n (fun j => .int (N i j))) (fun q => by cases q) (by show ¬ (x < 0 ∨ (arrV _ _ _).slots.size ≤ _); rw [arrV_size]; exact hin) rfl rfl hd fun H1 e1 z1 oq => ?_
  refine kk H1 _ ls (a.put hle rfl rfl (fun _ _ => rfl) (fun _ h => u2_row h) z1 oq ⟨fun t => absurd t (by show ¬ (sh.1 i).1 < 9; simp [ht]), fun t => ?_, fun t => absurd t (by show ¬ (sh.1 i).1 = 10; simp [ht]), fun t => absurd t (by show ¬ (sh.1 i).1 = 11; simp [ht]), fun t => absurd t (by show ¬ (sh.1 i).1 = 12; simp [ht])⟩) (b.put z1 oq (a.2.2 i hle).1) d
  show H1[sh.2.2 i]? = some (arrV _ (sh.1 i).2 _)
  rw [e1, ht, arrV_store]
  congr 2
  funext q
  by_cases hq : q = x.toNatClampNeg
  · subst hq; simp [updV, u2]
  · simp [updV, u2, hq]
theorem j_bast (C : Cx p s m args meth c g nL own cc ret) {i n : Nat} {x v : Int32} (ht : sh.1 i = (10, n)) (hin : vp_in x n)  (hd : decode cc pc = .ok (.bastore, 1)) (kk : J p l e R s m args below meth c Q g nL sh (u2 N i x.toNatClampNeg (v.toInt8.toInt32)) cells slots (pc + 1) lv st) : J p l e R s m args below meth c Q g nL sh N cells slots pc lv (.int v :: .int x :: .ref (sh.2.2 i) :: st) := by
  intro H locs ls a b d
  have hc := (a.1 i).2.2.1 (by rw [ht])
  rw [ht] at hc
  have hle : (sh.1 i).1 ≤ 12 := by simp [ht]
  refine W.bast C.1 C.2.1 hc ((C.2.2.2.2.2.1.1.2 1 _ rfl).1 n (fun j => .int (N i j))) (fun q => by cases q) (by show ¬ (x < 0 ∨ (arrV _ _ _).slots.size ≤ _); rw [arrV_size]; exact hin) rfl rfl hd fun H1 e1 z1 oq => ?_
  rw [show narrow .byte (.int v) = .int v.toInt8.toInt32 from rfl] at e1
  refine kk H1 _ ls (a.put hle rfl rfl (fun _ _ => rfl) (fun _ h => u2_row h) z1 oq ⟨fun t => absurd t (by show ¬ (sh.1 i).1 < 9; simp [ht]), fun t => absurd t (by show ¬ (sh.1 i).1 = 9; simp [ht]), fun t => ?_, fun t => absurd t (by show ¬ (sh.1 i).1 = 11; simp [ht]), fun t => absurd t (by show ¬ (sh.1 i).1 = 12; simp [ht])⟩) (b.put z1 oq (a.2.2 i hle).1) d
  show H1[sh.2.2 i]? = some (arrV _ (sh.1 i).2 _)
  rw [e1, ht, arrV_store]
  congr 2
  funext q
  by_cases hq : q = x.toNatClampNeg
  · subst hq; simp [updV, u2]
  · simp [updV, u2, hq]
theorem j_zast (C : Cx p s m args meth c g nL own cc ret) {i n : Nat} {x v : Int32} (ht : sh.1 i = (11, n)) (hin : vp_in x n) (hz : narrow .boolean (.int v) = .int v) (hd : decode cc pc = .ok (.bastore, 1)) (kk : J p l e R s m args below meth c Q g nL sh (u2 N i x.toNatClampNeg (v)) cells slots (pc + 1) lv st) : J p l e R s m args below meth c Q g nL sh N cells slots pc lv (.int v :: .int x :: .ref (sh.2.2 i) :: st) := by
  intro H locs ls a b d
  have hc := (a.1 i).2.2.2.1 (by rw [ht])
  rw [ht] at hc
  have hle : (sh.1 i).1 ≤ 12 := by simp [ht]
  refine W.zast C.1 C.2.1 hc ((C.2.2.2.2.2.1.1.2 2 _ rfl).1 n (fun j => .int (N i j))) (fun q => by cases q) (by show ¬ (x < 0 ∨ (arrV _ _ _).slots.size ≤ _); rw [arrV_size]; exact hin) rfl rfl hd fun H1 e1 z1 oq => ?_
  rw [hz] at e1
  refine kk H1 _ ls (a.put hle rfl rfl (fun _ _ => rfl) (fun _ h => u2_row h) z1 oq ⟨fun t => absurd t (by show ¬ (sh.1 i).1 < 9; simp [ht]), fun t => absurd t (by show ¬ (sh.1 i).1 = 9; simp [ht]), fun t => absurd t (by show ¬ (sh.1 i).1 = 10; simp [ht]), fun t => ?_, fun t => absurd t (by show ¬ (sh.1 i).1 = 12; simp [ht])⟩) (b.put z1 oq (a.2.2 i hle).1) d
  show H1[sh.2.2 i]? = some (arrV _ (sh.1 i).2 _)
  rw [e1, ht, arrV_store]
  congr 2
  funext q
  by_cases hq : q = x.toNatClampNeg
  · subst hq; simp [updV, u2]
  · simp [updV, u2, hq]
theorem j_alen (C : Cx p s m args meth c g nL own cc ret) {i t n : Nat} (ht : sh.1 i = (t, n)) (ht9 : t = 9 ∨ t = 10 ∨ t = 11 ∨ t = 12) (hd : decode cc pc = .ok (.arraylength, 1)) (kk : J p l e R s m args below meth c Q g nL sh N cells slots (pc + 1) lv (.int (nI n) :: st)) : J p l e R s m args below meth c Q g nL sh N cells slots pc lv (.ref (sh.2.2 i) :: st) := by
  intro H locs ls a b d
  rcases ht9 with rfl | rfl | rfl | rfl
  · have hc := (a.1 i).2.1 (by rw [ht])
    rw [ht] at hc
    exact W.alen (n := nI n) C.1 C.2.1 hc ((C.2.2.2.2.2.1.1.2 0 _ rfl).1 n (fun j => .int (N i j))) (by rw [arrV_size]; rfl) rfl rfl hd (kk H locs ls a b d)
  · have hc := (a.1 i).2.2.1 (by rw [ht])
    rw [ht] at hc
    exact W.alen (n := nI n) C.1 C.2.1 hc ((C.2.2.2.2.2.1.1.2 1 _ rfl).1 n (fun j => .int (N i j))) (by rw [arrV_size]; rfl) rfl rfl hd (kk H locs ls a b d)
  · have hc := (a.1 i).2.2.2.1 (by rw [ht])
    rw [ht] at hc
    exact W.alen (n := nI n) C.1 C.2.1 hc ((C.2.2.2.2.2.1.1.2 2 _ rfl).1 n (fun j => .int (N i j))) (by rw [arrV_size]; rfl) rfl rfl hd (kk H locs ls a b d)
  · have hc := (a.1 i).2.2.2.2 (by rw [ht])
    rw [ht] at hc
    exact W.alen (n := nI n) C.1 C.2.1 hc ((C.2.2.2.2.2.1.1.2 3 _ rfl).1 n (fun j => va_rf ((sh.2.1 i j).map sh.2.2))) (by rw [arrV_size]; rfl) rfl rfl hd (kk H locs ls a b d)
theorem j_aald (C : Cx p s m args meth c g nL own cc ret) {i n j : Nat} {x : Int32} (ht : sh.1 i = (12, n)) (hin : vp_in x n) (hr : sh.2.1 i x.toNatClampNeg = some j) (hd : decode cc pc = .ok (.aaload, 1)) (kk : J p l e R s m args below meth c Q g nL sh N cells slots (pc + 1) lv (.ref (sh.2.2 j) :: st)) : J p l e R s m args below meth c Q g nL sh N cells slots pc lv (.int x :: .ref (sh.2.2 i) :: st) := by
  intro H locs ls a b d
  have hc := (a.1 i).2.2.2.2 (by rw [ht])
  rw [ht] at hc
  have hlt : x.toNatClampNeg < n := Nat.not_le.mp fun q => hin (Or.inr q)
  exact W.aald (v := .ref (sh.2.2 j)) C.1 C.2.1 hc ((C.2.2.2.2.2.1.1.2 3 _ rfl).1 n (fun j => va_rf ((sh.2.1 i j).map sh.2.2))) rfl (fun q => by cases q) (by show ¬ (x < 0 ∨ (arrV _ _ _).slots.size ≤ _); rw [arrV_size]; exact hin) (by show (arrV _ _ _).slots[_]? = _; rw [arrV_read _ _ hlt, hr]; rfl) rfl rfl hd (kk H locs ls a b d)
end Rows
end
section
abbrev RM (d c n : Nat) : Room := { frames := d, cells := c, slots := n, locals := 40 * d }
/-- a method's contract at one world: Qc says what comes of it -/
def CT (l : Launch) (g : WGp) (y : MethodName) (cc : ByteArray) (maxL : Nat) (ret : Option FieldType) (rm : Room) (av : List Value) (sh : WSh) (N : WNm) (Qc : Array Value → State → Outcome → State → Prop) : Prop :=
  Met l y (.code y cc maxL ret :: TBL) rm (va_Pc av (fun U => PIC g sh N U.heap ∧ KX g U)) Qc rm.cells rm.slots g.A
def QI (g : WGp) (post : Int32 → WSh → WNm → Prop) : Array Value → State → Outcome → State → Prop := va_Qi (fun r (u : WSh × WNm) => post r u.1 u.2) (fun u t => PIC g u.1 u.2 t.heap) g.A
def QV (g : WGp) (post : WSh → WNm → Prop) : Array Value → State → Outcome → State → Prop := va_Qv (fun (u : WSh × WNm) => post u.1 u.2) (fun u t => PIC g u.1 u.2 t.heap) g.A
def QR (g : WGp) (post : Option Nat → WSh → WNm → Prop) : Array Value → State → Outcome → State → Prop := va_Qq (fun r (u : WSh × WNm) => ∃ o : Option Nat, r = o.map u.1.2.2 ∧ post o u.1 u.2) (fun u t => PIC g u.1 u.2 t.heap) g.A
/-- the shape stays, the numbers become F, the answer is f -/
abbrev QF (g : WGp) (sh : WSh) (F : WNm) (f : Int32) : Array Value → State → Outcome → State → Prop := QI g (fun r sh1 N1 => sh1 = sh ∧ N1 = F ∧ r = f)
abbrev QFv (g : WGp) (sh : WSh) (F : WNm) : Array Value → State → Outcome → State → Prop := QV g (fun sh1 N1 => sh1 = sh ∧ N1 = F)
abbrev QFr (g : WGp) (sh : WSh) (F : WNm) (o : Option Nat) : Array Value → State → Outcome → State → Prop := QR g (fun o1 sh1 N1 => sh1 = sh ∧ N1 = F ∧ o1 = o)
def lvE0 : List Value → List (Option Value)
  | [] => []
  | v :: vs => if v.category = 2 then some v :: none :: lvE0 vs else some v :: lvE0 vs
def lvE (av : List Value) (n : Nat) : List (Option Value) := lvE0 av ++ List.replicate (n - (lvE0 av).length) none
theorem lvE0_args : ∀ (av : List Value) (i k : Nat) (v : Value), (lvE0 av)[k]? = some (some v) → (i + k, v) ∈ lv_args i av
  | [], i, k, v, h => by simp [lvE0] at h
  | w :: vs, i, k, v, h => by
    by_cases hc : w.category = 2
    · simp only [lvE0, hc, if_true] at h
      cases k with
      | zero => simp at h; subst h; simp [lv_args]
      | succ k =>
        cases k with
        | zero => simp at h
        | succ k =>
          simp only [List.getElem?_cons_succ] at h
          have := lvE0_args vs (i + 2) k v h
          simp only [lv_args, hc, if_true]
          refine List.mem_cons_of_mem _ ?_
          rw [show i + (k + 1 + 1) = i + 2 + k by omega]
          exact this
    · simp only [lvE0, hc, if_false] at h
      cases k with
      | zero => simp at h; subst h; simp [lv_args]
      | succ k =>
        simp only [List.getElem?_cons_succ] at h
        have := lvE0_args vs (i + 1) k v h
        simp only [lv_args, hc, if_false]
        refine List.mem_cons_of_mem _ ?_
        rw [show i + (k + 1) = i + 1 + k by omega]
        exact this
theorem lvE0_len : ∀ (av : List Value), (lvE0 av).length = (lg_sl av).length
  | [] => rfl
  | v :: vs => by
    have ih := lvE0_len vs
    by_cases hc : v.category = 2
    · simp [lvE0, lg_sl, hc] at ih ⊢; omega
    · simp [lvE0, lg_sl, hc] at ih ⊢; omega
theorem ent {l : Launch} {g : WGp} {y : MethodName} {cc : ByteArray} {maxL : Nat} {ret : Option FieldType} {rm : Room} {av : List Value} {sh : WSh} {N : WNm} {Qc : Array Value → State → Outcome → State → Prop} (hg : GOK g) (hy : plainName y.cls = true) (hlen : (lvE0 av).length ≤ maxL)
    (body : ∀ (p : Program) (e : Env) (s : State) (m : MethodId) (args : Array Value) (below : List Frame) (meth : Method) (c : Code), Cx p s m args meth c g maxL y.cls cc ret → meth.name = y.name → J p l e rm s m args below meth c (MQ below Qc args s rm.cells rm.slots g.A) g maxL sh N 0 0 0 (lvE av maxL) []) : CT l g y cc maxL ret rm av sh N Qc := by
  refine Met.ofW (cc := cc) (maxL := maxL) (ret := ret) hy rfl ?_
  intro p e s m args below meth c s₁ B hml hv
  obtain ⟨rfl, hP, hK⟩ := hv
  have hts := atoms_spec (ws := .code y cc maxL ret :: TBL) B.pre
  have hC : Cx p s m av.toArray meth c g maxL y.cls cc ret := ⟨B.exec, B.bytes, hml, findClass_of_methodNamed B.named, fun w hw => hts w (List.mem_cons_of_mem _ hw), hK, hg, B.returns, B.notSynchronized⟩
  have hl := lv_entry av (n := maxL) (by rw [← lvE0_len]; exact hlen)
  rw [lg_entry_eq]
  refine body p e s m av.toArray below meth c hC (name_of_methodNamed B.named B.method).1 s.heap [] _ hP va_S.rf ⟨hl.1, hl.2.1, fun k v hk => ?_⟩
  refine hl.2.2 (k, v) ?_
  have h2 : (lvE0 av)[k]? = some (some v) := by
    unfold lvE at hk
    by_cases hkl : k < (lvE0 av).length
    · rwa [List.getElem?_append_left hkl] at hk
    · rw [List.getElem?_append_right (by omega), List.getElem?_replicate] at hk
      split at hk
      · cases hk
      · cases hk
  have := lvE0_args av 0 k v h2
  rwa [Nat.zero_add] at this
theorem good_in {y : MethodName} {cc : ByteArray} {maxL : Nat} {ret : Option FieldType} (h : Cond.code y cc maxL ret ∈ TBL) : GoodIn TBL (.code y cc maxL ret :: TBL) := fun w hw => (List.mem_cons.mp hw).elim (fun e => by subst e; exact ⟨h, tbl_good h⟩) (fun h => ⟨h, tbl_good h⟩)
abbrev NoMH (y : MethodName) (n : Nat) : Prop := y.cls ≠ "java/lang/invoke/MethodHandle" ∧ y.cls ≠ "java/lang/invoke/VarHandle" ∧ (parseMethodDescriptor y.desc).map (fun d => d.parameters.length) = some n
/-- what links a call: of an instance's method, of a static one, of a constructor -/
def MV (own : String) (idx : Nat) (y : MethodName) (cc : ByteArray) (maxL : Nat) (ret : Option FieldType) (n : Nat) : Prop := Cond.methodLink own idx y ∈ TBL ∧ Cond.instanceMethod y ∈ TBL ∧ Cond.selects y.cls y y ∈ TBL ∧ Cond.initialized y.cls ∈ TBL ∧ Cond.code y cc maxL ret ∈ TBL ∧ NoMH y n
def MS (own : String) (idx : Nat) (y : MethodName) (cc : ByteArray) (maxL : Nat) (ret : Option FieldType) (n : Nat) : Prop := Cond.methodLink own idx y ∈ TBL ∧ Cond.static y ∈ TBL ∧ Cond.initialized y.cls ∈ TBL ∧ Cond.code y cc maxL ret ∈ TBL ∧ NoMH y n
def MI (own : String) (idx : Nat) (y : MethodName) (cc : ByteArray) (maxL : Nat) (n : Nat) : Prop := Cond.methodLink own idx y ∈ TBL ∧ Cond.instanceMethod y ∈ TBL ∧ Cond.initialized y.cls ∈ TBL ∧ Cond.code y cc maxL none ∈ TBL ∧ y.name = "<init>" ∧ NoMH y n
def MSN (host own : String) (idx : Nat) (y : MethodName) (cc : ByteArray) (maxL : Nat) (ret : Option FieldType) (n : Nat) (g : WGp) : Prop := (∀ U H, g.X U H → va_Nw (.methodLinkNest own idx y host) U) ∧ Cond.static y ∈ TBL ∧ Cond.initialized y.cls ∈ TBL ∧ Cond.code y cc maxL ret ∈ TBL ∧ NoMH y n
def MIN (host own : String) (idx : Nat) (y : MethodName) (cc : ByteArray) (maxL : Nat) (n : Nat) (g : WGp) : Prop := (∀ U H, g.X U H → va_Nw (.methodLinkNest own idx y host) U) ∧ Cond.instanceMethod y ∈ TBL ∧ Cond.initialized y.cls ∈ TBL ∧ Cond.code y cc maxL none ∈ TBL ∧ y.name = "<init>" ∧ NoMH y n
theorem MV.of {own : String} {idx : Nat} {y : MethodName} {cc : ByteArray} {maxL : Nat} {ret : Option FieldType} {n : Nat} (a b d f h : Nat) (h1 : lw_tbl[a]? = some (Cond.methodLink own idx y)) (h2 : lw_tbl[b]? = some (Cond.instanceMethod y)) (h3 : lw_tbl[d]? = some (Cond.selects y.cls y y)) (h4 : lw_tbl[f]? = some (Cond.initialized y.cls)) (h5 : lw_tbl[h]? = some (Cond.code y cc maxL ret)) (h6 : NoMH y n) : MV own idx y cc maxL ret n := ⟨tbl_in a h1 rfl, tbl_in b h2 rfl, tbl_in d h3 rfl, tbl_in f h4 rfl, tbl_in h h5 rfl, h6⟩
theorem MS.of {own : String} {idx : Nat} {y : MethodName} {cc : ByteArray} {maxL : Nat} {ret : Option FieldType} {n : Nat} (a b f h : Nat) (h1 : lw_tbl[a]? = some (Cond.methodLink own idx y)) (h2 : lw_tbl[b]? = some (Cond.static y)) (h4 : lw_tbl[f]? = some (Cond.initialized y.cls)) (h5 : lw_tbl[h]? = some (Cond.code y cc maxL ret)) (h6 : NoMH y n) : MS own idx y cc maxL ret n := ⟨tbl_in a h1 rfl, tbl_in b h2 rfl, tbl_in f h4 rfl, tbl_in h h5 rfl, h6⟩
theorem MI.of {own : String} {idx : Nat} {y : MethodName} {cc : ByteArray} {maxL : Nat} {n : Nat} (a b f h : Nat) (h1 : lw_tbl[a]? = some (Cond.methodLink own idx y)) (h2 : lw_tbl[b]? = some (Cond.instanceMethod y)) (h4 : lw_tbl[f]? = some (Cond.initialized y.cls)) (h5 : lw_tbl[h]? = some (Cond.code y cc maxL none)) (h7 : y.name = "<init>") (h6 : NoMH y n) : MI own idx y cc maxL n := ⟨tbl_in a h1 rfl, tbl_in b h2 rfl, tbl_in f h4 rfl, tbl_in h h5 rfl, h7, h6⟩
theorem MSN.of {host own : String} {idx : Nat} {y : MethodName} {cc : ByteArray} {maxL : Nat} {ret : Option FieldType} {n : Nat} {g : WGp} (b f h : Nat) (h2 : lw_tbl[b]? = some (Cond.static y)) (h4 : lw_tbl[f]? = some (Cond.initialized y.cls)) (h5 : lw_tbl[h]? = some (Cond.code y cc maxL ret)) (h6 : NoMH y n) (h1 : ∀ U H, g.X U H → va_Nw (.methodLinkNest own idx y host) U) : MSN host own idx y cc maxL ret n g := ⟨h1, tbl_in b h2 rfl, tbl_in f h4 rfl, tbl_in h h5 rfl, h6⟩
theorem MIN.of {host own : String} {idx : Nat} {y : MethodName} {cc : ByteArray} {maxL : Nat} {n : Nat} {g : WGp} (b f h : Nat) (h2 : lw_tbl[b]? = some (Cond.instanceMethod y)) (h4 : lw_tbl[f]? = some (Cond.initialized y.cls)) (h5 : lw_tbl[h]? = some (Cond.code y cc maxL none)) (h7 : y.name = "<init>") (h6 : NoMH y n) (h1 : ∀ U H, g.X U H → va_Nw (.methodLinkNest own idx y host) U) : MIN host own idx y cc maxL n g := ⟨h1, tbl_in b h2 rfl, tbl_in f h4 rfl, tbl_in h h5 rfl, h7, h6⟩
section Calls
variable {p : Program} {l : Launch} {e : Env} {R : Room} {s : State} {m : MethodId} {args : Array Value} {below : List Frame} {meth : Method} {c : Code} {Q : State → Prop} {g : WGp} {nL : Nat} {own : String} {cc : ByteArray} {ret : Option FieldType}
variable {sh : WSh} {N : WNm} {cells slots pc : Nat} {lv : List (Option Value)} {st : List Value}
theorem j_iret {ty : FieldType} {post : Int32 → WSh → WNm → Prop} {v : Int32} (C : Cx p s m args meth c g nL own cc (some ty)) (hd : decode cc pc = .ok (.ireturn, 1)) (hn : narrow ty (.int v) = .int v) (hq : post v sh N) : J p l e R s m args below meth c (MQ below (QI g post) args s cells slots g.A) g nL sh N cells slots pc lv [.int v] := fun H locs ls a b d => W.zret C.1 C.2.1 C.2.2.2.2.2.2.2.1 hn (fun t ht _ => ⟨⟨v, (sh, N), rfl, hq, (show PIC g sh N t.heap by rw [ht]; exact a)⟩, b.F ht⟩) b.2.2 hd (hlocks := C.2.2.2.2.2.2.2.2)
theorem j_vret {post : WSh → WNm → Prop} (C : Cx p s m args meth c g nL own cc none) (hd : decode cc pc = .ok (.return_, 1)) (hq : post sh N) : J p l e R s m args below meth c (MQ below (QV g post) args s cells slots g.A) g nL sh N cells slots pc lv [] := fun H locs ls a b d => W.vret C.1 C.2.1 C.2.2.2.2.2.2.2.1 (fun t ht _ => ⟨⟨(sh, N), rfl, hq, (show PIC g sh N t.heap by rw [ht]; exact a)⟩, b.F ht⟩) b.2.2 hd (hlocks := C.2.2.2.2.2.2.2.2)
theorem j_aret {ty : FieldType} {post : Option Nat → WSh → WNm → Prop} {i : Nat} (C : Cx p s m args meth c g nL own cc (some ty)) (hd : decode cc pc = .ok (.areturn, 1)) (hty : (∃ n, ty = .object n) ∨ ∃ t, ty = .array t) (hq : post (some i) sh N) : J p l e R s m args below meth c (MQ below (QR g post) args s cells slots g.A) g nL sh N cells slots pc lv [.ref (sh.2.2 i)] := fun H locs ls a b d => W.aret C.1 C.2.1 C.2.2.2.2.2.2.2.1 hty (Or.inr ⟨_, rfl⟩) (fun t ht _ => ⟨⟨some (sh.2.2 i), (sh, N), rfl, ⟨some i, rfl, hq⟩, (show PIC g sh N t.heap by rw [ht]; exact a)⟩, b.F ht⟩) b.2.2 hd (hlocks := C.2.2.2.2.2.2.2.2)
theorem j_aretN {ty : FieldType} {post : Option Nat → WSh → WNm → Prop} (C : Cx p s m args meth c g nL own cc (some ty)) (hd : decode cc pc = .ok (.areturn, 1)) (hty : (∃ n, ty = .object n) ∨ ∃ t, ty = .array t) (hq : post none sh N) : J p l e R s m args below meth c (MQ below (QR g post) args s cells slots g.A) g nL sh N cells slots pc lv [.null] := fun H locs ls a b d => W.aret C.1 C.2.1 C.2.2.2.2.2.2.2.1 hty (Or.inl rfl) (fun t ht _ => ⟨⟨none, (sh, N), rfl, ⟨none, rfl, hq⟩, (show PIC g sh N t.heap by rw [ht]; exact a)⟩, b.F ht⟩) b.2.2 hd (hlocks := C.2.2.2.2.2.2.2.2)
theorem pic_recv (C : Cx p s m args meth c g nL own cc ret) {H : Heap} {i : Nat} {K : String} (a : PIC g sh N H) (ht : (sh.1 i).1 < 9 ∧ RR (sh.1 i).1 = K) : ∃ cell : Cell, H[sh.2.2 i]? = some cell ∧ cell.vm.isStatics = false ∧ s.vm.findClass K = some cell.cls := by
  obtain ⟨cell, q1, q2, q3, q4⟩ := (a.1 i).1 ht.1
  obtain ⟨hS, hfc, -⟩ := C.2.2.2.2.2.1.1.1 _ _ (CL_at ht.1)
  exact ⟨cell, q1, by rw [q3]; rfl, by rw [q2, ← ht.2]; exact hfc⟩
theorem pc_blind (hg : GOK g) (av : List Value) (sh : WSh) (N : WNm) : FrameBlind (va_Pc av (fun U => PIC g sh N U.heap ∧ KX g U)) := fun a U g1 mk q => ⟨q.1, q.2.1, va_K.moved (u := U) (U := U.calling g1 mk a) (Vm.Alike.refl U.vm) q.2.2.1, hg U (U.calling g1 mk a) U.heap _ (State.WarmedH.refl U) (Nat.le_refl _) (fun _ _ _ => rfl) q.2.2.2.1, q.2.2.2.2⟩
theorem run_V (C : Cx p s m args meth c g nL own cc ret) {idx n maxL1 : Nat} {b : Addr}  {y : MethodName} {cc1 : ByteArray} {ret1 : Option FieldType} {rm1 : Room} {As rest : List Value} {Qc : Array Value → State → Outcome → State → Prop} {H : Heap} {locs : List Loc} {ls : Array Slot} (hl : MV own idx y cc1 maxL1 ret1 n) (hd : decode cc pc = .ok (.invokevirtual idx, 3)) (hM : CT l g y cc1 maxL1 ret1 rm1 (.ref b :: As) sh N Qc) (hn : As.length = n) (hR : rm1.frames + 1 ≤ R.frames ∧ 8 + (maxL1 + 11) + rm1.locals ≤ R.locals) (hcat : (rest.map fun v => v.category).sum ≤ 8) (hf : cells + rm1.cells ≤ R.cells ∧ slots + rm1.slots ≤ R.slots) (a : PIC g sh N H) (hS : va_S g.A s.heap H locs) (hls : ls.size = nL) (hr : ∃ cell : Cell, H[b]? = some cell ∧ cell.vm.isStatics = false ∧ s.vm.findClass y.cls = some cell.cls) : va_Run p l e R s m args below meth c H locs cells slots rm1.cells rm1.slots (F0 m pc ls (As.reverse ++ .ref b :: rest)) rest (Qc (.ref b :: As).toArray) g.A := by
  have hts := C.2.2.2.2.1
  have hpre : ∀ U : State, U.heap = H → s.WarmedH U.vm → va_Pc (.ref b :: As) (fun U => PIC g sh N U.heap ∧ KX g U) (.ref b :: As).toArray U := fun U hU hW => ⟨rfl, by rw [hU]; exact a, C.2.2.2.2.2.1.moved C.2.2.2.2.2.2.1 hW hU hS⟩
  have hbl := pc_blind C.2.2.2.2.2.2.1 (.ref b :: As) sh N
  obtain ⟨h1, h2, h3, h4, h5, h6⟩ := hl
  exact va_runV ⟨C.1, C.2.1, C.2.2.1, C.2.2.2.1, hts⟩ hM ⟨callB_of n hts (good_in h5) rfl rfl rfl (hts _ h4) (hts _ h1) h6 hR, hts _ h2, hts _ h3⟩ ⟨hbl, hr, hpre⟩ rfl hn hls rfl (lv_room hcat) hd hf
theorem run_S (C : Cx p s m args meth c g nL own cc ret) {idx n maxL1 : Nat}   {y : MethodName} {cc1 : ByteArray} {ret1 : Option FieldType} {rm1 : Room} {As rest : List Value} {Qc : Array Value → State → Outcome → State → Prop} {H : Heap} {locs : List Loc} {ls : Array Slot} (hl : MS own idx y cc1 maxL1 ret1 n) (hd : decode cc pc = .ok (.invokestatic idx, 3)) (hM : CT l g y cc1 maxL1 ret1 rm1 As sh N Qc) (hn : As.length = n) (hR : rm1.frames + 1 ≤ R.frames ∧ 8 + (maxL1 + 11) + rm1.locals ≤ R.locals) (hcat : (rest.map fun v => v.category).sum ≤ 8) (hf : cells + rm1.cells ≤ R.cells ∧ slots + rm1.slots ≤ R.slots) (a : PIC g sh N H) (hS : va_S g.A s.heap H locs) (hls : ls.size = nL)  : va_Run p l e R s m args below meth c H locs cells slots rm1.cells rm1.slots (F0 m pc ls (As.reverse ++ rest)) rest (Qc As.toArray) g.A := by
  have hts := C.2.2.2.2.1
  have hpre : ∀ U : State, U.heap = H → s.WarmedH U.vm → va_Pc As (fun U => PIC g sh N U.heap ∧ KX g U) As.toArray U := fun U hU hW => ⟨rfl, by rw [hU]; exact a, C.2.2.2.2.2.1.moved C.2.2.2.2.2.2.1 hW hU hS⟩
  have hbl := pc_blind C.2.2.2.2.2.2.1 As sh N
  obtain ⟨h1, h2, h4, h5, h6⟩ := hl
  exact va_runS ⟨C.1, C.2.1, C.2.2.1, C.2.2.2.1, hts⟩ hM ⟨callB_of n hts (good_in h5) rfl rfl rfl (hts _ h4) (hts _ h1) h6 hR, hts _ h2⟩ ⟨hbl, hpre⟩ rfl hn hls rfl (lv_room hcat) hd hf
theorem run_I (C : Cx p s m args meth c g nL own cc ret) {idx n maxL1 : Nat} {b : Addr}  {y : MethodName} {cc1 : ByteArray}  {rm1 : Room} {As rest : List Value} {Qc : Array Value → State → Outcome → State → Prop} {H : Heap} {locs : List Loc} {ls : Array Slot} (hl : MI own idx y cc1 maxL1 n) (hd : decode cc pc = .ok (.invokespecial idx, 3)) (hM : CT l g y cc1 maxL1 none rm1 (.ref b :: As) sh N Qc) (hn : As.length = n) (hR : rm1.frames + 1 ≤ R.frames ∧ 8 + (maxL1 + 11) + rm1.locals ≤ R.locals) (hcat : (rest.map fun v => v.category).sum ≤ 8) (hf : cells + rm1.cells ≤ R.cells ∧ slots + rm1.slots ≤ R.slots) (a : PIC g sh N H) (hS : va_S g.A s.heap H locs) (hls : ls.size = nL)  : va_Run p l e R s m args below meth c H locs cells slots rm1.cells rm1.slots (F0 m pc ls (As.reverse ++ .ref b :: rest)) rest (Qc (.ref b :: As).toArray) g.A := by
  have hts := C.2.2.2.2.1
  have hpre : ∀ U : State, U.heap = H → s.WarmedH U.vm → va_Pc (.ref b :: As) (fun U => PIC g sh N U.heap ∧ KX g U) (.ref b :: As).toArray U := fun U hU hW => ⟨rfl, by rw [hU]; exact a, C.2.2.2.2.2.1.moved C.2.2.2.2.2.2.1 hW hU hS⟩
  have hbl := pc_blind C.2.2.2.2.2.2.1 (.ref b :: As) sh N
  obtain ⟨h1, h2, h4, h5, h7, h6⟩ := hl
  exact va_runI ⟨C.1, C.2.1, C.2.2.1, C.2.2.2.1, hts⟩ hM ⟨callB_of n hts (good_in h5) rfl rfl rfl (hts _ h4) (hts _ h1) h6 hR, h7, hts _ h2⟩ ⟨hbl, hpre⟩ rfl hn hls rfl (lv_room hcat) hd hf
theorem run_SN (C : Cx p s m args meth c g nL own cc ret) {idx n maxL1 : Nat}  {host : String} {y : MethodName} {cc1 : ByteArray} {ret1 : Option FieldType} {rm1 : Room} {As rest : List Value} {Qc : Array Value → State → Outcome → State → Prop} {H : Heap} {locs : List Loc} {ls : Array Slot} (hl : MSN host own idx y cc1 maxL1 ret1 n g) (hd : decode cc pc = .ok (.invokestatic idx, 3)) (hM : CT l g y cc1 maxL1 ret1 rm1 As sh N Qc) (hn : As.length = n) (hR : rm1.frames + 1 ≤ R.frames ∧ 8 + (maxL1 + 11) + rm1.locals ≤ R.locals) (hcat : (rest.map fun v => v.category).sum ≤ 8) (hf : cells + rm1.cells ≤ R.cells ∧ slots + rm1.slots ≤ R.slots) (a : PIC g sh N H) (hS : va_S g.A s.heap H locs) (hls : ls.size = nL)  : va_Run p l e R s m args below meth c H locs cells slots rm1.cells rm1.slots (F0 m pc ls (As.reverse ++ rest)) rest (Qc As.toArray) g.A := by
  have hts := C.2.2.2.2.1
  have hpre : ∀ U : State, U.heap = H → s.WarmedH U.vm → va_Pc As (fun U => PIC g sh N U.heap ∧ KX g U) As.toArray U := fun U hU hW => ⟨rfl, by rw [hU]; exact a, C.2.2.2.2.2.1.moved C.2.2.2.2.2.2.1 hW hU hS⟩
  have hbl := pc_blind C.2.2.2.2.2.2.1 As sh N
  obtain ⟨h1, h2, h4, h5, h6⟩ := hl
  exact va_runSN (host := host) ⟨C.1, C.2.1, C.2.2.1, C.2.2.2.1, hts⟩ hM ⟨va_cnB n hts (good_in h5) rfl rfl rfl (h1 _ _ C.2.2.2.2.2.1.2.1) (hts _ h4) h6 hR, hts _ h2, trivial⟩ ⟨hbl, hpre⟩ rfl hn hls rfl (lv_room hcat) hd hf
theorem run_IN (C : Cx p s m args meth c g nL own cc ret) {idx n maxL1 : Nat} {b : Addr} {host : String} {y : MethodName} {cc1 : ByteArray}  {rm1 : Room} {As rest : List Value} {Qc : Array Value → State → Outcome → State → Prop} {H : Heap} {locs : List Loc} {ls : Array Slot} (hl : MIN host own idx y cc1 maxL1 n g) (hd : decode cc pc = .ok (.invokespecial idx, 3)) (hM : CT l g y cc1 maxL1 none rm1 (.ref b :: As) sh N Qc) (hn : As.length = n) (hR : rm1.frames + 1 ≤ R.frames ∧ 8 + (maxL1 + 11) + rm1.locals ≤ R.locals) (hcat : (rest.map fun v => v.category).sum ≤ 8) (hf : cells + rm1.cells ≤ R.cells ∧ slots + rm1.slots ≤ R.slots) (a : PIC g sh N H) (hS : va_S g.A s.heap H locs) (hls : ls.size = nL)  : va_Run p l e R s m args below meth c H locs cells slots rm1.cells rm1.slots (F0 m pc ls (As.reverse ++ .ref b :: rest)) rest (Qc (.ref b :: As).toArray) g.A := by
  have hts := C.2.2.2.2.1
  have hpre : ∀ U : State, U.heap = H → s.WarmedH U.vm → va_Pc (.ref b :: As) (fun U => PIC g sh N U.heap ∧ KX g U) (.ref b :: As).toArray U := fun U hU hW => ⟨rfl, by rw [hU]; exact a, C.2.2.2.2.2.1.moved C.2.2.2.2.2.2.1 hW hU hS⟩
  have hbl := pc_blind C.2.2.2.2.2.2.1 (.ref b :: As) sh N
  obtain ⟨h1, h2, h4, h5, h7, h6⟩ := hl
  exact va_runIN (host := host) ⟨C.1, C.2.1, C.2.2.1, C.2.2.2.1, hts⟩ hM ⟨va_cnB n hts (good_in h5) rfl rfl rfl (h1 _ _ C.2.2.2.2.2.1.2.1) (hts _ h4) h6 hR, h7, hts _ h2⟩ ⟨hbl, hpre⟩ rfl hn hls rfl (lv_room hcat) hd hf
theorem j_callV0I (C : Cx p s m args meth c g nL own cc ret) {idx maxL1 : Nat} {i : Nat}  {y : MethodName} {cc1 : ByteArray} {ret1 : Option FieldType} {rm1 : Room}  {rest : List Value} {F : WNm} {f : Int32} (hl : MV own idx y cc1 maxL1 ret1 0) (hd : decode cc pc = .ok (.invokevirtual idx, 3)) (hM : CT l g y cc1 maxL1 ret1 rm1 (.ref (sh.2.2 i) :: []) sh N (QF g sh F f)) (ht : (sh.1 i).1 < 9 ∧ RR (sh.1 i).1 = y.cls) (hR : rm1.frames + 1 ≤ R.frames ∧ 8 + (maxL1 + 11) + rm1.locals ≤ R.locals) (hcat : (rest.map fun v => v.category).sum ≤ 8) (h0 : rm1.cells = 0 ∧ rm1.slots = 0) (hf : cells ≤ R.cells ∧ slots ≤ R.slots) (kk : J p l e R s m args below meth c Q g nL sh F cells slots (pc + 3) lv (.int f :: rest)) : J p l e R s m args below meth c Q g nL sh N cells slots pc lv (.ref (sh.2.2 i) :: rest) := by
  intro H locs ls a b d
  refine va_calli (run_V (As := []) (rest := rest) C hl hd hM rfl hR hcat (by rw [h0.1, h0.2]; exact hf) a b d.1 (pic_recv C a ht)) b (fun _ _ h => h) (fun _ h => h) (fun r u t H1 locs1 e1 _ hp hb _ _ hS => ?_)
  obtain ⟨z1, z2, z3⟩ := hp
  rw [h0.1, h0.2, z3]
  rw [z1, z2, e1] at hb
  exact kk H1 locs1 ls hb hS d
theorem j_callV0Ig (C : Cx p s m args meth c g nL own cc ret) {idx maxL1 : Nat} {i : Nat}  {y : MethodName} {cc1 : ByteArray} {ret1 : Option FieldType} {rm1 : Room}  {rest : List Value} {post : Int32 → WSh → WNm → Prop} {c1 s1 : Nat} (hl : MV own idx y cc1 maxL1 ret1 0) (hd : decode cc pc = .ok (.invokevirtual idx, 3)) (hM : CT l g y cc1 maxL1 ret1 rm1 (.ref (sh.2.2 i) :: []) sh N (QI g post)) (ht : (sh.1 i).1 < 9 ∧ RR (sh.1 i).1 = y.cls) (hR : rm1.frames + 1 ≤ R.frames ∧ 8 + (maxL1 + 11) + rm1.locals ≤ R.locals) (hcat : (rest.map fun v => v.category).sum ≤ 8) (h0 : cells + rm1.cells = c1 ∧ slots + rm1.slots = s1) (hf : c1 ≤ R.cells ∧ s1 ≤ R.slots) (kk : ∀ (r : Int32) (sh1 : WSh) (N1 : WNm), post r sh1 N1 → J p l e R s m args below meth c Q g nL sh1 N1 c1 s1 (pc + 3) lv (.int r :: rest)) : J p l e R s m args below meth c Q g nL sh N cells slots pc lv (.ref (sh.2.2 i) :: rest) := by
  intro H locs ls a b d
  refine va_calli (run_V (As := []) (rest := rest) C hl hd hM rfl hR hcat (by rw [h0.1, h0.2]; exact hf) a b d.1 (pic_recv C a ht)) b (fun _ _ h => h) (fun _ h => h) (fun r u t H1 locs1 e1 _ hp hb _ _ hS => ?_)
  rw [h0.1, h0.2]
  rw [e1] at hb
  exact kk r u.1 u.2 hp H1 locs1 ls hb hS d
theorem j_callV0Rg (C : Cx p s m args meth c g nL own cc ret) {idx maxL1 : Nat} {i : Nat}  {y : MethodName} {cc1 : ByteArray} {ret1 : Option FieldType} {rm1 : Room}  {rest : List Value} {post : Option Nat → WSh → WNm → Prop} {c1 s1 : Nat} (hl : MV own idx y cc1 maxL1 ret1 0) (hd : decode cc pc = .ok (.invokevirtual idx, 3)) (hM : CT l g y cc1 maxL1 ret1 rm1 (.ref (sh.2.2 i) :: []) sh N (QR g post)) (ht : (sh.1 i).1 < 9 ∧ RR (sh.1 i).1 = y.cls) (hR : rm1.frames + 1 ≤ R.frames ∧ 8 + (maxL1 + 11) + rm1.locals ≤ R.locals) (hcat : (rest.map fun v => v.category).sum ≤ 8) (h0 : cells + rm1.cells = c1 ∧ slots + rm1.slots = s1) (hf : c1 ≤ R.cells ∧ s1 ≤ R.slots) (kk : ∀ (o : Option Nat) (sh1 : WSh) (N1 : WNm), post o sh1 N1 → J p l e R s m args below meth c Q g nL sh1 N1 c1 s1 (pc + 3) lv (va_rf (o.map sh1.2.2) :: rest)) : J p l e R s m args below meth c Q g nL sh N cells slots pc lv (.ref (sh.2.2 i) :: rest) := by
  intro H locs ls a b d
  refine va_callq (run_V (As := []) (rest := rest) C hl hd hM rfl hR hcat (by rw [h0.1, h0.2]; exact hf) a b d.1 (pic_recv C a ht)) b (fun _ _ h => h) (fun _ h => h) (fun r u t H1 locs1 e1 _ hp hb _ _ hS => ?_)
  obtain ⟨o1, z1, z2⟩ := hp
  rw [h0.1, h0.2, z1]
  rw [e1] at hb
  exact kk o1 u.1 u.2 z2 H1 locs1 ls hb hS d
theorem j_callV0V (C : Cx p s m args meth c g nL own cc ret) {idx maxL1 : Nat} {i : Nat}  {y : MethodName} {cc1 : ByteArray} {ret1 : Option FieldType} {rm1 : Room}  {rest : List Value} {F : WNm} (hl : MV own idx y cc1 maxL1 ret1 0) (hd : decode cc pc = .ok (.invokevirtual idx, 3)) (hM : CT l g y cc1 maxL1 ret1 rm1 (.ref (sh.2.2 i) :: []) sh N (QFv g sh F)) (ht : (sh.1 i).1 < 9 ∧ RR (sh.1 i).1 = y.cls) (hR : rm1.frames + 1 ≤ R.frames ∧ 8 + (maxL1 + 11) + rm1.locals ≤ R.locals) (hcat : (rest.map fun v => v.category).sum ≤ 8) (h0 : rm1.cells = 0 ∧ rm1.slots = 0) (hf : cells ≤ R.cells ∧ slots ≤ R.slots) (kk : J p l e R s m args below meth c Q g nL sh F cells slots (pc + 3) lv rest) : J p l e R s m args below meth c Q g nL sh N cells slots pc lv (.ref (sh.2.2 i) :: rest) := by
  intro H locs ls a b d
  refine va_callv (run_V (As := []) (rest := rest) C hl hd hM rfl hR hcat (by rw [h0.1, h0.2]; exact hf) a b d.1 (pic_recv C a ht)) b (fun _ _ h => h) (fun _ h => h) (fun u t H1 locs1 e1 _ hp hb _ _ hS => ?_)
  obtain ⟨z1, z2⟩ := hp
  rw [h0.1, h0.2]
  rw [z1, z2, e1] at hb
  exact kk H1 locs1 ls hb hS d
theorem j_callV0Vg (C : Cx p s m args meth c g nL own cc ret) {idx maxL1 : Nat} {i : Nat}  {y : MethodName} {cc1 : ByteArray} {ret1 : Option FieldType} {rm1 : Room}  {rest : List Value} {post : WSh → WNm → Prop} {c1 s1 : Nat} (hl : MV own idx y cc1 maxL1 ret1 0) (hd : decode cc pc = .ok (.invokevirtual idx, 3)) (hM : CT l g y cc1 maxL1 ret1 rm1 (.ref (sh.2.2 i) :: []) sh N (QV g post)) (ht : (sh.1 i).1 < 9 ∧ RR (sh.1 i).1 = y.cls) (hR : rm1.frames + 1 ≤ R.frames ∧ 8 + (maxL1 + 11) + rm1.locals ≤ R.locals) (hcat : (rest.map fun v => v.category).sum ≤ 8) (h0 : cells + rm1.cells = c1 ∧ slots + rm1.slots = s1) (hf : c1 ≤ R.cells ∧ s1 ≤ R.slots) (kk : ∀ (sh1 : WSh) (N1 : WNm), post sh1 N1 → J p l e R s m args below meth c Q g nL sh1 N1 c1 s1 (pc + 3) lv rest) : J p l e R s m args below meth c Q g nL sh N cells slots pc lv (.ref (sh.2.2 i) :: rest) := by
  intro H locs ls a b d
  refine va_callv (run_V (As := []) (rest := rest) C hl hd hM rfl hR hcat (by rw [h0.1, h0.2]; exact hf) a b d.1 (pic_recv C a ht)) b (fun _ _ h => h) (fun _ h => h) (fun u t H1 locs1 e1 _ hp hb _ _ hS => ?_)
  rw [h0.1, h0.2]
  rw [e1] at hb
  exact kk u.1 u.2 hp H1 locs1 ls hb hS d
theorem j_callV1I (C : Cx p s m args meth c g nL own cc ret) {idx maxL1 : Nat} {i : Nat}  {y : MethodName} {cc1 : ByteArray} {ret1 : Option FieldType} {rm1 : Room} {a1 : Value} {rest : List Value} {F : WNm} {f : Int32} (hl : MV own idx y cc1 maxL1 ret1 1) (hd : decode cc pc = .ok (.invokevirtual idx, 3)) (hM : CT l g y cc1 maxL1 ret1 rm1 (.ref (sh.2.2 i) :: [a1]) sh N (QF g sh F f)) (ht : (sh.1 i).1 < 9 ∧ RR (sh.1 i).1 = y.cls) (hR : rm1.frames + 1 ≤ R.frames ∧ 8 + (maxL1 + 11) + rm1.locals ≤ R.locals) (hcat : (rest.map fun v => v.category).sum ≤ 8) (h0 : rm1.cells = 0 ∧ rm1.slots = 0) (hf : cells ≤ R.cells ∧ slots ≤ R.slots) (kk : J p l e R s m args below meth c Q g nL sh F cells slots (pc + 3) lv (.int f :: rest)) : J p l e R s m args below meth c Q g nL sh N cells slots pc lv (a1 :: .ref (sh.2.2 i) :: rest) := by
  intro H locs ls a b d
  refine va_calli (run_V (As := [a1]) (rest := rest) C hl hd hM rfl hR hcat (by rw [h0.1, h0.2]; exact hf) a b d.1 (pic_recv C a ht)) b (fun _ _ h => h) (fun _ h => h) (fun r u t H1 locs1 e1 _ hp hb _ _ hS => ?_)
  obtain ⟨z1, z2, z3⟩ := hp
  rw [h0.1, h0.2, z3]
  rw [z1, z2, e1] at hb
  exact kk H1 locs1 ls hb hS d
theorem j_callV1Ig (C : Cx p s m args meth c g nL own cc ret) {idx maxL1 : Nat} {i : Nat}  {y : MethodName} {cc1 : ByteArray} {ret1 : Option FieldType} {rm1 : Room} {a1 : Value} {rest : List Value} {post : Int32 → WSh → WNm → Prop} {c1 s1 : Nat} (hl : MV own idx y cc1 maxL1 ret1 1) (hd : decode cc pc = .ok (.invokevirtual idx, 3)) (hM : CT l g y cc1 maxL1 ret1 rm1 (.ref (sh.2.2 i) :: [a1]) sh N (QI g post)) (ht : (sh.1 i).1 < 9 ∧ RR (sh.1 i).1 = y.cls) (hR : rm1.frames + 1 ≤ R.frames ∧ 8 + (maxL1 + 11) + rm1.locals ≤ R.locals) (hcat : (rest.map fun v => v.category).sum ≤ 8) (h0 : cells + rm1.cells = c1 ∧ slots + rm1.slots = s1) (hf : c1 ≤ R.cells ∧ s1 ≤ R.slots) (kk : ∀ (r : Int32) (sh1 : WSh) (N1 : WNm), post r sh1 N1 → J p l e R s m args below meth c Q g nL sh1 N1 c1 s1 (pc + 3) lv (.int r :: rest)) : J p l e R s m args below meth c Q g nL sh N cells slots pc lv (a1 :: .ref (sh.2.2 i) :: rest) := by
  intro H locs ls a b d
  refine va_calli (run_V (As := [a1]) (rest := rest) C hl hd hM rfl hR hcat (by rw [h0.1, h0.2]; exact hf) a b d.1 (pic_recv C a ht)) b (fun _ _ h => h) (fun _ h => h) (fun r u t H1 locs1 e1 _ hp hb _ _ hS => ?_)
  rw [h0.1, h0.2]
  rw [e1] at hb
  exact kk r u.1 u.2 hp H1 locs1 ls hb hS d
theorem j_callV1Rg (C : Cx p s m args meth c g nL own cc ret) {idx maxL1 : Nat} {i : Nat}  {y : MethodName} {cc1 : ByteArray} {ret1 : Option FieldType} {rm1 : Room} {a1 : Value} {rest : List Value} {post : Option Nat → WSh → WNm → Prop} {c1 s1 : Nat} (hl : MV own idx y cc1 maxL1 ret1 1) (hd : decode cc pc = .ok (.invokevirtual idx, 3)) (hM : CT l g y cc1 maxL1 ret1 rm1 (.ref (sh.2.2 i) :: [a1]) sh N (QR g post)) (ht : (sh.1 i).1 < 9 ∧ RR (sh.1 i).1 = y.cls) (hR : rm1.frames + 1 ≤ R.frames ∧ 8 + (maxL1 + 11) + rm1.locals ≤ R.locals) (hcat : (rest.map fun v => v.category).sum ≤ 8) (h0 : cells + rm1.cells = c1 ∧ slots + rm1.slots = s1) (hf : c1 ≤ R.cells ∧ s1 ≤ R.slots) (kk : ∀ (o : Option Nat) (sh1 : WSh) (N1 : WNm), post o sh1 N1 → J p l e R s m args below meth c Q g nL sh1 N1 c1 s1 (pc + 3) lv (va_rf (o.map sh1.2.2) :: rest)) : J p l e R s m args below meth c Q g nL sh N cells slots pc lv (a1 :: .ref (sh.2.2 i) :: rest) := by
  intro H locs ls a b d
  refine va_callq (run_V (As := [a1]) (rest := rest) C hl hd hM rfl hR hcat (by rw [h0.1, h0.2]; exact hf) a b d.1 (pic_recv C a ht)) b (fun _ _ h => h) (fun _ h => h) (fun r u t H1 locs1 e1 _ hp hb _ _ hS => ?_)
  obtain ⟨o1, z1, z2⟩ := hp
  rw [h0.1, h0.2, z1]
  rw [e1] at hb
  exact kk o1 u.1 u.2 z2 H1 locs1 ls hb hS d
theorem j_callV1V (C : Cx p s m args meth c g nL own cc ret) {idx maxL1 : Nat} {i : Nat}  {y : MethodName} {cc1 : ByteArray} {ret1 : Option FieldType} {rm1 : Room} {a1 : Value} {rest : List Value} {F : WNm} (hl : MV own idx y cc1 maxL1 ret1 1) (hd : decode cc pc = .ok (.invokevirtual idx, 3)) (hM : CT l g y cc1 maxL1 ret1 rm1 (.ref (sh.2.2 i) :: [a1]) sh N (QFv g sh F)) (ht : (sh.1 i).1 < 9 ∧ RR (sh.1 i).1 = y.cls) (hR : rm1.frames + 1 ≤ R.frames ∧ 8 + (maxL1 + 11) + rm1.locals ≤ R.locals) (hcat : (rest.map fun v => v.category).sum ≤ 8) (h0 : rm1.cells = 0 ∧ rm1.slots = 0) (hf : cells ≤ R.cells ∧ slots ≤ R.slots) (kk : J p l e R s m args below meth c Q g nL sh F cells slots (pc + 3) lv rest) : J p l e R s m args below meth c Q g nL sh N cells slots pc lv (a1 :: .ref (sh.2.2 i) :: rest) := by
  intro H locs ls a b d
  refine va_callv (run_V (As := [a1]) (rest := rest) C hl hd hM rfl hR hcat (by rw [h0.1, h0.2]; exact hf) a b d.1 (pic_recv C a ht)) b (fun _ _ h => h) (fun _ h => h) (fun u t H1 locs1 e1 _ hp hb _ _ hS => ?_)
  obtain ⟨z1, z2⟩ := hp
  rw [h0.1, h0.2]
  rw [z1, z2, e1] at hb
  exact kk H1 locs1 ls hb hS d
theorem j_callV1Vg (C : Cx p s m args meth c g nL own cc ret) {idx maxL1 : Nat} {i : Nat}  {y : MethodName} {cc1 : ByteArray} {ret1 : Option FieldType} {rm1 : Room} {a1 : Value} {rest : List Value} {post : WSh → WNm → Prop} {c1 s1 : Nat} (hl : MV own idx y cc1 maxL1 ret1 1) (hd : decode cc pc = .ok (.invokevirtual idx, 3)) (hM : CT l g y cc1 maxL1 ret1 rm1 (.ref (sh.2.2 i) :: [a1]) sh N (QV g post)) (ht : (sh.1 i).1 < 9 ∧ RR (sh.1 i).1 = y.cls) (hR : rm1.frames + 1 ≤ R.frames ∧ 8 + (maxL1 + 11) + rm1.locals ≤ R.locals) (hcat : (rest.map fun v => v.category).sum ≤ 8) (h0 : cells + rm1.cells = c1 ∧ slots + rm1.slots = s1) (hf : c1 ≤ R.cells ∧ s1 ≤ R.slots) (kk : ∀ (sh1 : WSh) (N1 : WNm), post sh1 N1 → J p l e R s m args below meth c Q g nL sh1 N1 c1 s1 (pc + 3) lv rest) : J p l e R s m args below meth c Q g nL sh N cells slots pc lv (a1 :: .ref (sh.2.2 i) :: rest) := by
  intro H locs ls a b d
  refine va_callv (run_V (As := [a1]) (rest := rest) C hl hd hM rfl hR hcat (by rw [h0.1, h0.2]; exact hf) a b d.1 (pic_recv C a ht)) b (fun _ _ h => h) (fun _ h => h) (fun u t H1 locs1 e1 _ hp hb _ _ hS => ?_)
  rw [h0.1, h0.2]
  rw [e1] at hb
  exact kk u.1 u.2 hp H1 locs1 ls hb hS d
theorem j_callV2I (C : Cx p s m args meth c g nL own cc ret) {idx maxL1 : Nat} {i : Nat}  {y : MethodName} {cc1 : ByteArray} {ret1 : Option FieldType} {rm1 : Room} {a1 a2 : Value} {rest : List Value} {F : WNm} {f : Int32} (hl : MV own idx y cc1 maxL1 ret1 2) (hd : decode cc pc = .ok (.invokevirtual idx, 3)) (hM : CT l g y cc1 maxL1 ret1 rm1 (.ref (sh.2.2 i) :: [a1, a2]) sh N (QF g sh F f)) (ht : (sh.1 i).1 < 9 ∧ RR (sh.1 i).1 = y.cls) (hR : rm1.frames + 1 ≤ R.frames ∧ 8 + (maxL1 + 11) + rm1.locals ≤ R.locals) (hcat : (rest.map fun v => v.category).sum ≤ 8) (h0 : rm1.cells = 0 ∧ rm1.slots = 0) (hf : cells ≤ R.cells ∧ slots ≤ R.slots) (kk : J p l e R s m args below meth c Q g nL sh F cells slots (pc + 3) lv (.int f :: rest)) : J p l e R s m args below meth c Q g nL sh N cells slots pc lv (a2 :: a1 :: .ref (sh.2.2 i) :: rest) := by
  intro H locs ls a b d
  refine va_calli (run_V (As := [a1, a2]) (rest := rest) C hl hd hM rfl hR hcat (by rw [h0.1, h0.2]; exact hf) a b d.1 (pic_recv C a ht)) b (fun _ _ h => h) (fun _ h => h) (fun r u t H1 locs1 e1 _ hp hb _ _ hS => ?_)
  obtain ⟨z1, z2, z3⟩ := hp
  rw [h0.1, h0.2, z3]
  rw [z1, z2, e1] at hb
  exact kk H1 locs1 ls hb hS d
theorem j_callV2Ig (C : Cx p s m args meth c g nL own cc ret) {idx maxL1 : Nat} {i : Nat}  {y : MethodName} {cc1 : ByteArray} {ret1 : Option FieldType} {rm1 : Room} {a1 a2 : Value} {rest : List Value} {post : Int32 → WSh → WNm → Prop} {c1 s1 : Nat} (hl : MV own idx y cc1 maxL1 ret1 2) (hd : decode cc pc = .ok (.invokevirtual idx, 3)) (hM : CT l g y cc1 maxL1 ret1 rm1 (.ref (sh.2.2 i) :: [a1, a2]) sh N (QI g post)) (ht : (sh.1 i).1 < 9 ∧ RR (sh.1 i).1 = y.cls) (hR : rm1.frames + 1 ≤ R.frames ∧ 8 + (maxL1 + 11) + rm1.locals ≤ R.locals) (hcat : (rest.map fun v => v.category).sum ≤ 8) (h0 : cells + rm1.cells = c1 ∧ slots + rm1.slots = s1) (hf : c1 ≤ R.cells ∧ s1 ≤ R.slots) (kk : ∀ (r : Int32) (sh1 : WSh) (N1 : WNm), post r sh1 N1 → J p l e R s m args below meth c Q g nL sh1 N1 c1 s1 (pc + 3) lv (.int r :: rest)) : J p l e R s m args below meth c Q g nL sh N cells slots pc lv (a2 :: a1 :: .ref (sh.2.2 i) :: rest) := by
  intro H locs ls a b d
  refine va_calli (run_V (As := [a1, a2]) (rest := rest) C hl hd hM rfl hR hcat (by rw [h0.1, h0.2]; exact hf) a b d.1 (pic_recv C a ht)) b (fun _ _ h => h) (fun _ h => h) (fun r u t H1 locs1 e1 _ hp hb _ _ hS => ?_)
  rw [h0.1, h0.2]
  rw [e1] at hb
  exact kk r u.1 u.2 hp H1 locs1 ls hb hS d
theorem j_callV2Rg (C : Cx p s m args meth c g nL own cc ret) {idx maxL1 : Nat} {i : Nat}  {y : MethodName} {cc1 : ByteArray} {ret1 : Option FieldType} {rm1 : Room} {a1 a2 : Value} {rest : List Value} {post : Option Nat → WSh → WNm → Prop} {c1 s1 : Nat} (hl : MV own idx y cc1 maxL1 ret1 2) (hd : decode cc pc = .ok (.invokevirtual idx, 3)) (hM : CT l g y cc1 maxL1 ret1 rm1 (.ref (sh.2.2 i) :: [a1, a2]) sh N (QR g post)) (ht : (sh.1 i).1 < 9 ∧ RR (sh.1 i).1 = y.cls) (hR : rm1.frames + 1 ≤ R.frames ∧ 8 + (maxL1 + 11) + rm1.locals ≤ R.locals) (hcat : (rest.map fun v => v.category).sum ≤ 8) (h0 : cells + rm1.cells = c1 ∧ slots + rm1.slots = s1) (hf : c1 ≤ R.cells ∧ s1 ≤ R.slots) (kk : ∀ (o : Option Nat) (sh1 : WSh) (N1 : WNm), post o sh1 N1 → J p l e R s m args below meth c Q g nL sh1 N1 c1 s1 (pc + 3) lv (va_rf (o.map sh1.2.2) :: rest)) : J p l e R s m args below meth c Q g nL sh N cells slots pc lv (a2 :: a1 :: .ref (sh.2.2 i) :: rest) := by
  intro H locs ls a b d
  refine va_callq (run_V (As := [a1, a2]) (rest := rest) C hl hd hM rfl hR hcat (by rw [h0.1, h0.2]; exact hf) a b d.1 (pic_recv C a ht)) b (fun _ _ h => h) (fun _ h => h) (fun r u t H1 locs1 e1 _ hp hb _ _ hS => ?_)
  obtain ⟨o1, z1, z2⟩ := hp
  rw [h0.1, h0.2, z1]
  rw [e1] at hb
  exact kk o1 u.1 u.2 z2 H1 locs1 ls hb hS d
theorem j_callV2V (C : Cx p s m args meth c g nL own cc ret) {idx maxL1 : Nat} {i : Nat}  {y : MethodName} {cc1 : ByteArray} {ret1 : Option FieldType} {rm1 : Room} {a1 a2 : Value} {rest : List Value} {F : WNm} (hl : MV own idx y cc1 maxL1 ret1 2) (hd : decode cc pc = .ok (.invokevirtual idx, 3)) (hM : CT l g y cc1 maxL1 ret1 rm1 (.ref (sh.2.2 i) :: [a1, a2]) sh N (QFv g sh F)) (ht : (sh.1 i).1 < 9 ∧ RR (sh.1 i).1 = y.cls) (hR : rm1.frames + 1 ≤ R.frames ∧ 8 + (maxL1 + 11) + rm1.locals ≤ R.locals) (hcat : (rest.map fun v => v.category).sum ≤ 8) (h0 : rm1.cells = 0 ∧ rm1.slots = 0) (hf : cells ≤ R.cells ∧ slots ≤ R.slots) (kk : J p l e R s m args below meth c Q g nL sh F cells slots (pc + 3) lv rest) : J p l e R s m args below meth c Q g nL sh N cells slots pc lv (a2 :: a1 :: .ref (sh.2.2 i) :: rest) := by
  intro H locs ls a b d
  refine va_callv (run_V (As := [a1, a2]) (rest := rest) C hl hd hM rfl hR hcat (by rw [h0.1, h0.2]; exact hf) a b d.1 (pic_recv C a ht)) b (fun _ _ h => h) (fun _ h => h) (fun u t H1 locs1 e1 _ hp hb _ _ hS => ?_)
  obtain ⟨z1, z2⟩ := hp
  rw [h0.1, h0.2]
  rw [z1, z2, e1] at hb
  exact kk H1 locs1 ls hb hS d
theorem j_callV2Vg (C : Cx p s m args meth c g nL own cc ret) {idx maxL1 : Nat} {i : Nat}  {y : MethodName} {cc1 : ByteArray} {ret1 : Option FieldType} {rm1 : Room} {a1 a2 : Value} {rest : List Value} {post : WSh → WNm → Prop} {c1 s1 : Nat} (hl : MV own idx y cc1 maxL1 ret1 2) (hd : decode cc pc = .ok (.invokevirtual idx, 3)) (hM : CT l g y cc1 maxL1 ret1 rm1 (.ref (sh.2.2 i) :: [a1, a2]) sh N (QV g post)) (ht : (sh.1 i).1 < 9 ∧ RR (sh.1 i).1 = y.cls) (hR : rm1.frames + 1 ≤ R.frames ∧ 8 + (maxL1 + 11) + rm1.locals ≤ R.locals) (hcat : (rest.map fun v => v.category).sum ≤ 8) (h0 : cells + rm1.cells = c1 ∧ slots + rm1.slots = s1) (hf : c1 ≤ R.cells ∧ s1 ≤ R.slots) (kk : ∀ (sh1 : WSh) (N1 : WNm), post sh1 N1 → J p l e R s m args below meth c Q g nL sh1 N1 c1 s1 (pc + 3) lv rest) : J p l e R s m args below meth c Q g nL sh N cells slots pc lv (a2 :: a1 :: .ref (sh.2.2 i) :: rest) := by
  intro H locs ls a b d
  refine va_callv (run_V (As := [a1, a2]) (rest := rest) C hl hd hM rfl hR hcat (by rw [h0.1, h0.2]; exact hf) a b d.1 (pic_recv C a ht)) b (fun _ _ h => h) (fun _ h => h) (fun u t H1 locs1 e1 _ hp hb _ _ hS => ?_)
  rw [h0.1, h0.2]
  rw [e1] at hb
  exact kk u.1 u.2 hp H1 locs1 ls hb hS d
theorem j_callV3I (C : Cx p s m args meth c g nL own cc ret) {idx maxL1 : Nat} {i : Nat}  {y : MethodName} {cc1 : ByteArray} {ret1 : Option FieldType} {rm1 : Room} {a1 a2 a3 : Value} {rest : List Value} {F : WNm} {f : Int32} (hl : MV own idx y cc1 maxL1 ret1 3) (hd : decode cc pc = .ok (.invokevirtual idx, 3)) (hM : CT l g y cc1 maxL1 ret1 rm1 (.ref (sh.2.2 i) :: [a1, a2, a3]) sh N (QF g sh F f)) (ht : (sh.1 i).1 < 9 ∧ RR (sh.1 i).1 = y.cls) (hR : rm1.frames + 1 ≤ R.frames ∧ 8 + (maxL1 + 11) + rm1.locals ≤ R.locals) (hcat : (rest.map fun v => v.category).sum ≤ 8) (h0 : rm1.cells = 0 ∧ rm1.slots = 0) (hf : cells ≤ R.cells ∧ slots ≤ R.slots) (kk : J p l e R s m args below meth c Q g nL sh F cells slots (pc + 3) lv (.int f :: rest)) : J p l e R s m args below meth c Q g nL sh N cells slots pc lv (a3 :: a2 :: a1 :: .ref (sh.2.2 i) :: rest) := by
  intro H locs ls a b d
  refine va_calli (run_V (As := [a1, a2, a3]) (rest := rest) C hl hd hM rfl hR hcat (by rw [h0.1, h0.2]; exact hf) a b d.1 (pic_recv C a ht)) b (fun _ _ h => h) (fun _ h => h) (fun r u t H1 locs1 e1 _ hp hb _ _ hS => ?_)
  obtain ⟨z1, z2, z3⟩ := hp
  rw [h0.1, h0.2, z3]
  rw [z1, z2, e1] at hb
  exact kk H1 locs1 ls hb hS d
theorem j_callV3Ig (C : Cx p s m args meth c g nL own cc ret) {idx maxL1 : Nat} {i : Nat}  {y : MethodName} {cc1 : ByteArray} {ret1 : Option FieldType} {rm1 : Room} {a1 a2 a3 : Value} {rest : List Value} {post : Int32 → WSh → WNm → Prop} {c1 s1 : Nat} (hl : MV own idx y cc1 maxL1 ret1 3) (hd : decode cc pc = .ok (.invokevirtual idx, 3)) (hM : CT l g y cc1 maxL1 ret1 rm1 (.ref (sh.2.2 i) :: [a1, a2, a3]) sh N (QI g post)) (ht : (sh.1 i).1 < 9 ∧ RR (sh.1 i).1 = y.cls) (hR : rm1.frames + 1 ≤ R.frames ∧ 8 + (maxL1 + 11) + rm1.locals ≤ R.locals) (hcat : (rest.map fun v => v.category).sum ≤ 8) (h0 : cells + rm1.cells = c1 ∧ slots + rm1.slots = s1) (hf : c1 ≤ R.cells ∧ s1 ≤ R.slots) (kk : ∀ (r : Int32) (sh1 : WSh) (N1 : WNm), post r sh1 N1 → J p l e R s m args below meth c Q g nL sh1 N1 c1 s1 (pc + 3) lv (.int r :: rest)) : J p l e R s m args below meth c Q g nL sh N cells slots pc lv (a3 :: a2 :: a1 :: .ref (sh.2.2 i) :: rest) := by
  intro H locs ls a b d
  refine va_calli (run_V (As := [a1, a2, a3]) (rest := rest) C hl hd hM rfl hR hcat (by rw [h0.1, h0.2]; exact hf) a b d.1 (pic_recv C a ht)) b (fun _ _ h => h) (fun _ h => h) (fun r u t H1 locs1 e1 _ hp hb _ _ hS => ?_)
  rw [h0.1, h0.2]
  rw [e1] at hb
  exact kk r u.1 u.2 hp H1 locs1 ls hb hS d
theorem j_callV3Rg (C : Cx p s m args meth c g nL own cc ret) {idx maxL1 : Nat} {i : Nat}  {y : MethodName} {cc1 : ByteArray} {ret1 : Option FieldType} {rm1 : Room} {a1 a2 a3 : Value} {rest : List Value} {post : Option Nat → WSh → WNm → Prop} {c1 s1 : Nat} (hl : MV own idx y cc1 maxL1 ret1 3) (hd : decode cc pc = .ok (.invokevirtual idx, 3)) (hM : CT l g y cc1 maxL1 ret1 rm1 (.ref (sh.2.2 i) :: [a1, a2, a3]) sh N (QR g post)) (ht : (sh.1 i).1 < 9 ∧ RR (sh.1 i).1 = y.cls) (hR : rm1.frames + 1 ≤ R.frames ∧ 8 + (maxL1 + 11) + rm1.locals ≤ R.locals) (hcat : (rest.map fun v => v.category).sum ≤ 8) (h0 : cells + rm1.cells = c1 ∧ slots + rm1.slots = s1) (hf : c1 ≤ R.cells ∧ s1 ≤ R.slots) (kk : ∀ (o : Option Nat) (sh1 : WSh) (N1 : WNm), post o sh1 N1 → J p l e R s m args below meth c Q g nL sh1 N1 c1 s1 (pc + 3) lv (va_rf (o.map sh1.2.2) :: rest)) : J p l e R s m args below meth c Q g nL sh N cells slots pc lv (a3 :: a2 :: a1 :: .ref (sh.2.2 i) :: rest) := by
  intro H locs ls a b d
  refine va_callq (run_V (As := [a1, a2, a3]) (rest := rest) C hl hd hM rfl hR hcat (by rw [h0.1, h0.2]; exact hf) a b d.1 (pic_recv C a ht)) b (fun _ _ h => h) (fun _ h => h) (fun r u t H1 locs1 e1 _ hp hb _ _ hS => ?_)
  obtain ⟨o1, z1, z2⟩ := hp
  rw [h0.1, h0.2, z1]
  rw [e1] at hb
  exact kk o1 u.1 u.2 z2 H1 locs1 ls hb hS d
theorem j_callV3V (C : Cx p s m args meth c g nL own cc ret) {idx maxL1 : Nat} {i : Nat}  {y : MethodName} {cc1 : ByteArray} {ret1 : Option FieldType} {rm1 : Room} {a1 a2 a3 : Value} {rest : List Value} {F : WNm} (hl : MV own idx y cc1 maxL1 ret1 3) (hd : decode cc pc = .ok (.invokevirtual idx, 3)) (hM : CT l g y cc1 maxL1 ret1 rm1 (.ref (sh.2.2 i) :: [a1, a2, a3]) sh N (QFv g sh F)) (ht : (sh.1 i).1 < 9 ∧ RR (sh.1 i).1 = y.cls) (hR : rm1.frames + 1 ≤ R.frames ∧ 8 + (maxL1 + 11) + rm1.locals ≤ R.locals) (hcat : (rest.map fun v => v.category).sum ≤ 8) (h0 : rm1.cells = 0 ∧ rm1.slots = 0) (hf : cells ≤ R.cells ∧ slots ≤ R.slots) (kk : J p l e R s m args below meth c Q g nL sh F cells slots (pc + 3) lv rest) : J p l e R s m args below meth c Q g nL sh N cells slots pc lv (a3 :: a2 :: a1 :: .ref (sh.2.2 i) :: rest) := by
  intro H locs ls a b d
  refine va_callv (run_V (As := [a1, a2, a3]) (rest := rest) C hl hd hM rfl hR hcat (by rw [h0.1, h0.2]; exact hf) a b d.1 (pic_recv C a ht)) b (fun _ _ h => h) (fun _ h => h) (fun u t H1 locs1 e1 _ hp hb _ _ hS => ?_)
  obtain ⟨z1, z2⟩ := hp
  rw [h0.1, h0.2]
  rw [z1, z2, e1] at hb
  exact kk H1 locs1 ls hb hS d
theorem j_callV3Vg (C : Cx p s m args meth c g nL own cc ret) {idx maxL1 : Nat} {i : Nat}  {y : MethodName} {cc1 : ByteArray} {ret1 : Option FieldType} {rm1 : Room} {a1 a2 a3 : Value} {rest : List Value} {post : WSh → WNm → Prop} {c1 s1 : Nat} (hl : MV own idx y cc1 maxL1 ret1 3) (hd : decode cc pc = .ok (.invokevirtual idx, 3)) (hM : CT l g y cc1 maxL1 ret1 rm1 (.ref (sh.2.2 i) :: [a1, a2, a3]) sh N (QV g post)) (ht : (sh.1 i).1 < 9 ∧ RR (sh.1 i).1 = y.cls) (hR : rm1.frames + 1 ≤ R.frames ∧ 8 + (maxL1 + 11) + rm1.locals ≤ R.locals) (hcat : (rest.map fun v => v.category).sum ≤ 8) (h0 : cells + rm1.cells = c1 ∧ slots + rm1.slots = s1) (hf : c1 ≤ R.cells ∧ s1 ≤ R.slots) (kk : ∀ (sh1 : WSh) (N1 : WNm), post sh1 N1 → J p l e R s m args below meth c Q g nL sh1 N1 c1 s1 (pc + 3) lv rest) : J p l e R s m args below meth c Q g nL sh N cells slots pc lv (a3 :: a2 :: a1 :: .ref (sh.2.2 i) :: rest) := by
  intro H locs ls a b d
  refine va_callv (run_V (As := [a1, a2, a3]) (rest := rest) C hl hd hM rfl hR hcat (by rw [h0.1, h0.2]; exact hf) a b d.1 (pic_recv C a ht)) b (fun _ _ h => h) (fun _ h => h) (fun u t H1 locs1 e1 _ hp hb _ _ hS => ?_)
  rw [h0.1, h0.2]
  rw [e1] at hb
  exact kk u.1 u.2 hp H1 locs1 ls hb hS d
theorem j_callV4I (C : Cx p s m args meth c g nL own cc ret) {idx maxL1 : Nat} {i : Nat}  {y : MethodName} {cc1 : ByteArray} {ret1 : Option FieldType} {rm1 : Room} {a1 a2 a3 a4 : Value} {rest : List Value} {F : WNm} {f : Int32} (hl : MV own idx y cc1 maxL1 ret1 4) (hd : decode cc pc = .ok (.invokevirtual idx, 3)) (hM : CT l g y cc1 maxL1 ret1 rm1 (.ref (sh.2.2 i) :: [a1, a2, a3, a4]) sh N (QF g sh F f)) (ht : (sh.1 i).1 < 9 ∧ RR (sh.1 i).1 = y.cls) (hR : rm1.frames + 1 ≤ R.frames ∧ 8 + (maxL1 + 11) + rm1.locals ≤ R.locals) (hcat : (rest.map fun v => v.category).sum ≤ 8) (h0 : rm1.cells = 0 ∧ rm1.slots = 0) (hf : cells ≤ R.cells ∧ slots ≤ R.slots) (kk : J p l e R s m args below meth c Q g nL sh F cells slots (pc + 3) lv (.int f :: rest)) : J p l e R s m args below meth c Q g nL sh N cells slots pc lv (a4 :: a3 :: a2 :: a1 :: .ref (sh.2.2 i) :: rest) := by
  intro H locs ls a b d
  refine va_calli (run_V (As := [a1, a2, a3, a4]) (rest := rest) C hl hd hM rfl hR hcat (by rw [h0.1, h0.2]; exact hf) a b d.1 (pic_recv C a ht)) b (fun _ _ h => h) (fun _ h => h) (fun r u t H1 locs1 e1 _ hp hb _ _ hS => ?_)
  obtain ⟨z1, z2, z3⟩ := hp
  rw [h0.1, h0.2, z3]
  rw [z1, z2, e1] at hb
  exact kk H1 locs1 ls hb hS d
theorem j_callV4Ig (C : Cx p s m args meth c g nL own cc ret) {idx maxL1 : Nat} {i : Nat}  {y : MethodName} {cc1 : ByteArray} {ret1 : Option FieldType} {rm1 : Room} {a1 a2 a3 a4 : Value} {rest : List Value} {post : Int32 → WSh → WNm → Prop} {c1 s1 : Nat} (hl : MV own idx y cc1 maxL1 ret1 4) (hd : decode cc pc = .ok (.invokevirtual idx, 3)) (hM : CT l g y cc1 maxL1 ret1 rm1 (.ref (sh.2.2 i) :: [a1, a2, a3, a4]) sh N (QI g post)) (ht : (sh.1 i).1 < 9 ∧ RR (sh.1 i).1 = y.cls) (hR : rm1.frames + 1 ≤ R.frames ∧ 8 + (maxL1 + 11) + rm1.locals ≤ R.locals) (hcat : (rest.map fun v => v.category).sum ≤ 8) (h0 : cells + rm1.cells = c1 ∧ slots + rm1.slots = s1) (hf : c1 ≤ R.cells ∧ s1 ≤ R.slots) (kk : ∀ (r : Int32) (sh1 : WSh) (N1 : WNm), post r sh1 N1 → J p l e R s m args below meth c Q g nL sh1 N1 c1 s1 (pc + 3) lv (.int r :: rest)) : J p l e R s m args below meth c Q g nL sh N cells slots pc lv (a4 :: a3 :: a2 :: a1 :: .ref (sh.2.2 i) :: rest) := by
  intro H locs ls a b d
  refine va_calli (run_V (As := [a1, a2, a3, a4]) (rest := rest) C hl hd hM rfl hR hcat (by rw [h0.1, h0.2]; exact hf) a b d.1 (pic_recv C a ht)) b (fun _ _ h => h) (fun _ h => h) (fun r u t H1 locs1 e1 _ hp hb _ _ hS => ?_)
  rw [h0.1, h0.2]
  rw [e1] at hb
  exact kk r u.1 u.2 hp H1 locs1 ls hb hS d
theorem j_callV4V (C : Cx p s m args meth c g nL own cc ret) {idx maxL1 : Nat} {i : Nat}  {y : MethodName} {cc1 : ByteArray} {ret1 : Option FieldType} {rm1 : Room} {a1 a2 a3 a4 : Value} {rest : List Value} {F : WNm} (hl : MV own idx y cc1 maxL1 ret1 4) (hd : decode cc pc = .ok (.invokevirtual idx, 3)) (hM : CT l g y cc1 maxL1 ret1 rm1 (.ref (sh.2.2 i) :: [a1, a2, a3, a4]) sh N (QFv g sh F)) (ht : (sh.1 i).1 < 9 ∧ RR (sh.1 i).1 = y.cls) (hR : rm1.frames + 1 ≤ R.frames ∧ 8 + (maxL1 + 11) + rm1.locals ≤ R.locals) (hcat : (rest.map fun v => v.category).sum ≤ 8) (h0 : rm1.cells = 0 ∧ rm1.slots = 0) (hf : cells ≤ R.cells ∧ slots ≤ R.slots) (kk : J p l e R s m args below meth c Q g nL sh F cells slots (pc + 3) lv rest) : J p l e R s m args below meth c Q g nL sh N cells slots pc lv (a4 :: a3 :: a2 :: a1 :: .ref (sh.2.2 i) :: rest) := by
  intro H locs ls a b d
  refine va_callv (run_V (As := [a1, a2, a3, a4]) (rest := rest) C hl hd hM rfl hR hcat (by rw [h0.1, h0.2]; exact hf) a b d.1 (pic_recv C a ht)) b (fun _ _ h => h) (fun _ h => h) (fun u t H1 locs1 e1 _ hp hb _ _ hS => ?_)
  obtain ⟨z1, z2⟩ := hp
  rw [h0.1, h0.2]
  rw [z1, z2, e1] at hb
  exact kk H1 locs1 ls hb hS d
theorem j_callV4Vg (C : Cx p s m args meth c g nL own cc ret) {idx maxL1 : Nat} {i : Nat}  {y : MethodName} {cc1 : ByteArray} {ret1 : Option FieldType} {rm1 : Room} {a1 a2 a3 a4 : Value} {rest : List Value} {post : WSh → WNm → Prop} {c1 s1 : Nat} (hl : MV own idx y cc1 maxL1 ret1 4) (hd : decode cc pc = .ok (.invokevirtual idx, 3)) (hM : CT l g y cc1 maxL1 ret1 rm1 (.ref (sh.2.2 i) :: [a1, a2, a3, a4]) sh N (QV g post)) (ht : (sh.1 i).1 < 9 ∧ RR (sh.1 i).1 = y.cls) (hR : rm1.frames + 1 ≤ R.frames ∧ 8 + (maxL1 + 11) + rm1.locals ≤ R.locals) (hcat : (rest.map fun v => v.category).sum ≤ 8) (h0 : cells + rm1.cells = c1 ∧ slots + rm1.slots = s1) (hf : c1 ≤ R.cells ∧ s1 ≤ R.slots) (kk : ∀ (sh1 : WSh) (N1 : WNm), post sh1 N1 → J p l e R s m args below meth c Q g nL sh1 N1 c1 s1 (pc + 3) lv rest) : J p l e R s m args below meth c Q g nL sh N cells slots pc lv (a4 :: a3 :: a2 :: a1 :: .ref (sh.2.2 i) :: rest) := by
  intro H locs ls a b d
  refine va_callv (run_V (As := [a1, a2, a3, a4]) (rest := rest) C hl hd hM rfl hR hcat (by rw [h0.1, h0.2]; exact hf) a b d.1 (pic_recv C a ht)) b (fun _ _ h => h) (fun _ h => h) (fun u t H1 locs1 e1 _ hp hb _ _ hS => ?_)
  rw [h0.1, h0.2]
  rw [e1] at hb
  exact kk u.1 u.2 hp H1 locs1 ls hb hS d
theorem j_callV5I (C : Cx p s m args meth c g nL own cc ret) {idx maxL1 : Nat} {i : Nat}  {y : MethodName} {cc1 : ByteArray} {ret1 : Option FieldType} {rm1 : Room} {a1 a2 a3 a4 a5 : Value} {rest : List Value} {F : WNm} {f : Int32} (hl : MV own idx y cc1 maxL1 ret1 5) (hd : decode cc pc = .ok (.invokevirtual idx, 3)) (hM : CT l g y cc1 maxL1 ret1 rm1 (.ref (sh.2.2 i) :: [a1, a2, a3, a4, a5]) sh N (QF g sh F f)) (ht : (sh.1 i).1 < 9 ∧ RR (sh.1 i).1 = y.cls) (hR : rm1.frames + 1 ≤ R.frames ∧ 8 + (maxL1 + 11) + rm1.locals ≤ R.locals) (hcat : (rest.map fun v => v.category).sum ≤ 8) (h0 : rm1.cells = 0 ∧ rm1.slots = 0) (hf : cells ≤ R.cells ∧ slots ≤ R.slots) (kk : J p l e R s m args below meth c Q g nL sh F cells slots (pc + 3) lv (.int f :: rest)) : J p l e R s m args below meth c Q g nL sh N cells slots pc lv (a5 :: a4 :: a3 :: a2 :: a1 :: .ref (sh.2.2 i) :: rest) := by
  intro H locs ls a b d
  refine va_calli (run_V (As := [a1, a2, a3, a4, a5]) (rest := rest) C hl hd hM rfl hR hcat (by rw [h0.1, h0.2]; exact hf) a b d.1 (pic_recv C a ht)) b (fun _ _ h => h) (fun _ h => h) (fun r u t H1 locs1 e1 _ hp hb _ _ hS => ?_)
  obtain ⟨z1, z2, z3⟩ := hp
  rw [h0.1, h0.2, z3]
  rw [z1, z2, e1] at hb
  exact kk H1 locs1 ls hb hS d
theorem j_callV5Ig (C : Cx p s m args meth c g nL own cc ret) {idx maxL1 : Nat} {i : Nat}  {y : MethodName} {cc1 : ByteArray} {ret1 : Option FieldType} {rm1 : Room} {a1 a2 a3 a4 a5 : Value} {rest : List Value} {post : Int32 → WSh → WNm → Prop} {c1 s1 : Nat} (hl : MV own idx y cc1 maxL1 ret1 5) (hd : decode cc pc = .ok (.invokevirtual idx, 3)) (hM : CT l g y cc1 maxL1 ret1 rm1 (.ref (sh.2.2 i) :: [a1, a2, a3, a4, a5]) sh N (QI g post)) (ht : (sh.1 i).1 < 9 ∧ RR (sh.1 i).1 = y.cls) (hR : rm1.frames + 1 ≤ R.frames ∧ 8 + (maxL1 + 11) + rm1.locals ≤ R.locals) (hcat : (rest.map fun v => v.category).sum ≤ 8) (h0 : cells + rm1.cells = c1 ∧ slots + rm1.slots = s1) (hf : c1 ≤ R.cells ∧ s1 ≤ R.slots) (kk : ∀ (r : Int32) (sh1 : WSh) (N1 : WNm), post r sh1 N1 → J p l e R s m args below meth c Q g nL sh1 N1 c1 s1 (pc + 3) lv (.int r :: rest)) : J p l e R s m args below meth c Q g nL sh N cells slots pc lv (a5 :: a4 :: a3 :: a2 :: a1 :: .ref (sh.2.2 i) :: rest) := by
  intro H locs ls a b d
  refine va_calli (run_V (As := [a1, a2, a3, a4, a5]) (rest := rest) C hl hd hM rfl hR hcat (by rw [h0.1, h0.2]; exact hf) a b d.1 (pic_recv C a ht)) b (fun _ _ h => h) (fun _ h => h) (fun r u t H1 locs1 e1 _ hp hb _ _ hS => ?_)
  rw [h0.1, h0.2]
  rw [e1] at hb
  exact kk r u.1 u.2 hp H1 locs1 ls hb hS d
theorem j_callV5V (C : Cx p s m args meth c g nL own cc ret) {idx maxL1 : Nat} {i : Nat}  {y : MethodName} {cc1 : ByteArray} {ret1 : Option FieldType} {rm1 : Room} {a1 a2 a3 a4 a5 : Value} {rest : List Value} {F : WNm} (hl : MV own idx y cc1 maxL1 ret1 5) (hd : decode cc pc = .ok (.invokevirtual idx, 3)) (hM : CT l g y cc1 maxL1 ret1 rm1 (.ref (sh.2.2 i) :: [a1, a2, a3, a4, a5]) sh N (QFv g sh F)) (ht : (sh.1 i).1 < 9 ∧ RR (sh.1 i).1 = y.cls) (hR : rm1.frames + 1 ≤ R.frames ∧ 8 + (maxL1 + 11) + rm1.locals ≤ R.locals) (hcat : (rest.map fun v => v.category).sum ≤ 8) (h0 : rm1.cells = 0 ∧ rm1.slots = 0) (hf : cells ≤ R.cells ∧ slots ≤ R.slots) (kk : J p l e R s m args below meth c Q g nL sh F cells slots (pc + 3) lv rest) : J p l e R s m args below meth c Q g nL sh N cells slots pc lv (a5 :: a4 :: a3 :: a2 :: a1 :: .ref (sh.2.2 i) :: rest) := by
  intro H locs ls a b d
  refine va_callv (run_V (As := [a1, a2, a3, a4, a5]) (rest := rest) C hl hd hM rfl hR hcat (by rw [h0.1, h0.2]; exact hf) a b d.1 (pic_recv C a ht)) b (fun _ _ h => h) (fun _ h => h) (fun u t H1 locs1 e1 _ hp hb _ _ hS => ?_)
  obtain ⟨z1, z2⟩ := hp
  rw [h0.1, h0.2]
  rw [z1, z2, e1] at hb
  exact kk H1 locs1 ls hb hS d
theorem j_callV5Vg (C : Cx p s m args meth c g nL own cc ret) {idx maxL1 : Nat} {i : Nat}  {y : MethodName} {cc1 : ByteArray} {ret1 : Option FieldType} {rm1 : Room} {a1 a2 a3 a4 a5 : Value} {rest : List Value} {post : WSh → WNm → Prop} {c1 s1 : Nat} (hl : MV own idx y cc1 maxL1 ret1 5) (hd : decode cc pc = .ok (.invokevirtual idx, 3)) (hM : CT l g y cc1 maxL1 ret1 rm1 (.ref (sh.2.2 i) :: [a1, a2, a3, a4, a5]) sh N (QV g post)) (ht : (sh.1 i).1 < 9 ∧ RR (sh.1 i).1 = y.cls) (hR : rm1.frames + 1 ≤ R.frames ∧ 8 + (maxL1 + 11) + rm1.locals ≤ R.locals) (hcat : (rest.map fun v => v.category).sum ≤ 8) (h0 : cells + rm1.cells = c1 ∧ slots + rm1.slots = s1) (hf : c1 ≤ R.cells ∧ s1 ≤ R.slots) (kk : ∀ (sh1 : WSh) (N1 : WNm), post sh1 N1 → J p l e R s m args below meth c Q g nL sh1 N1 c1 s1 (pc + 3) lv rest) : J p l e R s m args below meth c Q g nL sh N cells slots pc lv (a5 :: a4 :: a3 :: a2 :: a1 :: .ref (sh.2.2 i) :: rest) := by
  intro H locs ls a b d
  refine va_callv (run_V (As := [a1, a2, a3, a4, a5]) (rest := rest) C hl hd hM rfl hR hcat (by rw [h0.1, h0.2]; exact hf) a b d.1 (pic_recv C a ht)) b (fun _ _ h => h) (fun _ h => h) (fun u t H1 locs1 e1 _ hp hb _ _ hS => ?_)
  rw [h0.1, h0.2]
  rw [e1] at hb
  exact kk u.1 u.2 hp H1 locs1 ls hb hS d
theorem j_callS0I (C : Cx p s m args meth c g nL own cc ret) {idx maxL1 : Nat}   {y : MethodName} {cc1 : ByteArray} {ret1 : Option FieldType} {rm1 : Room}  {rest : List Value} {F : WNm} {f : Int32} (hl : MS own idx y cc1 maxL1 ret1 0) (hd : decode cc pc = .ok (.invokestatic idx, 3)) (hM : CT l g y cc1 maxL1 ret1 rm1 [] sh N (QF g sh F f))  (hR : rm1.frames + 1 ≤ R.frames ∧ 8 + (maxL1 + 11) + rm1.locals ≤ R.locals) (hcat : (rest.map fun v => v.category).sum ≤ 8) (h0 : rm1.cells = 0 ∧ rm1.slots = 0) (hf : cells ≤ R.cells ∧ slots ≤ R.slots) (kk : J p l e R s m args below meth c Q g nL sh F cells slots (pc + 3) lv (.int f :: rest)) : J p l e R s m args below meth c Q g nL sh N cells slots pc lv (rest) := by
  intro H locs ls a b d
  refine va_calli (run_S (As := []) (rest := rest) C hl hd hM rfl hR hcat (by rw [h0.1, h0.2]; exact hf) a b d.1 ) b (fun _ _ h => h) (fun _ h => h) (fun r u t H1 locs1 e1 _ hp hb _ _ hS => ?_)
  obtain ⟨z1, z2, z3⟩ := hp
  rw [h0.1, h0.2, z3]
  rw [z1, z2, e1] at hb
  exact kk H1 locs1 ls hb hS d
theorem j_callS0Ig (C : Cx p s m args meth c g nL own cc ret) {idx maxL1 : Nat}   {y : MethodName} {cc1 : ByteArray} {ret1 : Option FieldType} {rm1 : Room}  {rest : List Value} {post : Int32 → WSh → WNm → Prop} {c1 s1 : Nat} (hl : MS own idx y cc1 maxL1 ret1 0) (hd : decode cc pc = .ok (.invokestatic idx, 3)) (hM : CT l g y cc1 maxL1 ret1 rm1 [] sh N (QI g post))  (hR : rm1.frames + 1 ≤ R.frames ∧ 8 + (maxL1 + 11) + rm1.locals ≤ R.locals) (hcat : (rest.map fun v => v.category).sum ≤ 8) (h0 : cells + rm1.cells = c1 ∧ slots + rm1.slots = s1) (hf : c1 ≤ R.cells ∧ s1 ≤ R.slots) (kk : ∀ (r : Int32) (sh1 : WSh) (N1 : WNm), post r sh1 N1 → J p l e R s m args below meth c Q g nL sh1 N1 c1 s1 (pc + 3) lv (.int r :: rest)) : J p l e R s m args below meth c Q g nL sh N cells slots pc lv (rest) := by
  intro H locs ls a b d
  refine va_calli (run_S (As := []) (rest := rest) C hl hd hM rfl hR hcat (by rw [h0.1, h0.2]; exact hf) a b d.1 ) b (fun _ _ h => h) (fun _ h => h) (fun r u t H1 locs1 e1 _ hp hb _ _ hS => ?_)
  rw [h0.1, h0.2]
  rw [e1] at hb
  exact kk r u.1 u.2 hp H1 locs1 ls hb hS d
theorem j_callS0Rg (C : Cx p s m args meth c g nL own cc ret) {idx maxL1 : Nat}   {y : MethodName} {cc1 : ByteArray} {ret1 : Option FieldType} {rm1 : Room}  {rest : List Value} {post : Option Nat → WSh → WNm → Prop} {c1 s1 : Nat} (hl : MS own idx y cc1 maxL1 ret1 0) (hd : decode cc pc = .ok (.invokestatic idx, 3)) (hM : CT l g y cc1 maxL1 ret1 rm1 [] sh N (QR g post))  (hR : rm1.frames + 1 ≤ R.frames ∧ 8 + (maxL1 + 11) + rm1.locals ≤ R.locals) (hcat : (rest.map fun v => v.category).sum ≤ 8) (h0 : cells + rm1.cells = c1 ∧ slots + rm1.slots = s1) (hf : c1 ≤ R.cells ∧ s1 ≤ R.slots) (kk : ∀ (o : Option Nat) (sh1 : WSh) (N1 : WNm), post o sh1 N1 → J p l e R s m args below meth c Q g nL sh1 N1 c1 s1 (pc + 3) lv (va_rf (o.map sh1.2.2) :: rest)) : J p l e R s m args below meth c Q g nL sh N cells slots pc lv (rest) := by
  intro H locs ls a b d
  refine va_callq (run_S (As := []) (rest := rest) C hl hd hM rfl hR hcat (by rw [h0.1, h0.2]; exact hf) a b d.1 ) b (fun _ _ h => h) (fun _ h => h) (fun r u t H1 locs1 e1 _ hp hb _ _ hS => ?_)
  obtain ⟨o1, z1, z2⟩ := hp
  rw [h0.1, h0.2, z1]
  rw [e1] at hb
  exact kk o1 u.1 u.2 z2 H1 locs1 ls hb hS d
theorem j_callS0V (C : Cx p s m args meth c g nL own cc ret) {idx maxL1 : Nat}   {y : MethodName} {cc1 : ByteArray} {ret1 : Option FieldType} {rm1 : Room}  {rest : List Value} {F : WNm} (hl : MS own idx y cc1 maxL1 ret1 0) (hd : decode cc pc = .ok (.invokestatic idx, 3)) (hM : CT l g y cc1 maxL1 ret1 rm1 [] sh N (QFv g sh F))  (hR : rm1.frames + 1 ≤ R.frames ∧ 8 + (maxL1 + 11) + rm1.locals ≤ R.locals) (hcat : (rest.map fun v => v.category).sum ≤ 8) (h0 : rm1.cells = 0 ∧ rm1.slots = 0) (hf : cells ≤ R.cells ∧ slots ≤ R.slots) (kk : J p l e R s m args below meth c Q g nL sh F cells slots (pc + 3) lv rest) : J p l e R s m args below meth c Q g nL sh N cells slots pc lv (rest) := by
  intro H locs ls a b d
  refine va_callv (run_S (As := []) (rest := rest) C hl hd hM rfl hR hcat (by rw [h0.1, h0.2]; exact hf) a b d.1 ) b (fun _ _ h => h) (fun _ h => h) (fun u t H1 locs1 e1 _ hp hb _ _ hS => ?_)
  obtain ⟨z1, z2⟩ := hp
  rw [h0.1, h0.2]
  rw [z1, z2, e1] at hb
  exact kk H1 locs1 ls hb hS d
theorem j_callS0Vg (C : Cx p s m args meth c g nL own cc ret) {idx maxL1 : Nat}   {y : MethodName} {cc1 : ByteArray} {ret1 : Option FieldType} {rm1 : Room}  {rest : List Value} {post : WSh → WNm → Prop} {c1 s1 : Nat} (hl : MS own idx y cc1 maxL1 ret1 0) (hd : decode cc pc = .ok (.invokestatic idx, 3)) (hM : CT l g y cc1 maxL1 ret1 rm1 [] sh N (QV g post))  (hR : rm1.frames + 1 ≤ R.frames ∧ 8 + (maxL1 + 11) + rm1.locals ≤ R.locals) (hcat : (rest.map fun v => v.category).sum ≤ 8) (h0 : cells + rm1.cells = c1 ∧ slots + rm1.slots = s1) (hf : c1 ≤ R.cells ∧ s1 ≤ R.slots) (kk : ∀ (sh1 : WSh) (N1 : WNm), post sh1 N1 → J p l e R s m args below meth c Q g nL sh1 N1 c1 s1 (pc + 3) lv rest) : J p l e R s m args below meth c Q g nL sh N cells slots pc lv (rest) := by
  intro H locs ls a b d
  refine va_callv (run_S (As := []) (rest := rest) C hl hd hM rfl hR hcat (by rw [h0.1, h0.2]; exact hf) a b d.1 ) b (fun _ _ h => h) (fun _ h => h) (fun u t H1 locs1 e1 _ hp hb _ _ hS => ?_)
  rw [h0.1, h0.2]
  rw [e1] at hb
  exact kk u.1 u.2 hp H1 locs1 ls hb hS d
theorem j_callS1I (C : Cx p s m args meth c g nL own cc ret) {idx maxL1 : Nat}   {y : MethodName} {cc1 : ByteArray} {ret1 : Option FieldType} {rm1 : Room} {a1 : Value} {rest : List Value} {F : WNm} {f : Int32} (hl : MS own idx y cc1 maxL1 ret1 1) (hd : decode cc pc = .ok (.invokestatic idx, 3)) (hM : CT l g y cc1 maxL1 ret1 rm1 [a1] sh N (QF g sh F f))  (hR : rm1.frames + 1 ≤ R.frames ∧ 8 + (maxL1 + 11) + rm1.locals ≤ R.locals) (hcat : (rest.map fun v => v.category).sum ≤ 8) (h0 : rm1.cells = 0 ∧ rm1.slots = 0) (hf : cells ≤ R.cells ∧ slots ≤ R.slots) (kk : J p l e R s m args below meth c Q g nL sh F cells slots (pc + 3) lv (.int f :: rest)) : J p l e R s m args below meth c Q g nL sh N cells slots pc lv (a1 :: rest) := by
  intro H locs ls a b d
  refine va_calli (run_S (As := [a1]) (rest := rest) C hl hd hM rfl hR hcat (by rw [h0.1, h0.2]; exact hf) a b d.1 ) b (fun _ _ h => h) (fun _ h => h) (fun r u t H1 locs1 e1 _ hp hb _ _ hS => ?_)
  obtain ⟨z1, z2, z3⟩ := hp
  rw [h0.1, h0.2, z3]
  rw [z1, z2, e1] at hb
  exact kk H1 locs1 ls hb hS d
theorem j_callS1Ig (C : Cx p s m args meth c g nL own cc ret) {idx maxL1 : Nat}   {y : MethodName} {cc1 : ByteArray} {ret1 : Option FieldType} {rm1 : Room} {a1 : Value} {rest : List Value} {post : Int32 → WSh → WNm → Prop} {c1 s1 : Nat} (hl : MS own idx y cc1 maxL1 ret1 1) (hd : decode cc pc = .ok (.invokestatic idx, 3)) (hM : CT l g y cc1 maxL1 ret1 rm1 [a1] sh N (QI g post))  (hR : rm1.frames + 1 ≤ R.frames ∧ 8 + (maxL1 + 11) + rm1.locals ≤ R.locals) (hcat : (rest.map fun v => v.category).sum ≤ 8) (h0 : cells + rm1.cells = c1 ∧ slots + rm1.slots = s1) (hf : c1 ≤ R.cells ∧ s1 ≤ R.slots) (kk : ∀ (r : Int32) (sh1 : WSh) (N1 : WNm), post r sh1 N1 → J p l e R s m args below meth c Q g nL sh1 N1 c1 s1 (pc + 3) lv (.int r :: rest)) : J p l e R s m args below meth c Q g nL sh N cells slots pc lv (a1 :: rest) := by
  intro H locs ls a b d
  refine va_calli (run_S (As := [a1]) (rest := rest) C hl hd hM rfl hR hcat (by rw [h0.1, h0.2]; exact hf) a b d.1 ) b (fun _ _ h => h) (fun _ h => h) (fun r u t H1 locs1 e1 _ hp hb _ _ hS => ?_)
  rw [h0.1, h0.2]
  rw [e1] at hb
  exact kk r u.1 u.2 hp H1 locs1 ls hb hS d
theorem j_callS1Rg (C : Cx p s m args meth c g nL own cc ret) {idx maxL1 : Nat}   {y : MethodName} {cc1 : ByteArray} {ret1 : Option FieldType} {rm1 : Room} {a1 : Value} {rest : List Value} {post : Option Nat → WSh → WNm → Prop} {c1 s1 : Nat} (hl : MS own idx y cc1 maxL1 ret1 1) (hd : decode cc pc = .ok (.invokestatic idx, 3)) (hM : CT l g y cc1 maxL1 ret1 rm1 [a1] sh N (QR g post))  (hR : rm1.frames + 1 ≤ R.frames ∧ 8 + (maxL1 + 11) + rm1.locals ≤ R.locals) (hcat : (rest.map fun v => v.category).sum ≤ 8) (h0 : cells + rm1.cells = c1 ∧ slots + rm1.slots = s1) (hf : c1 ≤ R.cells ∧ s1 ≤ R.slots) (kk : ∀ (o : Option Nat) (sh1 : WSh) (N1 : WNm), post o sh1 N1 → J p l e R s m args below meth c Q g nL sh1 N1 c1 s1 (pc + 3) lv (va_rf (o.map sh1.2.2) :: rest)) : J p l e R s m args below meth c Q g nL sh N cells slots pc lv (a1 :: rest) := by
  intro H locs ls a b d
  refine va_callq (run_S (As := [a1]) (rest := rest) C hl hd hM rfl hR hcat (by rw [h0.1, h0.2]; exact hf) a b d.1 ) b (fun _ _ h => h) (fun _ h => h) (fun r u t H1 locs1 e1 _ hp hb _ _ hS => ?_)
  obtain ⟨o1, z1, z2⟩ := hp
  rw [h0.1, h0.2, z1]
  rw [e1] at hb
  exact kk o1 u.1 u.2 z2 H1 locs1 ls hb hS d
theorem j_callS1V (C : Cx p s m args meth c g nL own cc ret) {idx maxL1 : Nat}   {y : MethodName} {cc1 : ByteArray} {ret1 : Option FieldType} {rm1 : Room} {a1 : Value} {rest : List Value} {F : WNm} (hl : MS own idx y cc1 maxL1 ret1 1) (hd : decode cc pc = .ok (.invokestatic idx, 3)) (hM : CT l g y cc1 maxL1 ret1 rm1 [a1] sh N (QFv g sh F))  (hR : rm1.frames + 1 ≤ R.frames ∧ 8 + (maxL1 + 11) + rm1.locals ≤ R.locals) (hcat : (rest.map fun v => v.category).sum ≤ 8) (h0 : rm1.cells = 0 ∧ rm1.slots = 0) (hf : cells ≤ R.cells ∧ slots ≤ R.slots) (kk : J p l e R s m args below meth c Q g nL sh F cells slots (pc + 3) lv rest) : J p l e R s m args below meth c Q g nL sh N cells slots pc lv (a1 :: rest) := by
  intro H locs ls a b d
  refine va_callv (run_S (As := [a1]) (rest := rest) C hl hd hM rfl hR hcat (by rw [h0.1, h0.2]; exact hf) a b d.1 ) b (fun _ _ h => h) (fun _ h => h) (fun u t H1 locs1 e1 _ hp hb _ _ hS => ?_)
  obtain ⟨z1, z2⟩ := hp
  rw [h0.1, h0.2]
  rw [z1, z2, e1] at hb
  exact kk H1 locs1 ls hb hS d
theorem j_callS1Vg (C : Cx p s m args meth c g nL own cc ret) {idx maxL1 : Nat}   {y : MethodName} {cc1 : ByteArray} {ret1 : Option FieldType} {rm1 : Room} {a1 : Value} {rest : List Value} {post : WSh → WNm → Prop} {c1 s1 : Nat} (hl : MS own idx y cc1 maxL1 ret1 1) (hd : decode cc pc = .ok (.invokestatic idx, 3)) (hM : CT l g y cc1 maxL1 ret1 rm1 [a1] sh N (QV g post))  (hR : rm1.frames + 1 ≤ R.frames ∧ 8 + (maxL1 + 11) + rm1.locals ≤ R.locals) (hcat : (rest.map fun v => v.category).sum ≤ 8) (h0 : cells + rm1.cells = c1 ∧ slots + rm1.slots = s1) (hf : c1 ≤ R.cells ∧ s1 ≤ R.slots) (kk : ∀ (sh1 : WSh) (N1 : WNm), post sh1 N1 → J p l e R s m args below meth c Q g nL sh1 N1 c1 s1 (pc + 3) lv rest) : J p l e R s m args below meth c Q g nL sh N cells slots pc lv (a1 :: rest) := by
  intro H locs ls a b d
  refine va_callv (run_S (As := [a1]) (rest := rest) C hl hd hM rfl hR hcat (by rw [h0.1, h0.2]; exact hf) a b d.1 ) b (fun _ _ h => h) (fun _ h => h) (fun u t H1 locs1 e1 _ hp hb _ _ hS => ?_)
  rw [h0.1, h0.2]
  rw [e1] at hb
  exact kk u.1 u.2 hp H1 locs1 ls hb hS d
theorem j_callS2I (C : Cx p s m args meth c g nL own cc ret) {idx maxL1 : Nat}   {y : MethodName} {cc1 : ByteArray} {ret1 : Option FieldType} {rm1 : Room} {a1 a2 : Value} {rest : List Value} {F : WNm} {f : Int32} (hl : MS own idx y cc1 maxL1 ret1 2) (hd : decode cc pc = .ok (.invokestatic idx, 3)) (hM : CT l g y cc1 maxL1 ret1 rm1 [a1, a2] sh N (QF g sh F f))  (hR : rm1.frames + 1 ≤ R.frames ∧ 8 + (maxL1 + 11) + rm1.locals ≤ R.locals) (hcat : (rest.map fun v => v.category).sum ≤ 8) (h0 : rm1.cells = 0 ∧ rm1.slots = 0) (hf : cells ≤ R.cells ∧ slots ≤ R.slots) (kk : J p l e R s m args below meth c Q g nL sh F cells slots (pc + 3) lv (.int f :: rest)) : J p l e R s m args below meth c Q g nL sh N cells slots pc lv (a2 :: a1 :: rest) := by
  intro H locs ls a b d
  refine va_calli (run_S (As := [a1, a2]) (rest := rest) C hl hd hM rfl hR hcat (by rw [h0.1, h0.2]; exact hf) a b d.1 ) b (fun _ _ h => h) (fun _ h => h) (fun r u t H1 locs1 e1 _ hp hb _ _ hS => ?_)
  obtain ⟨z1, z2, z3⟩ := hp
  rw [h0.1, h0.2, z3]
  rw [z1, z2, e1] at hb
  exact kk H1 locs1 ls hb hS d
theorem j_callS2Ig (C : Cx p s m args meth c g nL own cc ret) {idx maxL1 : Nat}   {y : MethodName} {cc1 : ByteArray} {ret1 : Option FieldType} {rm1 : Room} {a1 a2 : Value} {rest : List Value} {post : Int32 → WSh → WNm → Prop} {c1 s1 : Nat} (hl : MS own idx y cc1 maxL1 ret1 2) (hd : decode cc pc = .ok (.invokestatic idx, 3)) (hM : CT l g y cc1 maxL1 ret1 rm1 [a1, a2] sh N (QI g post))  (hR : rm1.frames + 1 ≤ R.frames ∧ 8 + (maxL1 + 11) + rm1.locals ≤ R.locals) (hcat : (rest.map fun v => v.category).sum ≤ 8) (h0 : cells + rm1.cells = c1 ∧ slots + rm1.slots = s1) (hf : c1 ≤ R.cells ∧ s1 ≤ R.slots) (kk : ∀ (r : Int32) (sh1 : WSh) (N1 : WNm), post r sh1 N1 → J p l e R s m args below meth c Q g nL sh1 N1 c1 s1 (pc + 3) lv (.int r :: rest)) : J p l e R s m args below meth c Q g nL sh N cells slots pc lv (a2 :: a1 :: rest) := by
  intro H locs ls a b d
  refine va_calli (run_S (As := [a1, a2]) (rest := rest) C hl hd hM rfl hR hcat (by rw [h0.1, h0.2]; exact hf) a b d.1 ) b (fun _ _ h => h) (fun _ h => h) (fun r u t H1 locs1 e1 _ hp hb _ _ hS => ?_)
  rw [h0.1, h0.2]
  rw [e1] at hb
  exact kk r u.1 u.2 hp H1 locs1 ls hb hS d
theorem j_callS2Rg (C : Cx p s m args meth c g nL own cc ret) {idx maxL1 : Nat}   {y : MethodName} {cc1 : ByteArray} {ret1 : Option FieldType} {rm1 : Room} {a1 a2 : Value} {rest : List Value} {post : Option Nat → WSh → WNm → Prop} {c1 s1 : Nat} (hl : MS own idx y cc1 maxL1 ret1 2) (hd : decode cc pc = .ok (.invokestatic idx, 3)) (hM : CT l g y cc1 maxL1 ret1 rm1 [a1, a2] sh N (QR g post))  (hR : rm1.frames + 1 ≤ R.frames ∧ 8 + (maxL1 + 11) + rm1.locals ≤ R.locals) (hcat : (rest.map fun v => v.category).sum ≤ 8) (h0 : cells + rm1.cells = c1 ∧ slots + rm1.slots = s1) (hf : c1 ≤ R.cells ∧ s1 ≤ R.slots) (kk : ∀ (o : Option Nat) (sh1 : WSh) (N1 : WNm), post o sh1 N1 → J p l e R s m args below meth c Q g nL sh1 N1 c1 s1 (pc + 3) lv (va_rf (o.map sh1.2.2) :: rest)) : J p l e R s m args below meth c Q g nL sh N cells slots pc lv (a2 :: a1 :: rest) := by
  intro H locs ls a b d
  refine va_callq (run_S (As := [a1, a2]) (rest := rest) C hl hd hM rfl hR hcat (by rw [h0.1, h0.2]; exact hf) a b d.1 ) b (fun _ _ h => h) (fun _ h => h) (fun r u t H1 locs1 e1 _ hp hb _ _ hS => ?_)
  obtain ⟨o1, z1, z2⟩ := hp
  rw [h0.1, h0.2, z1]
  rw [e1] at hb
  exact kk o1 u.1 u.2 z2 H1 locs1 ls hb hS d
theorem j_callS2V (C : Cx p s m args meth c g nL own cc ret) {idx maxL1 : Nat}   {y : MethodName} {cc1 : ByteArray} {ret1 : Option FieldType} {rm1 : Room} {a1 a2 : Value} {rest : List Value} {F : WNm} (hl : MS own idx y cc1 maxL1 ret1 2) (hd : decode cc pc = .ok (.invokestatic idx, 3)) (hM : CT l g y cc1 maxL1 ret1 rm1 [a1, a2] sh N (QFv g sh F))  (hR : rm1.frames + 1 ≤ R.frames ∧ 8 + (maxL1 + 11) + rm1.locals ≤ R.locals) (hcat : (rest.map fun v => v.category).sum ≤ 8) (h0 : rm1.cells = 0 ∧ rm1.slots = 0) (hf : cells ≤ R.cells ∧ slots ≤ R.slots) (kk : J p l e R s m args below meth c Q g nL sh F cells slots (pc + 3) lv rest) : J p l e R s m args below meth c Q g nL sh N cells slots pc lv (a2 :: a1 :: rest) := by
  intro H locs ls a b d
  refine va_callv (run_S (As := [a1, a2]) (rest := rest) C hl hd hM rfl hR hcat (by rw [h0.1, h0.2]; exact hf) a b d.1 ) b (fun _ _ h => h) (fun _ h => h) (fun u t H1 locs1 e1 _ hp hb _ _ hS => ?_)
  obtain ⟨z1, z2⟩ := hp
  rw [h0.1, h0.2]
  rw [z1, z2, e1] at hb
  exact kk H1 locs1 ls hb hS d
theorem j_callS2Vg (C : Cx p s m args meth c g nL own cc ret) {idx maxL1 : Nat}   {y : MethodName} {cc1 : ByteArray} {ret1 : Option FieldType} {rm1 : Room} {a1 a2 : Value} {rest : List Value} {post : WSh → WNm → Prop} {c1 s1 : Nat} (hl : MS own idx y cc1 maxL1 ret1 2) (hd : decode cc pc = .ok (.invokestatic idx, 3)) (hM : CT l g y cc1 maxL1 ret1 rm1 [a1, a2] sh N (QV g post))  (hR : rm1.frames + 1 ≤ R.frames ∧ 8 + (maxL1 + 11) + rm1.locals ≤ R.locals) (hcat : (rest.map fun v => v.category).sum ≤ 8) (h0 : cells + rm1.cells = c1 ∧ slots + rm1.slots = s1) (hf : c1 ≤ R.cells ∧ s1 ≤ R.slots) (kk : ∀ (sh1 : WSh) (N1 : WNm), post sh1 N1 → J p l e R s m args below meth c Q g nL sh1 N1 c1 s1 (pc + 3) lv rest) : J p l e R s m args below meth c Q g nL sh N cells slots pc lv (a2 :: a1 :: rest) := by
  intro H locs ls a b d
  refine va_callv (run_S (As := [a1, a2]) (rest := rest) C hl hd hM rfl hR hcat (by rw [h0.1, h0.2]; exact hf) a b d.1 ) b (fun _ _ h => h) (fun _ h => h) (fun u t H1 locs1 e1 _ hp hb _ _ hS => ?_)
  rw [h0.1, h0.2]
  rw [e1] at hb
  exact kk u.1 u.2 hp H1 locs1 ls hb hS d
theorem j_callS3I (C : Cx p s m args meth c g nL own cc ret) {idx maxL1 : Nat}   {y : MethodName} {cc1 : ByteArray} {ret1 : Option FieldType} {rm1 : Room} {a1 a2 a3 : Value} {rest : List Value} {F : WNm} {f : Int32} (hl : MS own idx y cc1 maxL1 ret1 3) (hd : decode cc pc = .ok (.invokestatic idx, 3)) (hM : CT l g y cc1 maxL1 ret1 rm1 [a1, a2, a3] sh N (QF g sh F f))  (hR : rm1.frames + 1 ≤ R.frames ∧ 8 + (maxL1 + 11) + rm1.locals ≤ R.locals) (hcat : (rest.map fun v => v.category).sum ≤ 8) (h0 : rm1.cells = 0 ∧ rm1.slots = 0) (hf : cells ≤ R.cells ∧ slots ≤ R.slots) (kk : J p l e R s m args below meth c Q g nL sh F cells slots (pc + 3) lv (.int f :: rest)) : J p l e R s m args below meth c Q g nL sh N cells slots pc lv (a3 :: a2 :: a1 :: rest) := by
  intro H locs ls a b d
  refine va_calli (run_S (As := [a1, a2, a3]) (rest := rest) C hl hd hM rfl hR hcat (by rw [h0.1, h0.2]; exact hf) a b d.1 ) b (fun _ _ h => h) (fun _ h => h) (fun r u t H1 locs1 e1 _ hp hb _ _ hS => ?_)
  obtain ⟨z1, z2, z3⟩ := hp
  rw [h0.1, h0.2, z3]
  rw [z1, z2, e1] at hb
  exact kk H1 locs1 ls hb hS d
theorem j_callS3Ig (C : Cx p s m args meth c g nL own cc ret) {idx maxL1 : Nat}   {y : MethodName} {cc1 : ByteArray} {ret1 : Option FieldType} {rm1 : Room} {a1 a2 a3 : Value} {rest : List Value} {post : Int32 → WSh → WNm → Prop} {c1 s1 : Nat} (hl : MS own idx y cc1 maxL1 ret1 3) (hd : decode cc pc = .ok (.invokestatic idx, 3)) (hM : CT l g y cc1 maxL1 ret1 rm1 [a1, a2, a3] sh N (QI g post))  (hR : rm1.frames + 1 ≤ R.frames ∧ 8 + (maxL1 + 11) + rm1.locals ≤ R.locals) (hcat : (rest.map fun v => v.category).sum ≤ 8) (h0 : cells + rm1.cells = c1 ∧ slots + rm1.slots = s1) (hf : c1 ≤ R.cells ∧ s1 ≤ R.slots) (kk : ∀ (r : Int32) (sh1 : WSh) (N1 : WNm), post r sh1 N1 → J p l e R s m args below meth c Q g nL sh1 N1 c1 s1 (pc + 3) lv (.int r :: rest)) : J p l e R s m args below meth c Q g nL sh N cells slots pc lv (a3 :: a2 :: a1 :: rest) := by
  intro H locs ls a b d
  refine va_calli (run_S (As := [a1, a2, a3]) (rest := rest) C hl hd hM rfl hR hcat (by rw [h0.1, h0.2]; exact hf) a b d.1 ) b (fun _ _ h => h) (fun _ h => h) (fun r u t H1 locs1 e1 _ hp hb _ _ hS => ?_)
  rw [h0.1, h0.2]
  rw [e1] at hb
  exact kk r u.1 u.2 hp H1 locs1 ls hb hS d
theorem j_callS3Rg (C : Cx p s m args meth c g nL own cc ret) {idx maxL1 : Nat}   {y : MethodName} {cc1 : ByteArray} {ret1 : Option FieldType} {rm1 : Room} {a1 a2 a3 : Value} {rest : List Value} {post : Option Nat → WSh → WNm → Prop} {c1 s1 : Nat} (hl : MS own idx y cc1 maxL1 ret1 3) (hd : decode cc pc = .ok (.invokestatic idx, 3)) (hM : CT l g y cc1 maxL1 ret1 rm1 [a1, a2, a3] sh N (QR g post))  (hR : rm1.frames + 1 ≤ R.frames ∧ 8 + (maxL1 + 11) + rm1.locals ≤ R.locals) (hcat : (rest.map fun v => v.category).sum ≤ 8) (h0 : cells + rm1.cells = c1 ∧ slots + rm1.slots = s1) (hf : c1 ≤ R.cells ∧ s1 ≤ R.slots) (kk : ∀ (o : Option Nat) (sh1 : WSh) (N1 : WNm), post o sh1 N1 → J p l e R s m args below meth c Q g nL sh1 N1 c1 s1 (pc + 3) lv (va_rf (o.map sh1.2.2) :: rest)) : J p l e R s m args below meth c Q g nL sh N cells slots pc lv (a3 :: a2 :: a1 :: rest) := by
  intro H locs ls a b d
  refine va_callq (run_S (As := [a1, a2, a3]) (rest := rest) C hl hd hM rfl hR hcat (by rw [h0.1, h0.2]; exact hf) a b d.1 ) b (fun _ _ h => h) (fun _ h => h) (fun r u t H1 locs1 e1 _ hp hb _ _ hS => ?_)
  obtain ⟨o1, z1, z2⟩ := hp
  rw [h0.1, h0.2, z1]
  rw [e1] at hb
  exact kk o1 u.1 u.2 z2 H1 locs1 ls hb hS d
theorem j_callS3V (C : Cx p s m args meth c g nL own cc ret) {idx maxL1 : Nat}   {y : MethodName} {cc1 : ByteArray} {ret1 : Option FieldType} {rm1 : Room} {a1 a2 a3 : Value} {rest : List Value} {F : WNm} (hl : MS own idx y cc1 maxL1 ret1 3) (hd : decode cc pc = .ok (.invokestatic idx, 3)) (hM : CT l g y cc1 maxL1 ret1 rm1 [a1, a2, a3] sh N (QFv g sh F))  (hR : rm1.frames + 1 ≤ R.frames ∧ 8 + (maxL1 + 11) + rm1.locals ≤ R.locals) (hcat : (rest.map fun v => v.category).sum ≤ 8) (h0 : rm1.cells = 0 ∧ rm1.slots = 0) (hf : cells ≤ R.cells ∧ slots ≤ R.slots) (kk : J p l e R s m args below meth c Q g nL sh F cells slots (pc + 3) lv rest) : J p l e R s m args below meth c Q g nL sh N cells slots pc lv (a3 :: a2 :: a1 :: rest) := by
  intro H locs ls a b d
  refine va_callv (run_S (As := [a1, a2, a3]) (rest := rest) C hl hd hM rfl hR hcat (by rw [h0.1, h0.2]; exact hf) a b d.1 ) b (fun _ _ h => h) (fun _ h => h) (fun u t H1 locs1 e1 _ hp hb _ _ hS => ?_)
  obtain ⟨z1, z2⟩ := hp
  rw [h0.1, h0.2]
  rw [z1, z2, e1] at hb
  exact kk H1 locs1 ls hb hS d
theorem j_callS3Vg (C : Cx p s m args meth c g nL own cc ret) {idx maxL1 : Nat}   {y : MethodName} {cc1 : ByteArray} {ret1 : Option FieldType} {rm1 : Room} {a1 a2 a3 : Value} {rest : List Value} {post : WSh → WNm → Prop} {c1 s1 : Nat} (hl : MS own idx y cc1 maxL1 ret1 3) (hd : decode cc pc = .ok (.invokestatic idx, 3)) (hM : CT l g y cc1 maxL1 ret1 rm1 [a1, a2, a3] sh N (QV g post))  (hR : rm1.frames + 1 ≤ R.frames ∧ 8 + (maxL1 + 11) + rm1.locals ≤ R.locals) (hcat : (rest.map fun v => v.category).sum ≤ 8) (h0 : cells + rm1.cells = c1 ∧ slots + rm1.slots = s1) (hf : c1 ≤ R.cells ∧ s1 ≤ R.slots) (kk : ∀ (sh1 : WSh) (N1 : WNm), post sh1 N1 → J p l e R s m args below meth c Q g nL sh1 N1 c1 s1 (pc + 3) lv rest) : J p l e R s m args below meth c Q g nL sh N cells slots pc lv (a3 :: a2 :: a1 :: rest) := by
  intro H locs ls a b d
  refine va_callv (run_S (As := [a1, a2, a3]) (rest := rest) C hl hd hM rfl hR hcat (by rw [h0.1, h0.2]; exact hf) a b d.1 ) b (fun _ _ h => h) (fun _ h => h) (fun u t H1 locs1 e1 _ hp hb _ _ hS => ?_)
  rw [h0.1, h0.2]
  rw [e1] at hb
  exact kk u.1 u.2 hp H1 locs1 ls hb hS d
theorem j_callS4I (C : Cx p s m args meth c g nL own cc ret) {idx maxL1 : Nat}   {y : MethodName} {cc1 : ByteArray} {ret1 : Option FieldType} {rm1 : Room} {a1 a2 a3 a4 : Value} {rest : List Value} {F : WNm} {f : Int32} (hl : MS own idx y cc1 maxL1 ret1 4) (hd : decode cc pc = .ok (.invokestatic idx, 3)) (hM : CT l g y cc1 maxL1 ret1 rm1 [a1, a2, a3, a4] sh N (QF g sh F f))  (hR : rm1.frames + 1 ≤ R.frames ∧ 8 + (maxL1 + 11) + rm1.locals ≤ R.locals) (hcat : (rest.map fun v => v.category).sum ≤ 8) (h0 : rm1.cells = 0 ∧ rm1.slots = 0) (hf : cells ≤ R.cells ∧ slots ≤ R.slots) (kk : J p l e R s m args below meth c Q g nL sh F cells slots (pc + 3) lv (.int f :: rest)) : J p l e R s m args below meth c Q g nL sh N cells slots pc lv (a4 :: a3 :: a2 :: a1 :: rest) := by
  intro H locs ls a b d
  refine va_calli (run_S (As := [a1, a2, a3, a4]) (rest := rest) C hl hd hM rfl hR hcat (by rw [h0.1, h0.2]; exact hf) a b d.1 ) b (fun _ _ h => h) (fun _ h => h) (fun r u t H1 locs1 e1 _ hp hb _ _ hS => ?_)
  obtain ⟨z1, z2, z3⟩ := hp
  rw [h0.1, h0.2, z3]
  rw [z1, z2, e1] at hb
  exact kk H1 locs1 ls hb hS d
theorem j_callS4Ig (C : Cx p s m args meth c g nL own cc ret) {idx maxL1 : Nat}   {y : MethodName} {cc1 : ByteArray} {ret1 : Option FieldType} {rm1 : Room} {a1 a2 a3 a4 : Value} {rest : List Value} {post : Int32 → WSh → WNm → Prop} {c1 s1 : Nat} (hl : MS own idx y cc1 maxL1 ret1 4) (hd : decode cc pc = .ok (.invokestatic idx, 3)) (hM : CT l g y cc1 maxL1 ret1 rm1 [a1, a2, a3, a4] sh N (QI g post))  (hR : rm1.frames + 1 ≤ R.frames ∧ 8 + (maxL1 + 11) + rm1.locals ≤ R.locals) (hcat : (rest.map fun v => v.category).sum ≤ 8) (h0 : cells + rm1.cells = c1 ∧ slots + rm1.slots = s1) (hf : c1 ≤ R.cells ∧ s1 ≤ R.slots) (kk : ∀ (r : Int32) (sh1 : WSh) (N1 : WNm), post r sh1 N1 → J p l e R s m args below meth c Q g nL sh1 N1 c1 s1 (pc + 3) lv (.int r :: rest)) : J p l e R s m args below meth c Q g nL sh N cells slots pc lv (a4 :: a3 :: a2 :: a1 :: rest) := by
  intro H locs ls a b d
  refine va_calli (run_S (As := [a1, a2, a3, a4]) (rest := rest) C hl hd hM rfl hR hcat (by rw [h0.1, h0.2]; exact hf) a b d.1 ) b (fun _ _ h => h) (fun _ h => h) (fun r u t H1 locs1 e1 _ hp hb _ _ hS => ?_)
  rw [h0.1, h0.2]
  rw [e1] at hb
  exact kk r u.1 u.2 hp H1 locs1 ls hb hS d
theorem j_callS4V (C : Cx p s m args meth c g nL own cc ret) {idx maxL1 : Nat}   {y : MethodName} {cc1 : ByteArray} {ret1 : Option FieldType} {rm1 : Room} {a1 a2 a3 a4 : Value} {rest : List Value} {F : WNm} (hl : MS own idx y cc1 maxL1 ret1 4) (hd : decode cc pc = .ok (.invokestatic idx, 3)) (hM : CT l g y cc1 maxL1 ret1 rm1 [a1, a2, a3, a4] sh N (QFv g sh F))  (hR : rm1.frames + 1 ≤ R.frames ∧ 8 + (maxL1 + 11) + rm1.locals ≤ R.locals) (hcat : (rest.map fun v => v.category).sum ≤ 8) (h0 : rm1.cells = 0 ∧ rm1.slots = 0) (hf : cells ≤ R.cells ∧ slots ≤ R.slots) (kk : J p l e R s m args below meth c Q g nL sh F cells slots (pc + 3) lv rest) : J p l e R s m args below meth c Q g nL sh N cells slots pc lv (a4 :: a3 :: a2 :: a1 :: rest) := by
  intro H locs ls a b d
  refine va_callv (run_S (As := [a1, a2, a3, a4]) (rest := rest) C hl hd hM rfl hR hcat (by rw [h0.1, h0.2]; exact hf) a b d.1 ) b (fun _ _ h => h) (fun _ h => h) (fun u t H1 locs1 e1 _ hp hb _ _ hS => ?_)
  obtain ⟨z1, z2⟩ := hp
  rw [h0.1, h0.2]
  rw [z1, z2, e1] at hb
  exact kk H1 locs1 ls hb hS d
theorem j_callS4Vg (C : Cx p s m args meth c g nL own cc ret) {idx maxL1 : Nat}   {y : MethodName} {cc1 : ByteArray} {ret1 : Option FieldType} {rm1 : Room} {a1 a2 a3 a4 : Value} {rest : List Value} {post : WSh → WNm → Prop} {c1 s1 : Nat} (hl : MS own idx y cc1 maxL1 ret1 4) (hd : decode cc pc = .ok (.invokestatic idx, 3)) (hM : CT l g y cc1 maxL1 ret1 rm1 [a1, a2, a3, a4] sh N (QV g post))  (hR : rm1.frames + 1 ≤ R.frames ∧ 8 + (maxL1 + 11) + rm1.locals ≤ R.locals) (hcat : (rest.map fun v => v.category).sum ≤ 8) (h0 : cells + rm1.cells = c1 ∧ slots + rm1.slots = s1) (hf : c1 ≤ R.cells ∧ s1 ≤ R.slots) (kk : ∀ (sh1 : WSh) (N1 : WNm), post sh1 N1 → J p l e R s m args below meth c Q g nL sh1 N1 c1 s1 (pc + 3) lv rest) : J p l e R s m args below meth c Q g nL sh N cells slots pc lv (a4 :: a3 :: a2 :: a1 :: rest) := by
  intro H locs ls a b d
  refine va_callv (run_S (As := [a1, a2, a3, a4]) (rest := rest) C hl hd hM rfl hR hcat (by rw [h0.1, h0.2]; exact hf) a b d.1 ) b (fun _ _ h => h) (fun _ h => h) (fun u t H1 locs1 e1 _ hp hb _ _ hS => ?_)
  rw [h0.1, h0.2]
  rw [e1] at hb
  exact kk u.1 u.2 hp H1 locs1 ls hb hS d
theorem j_callS5I (C : Cx p s m args meth c g nL own cc ret) {idx maxL1 : Nat}   {y : MethodName} {cc1 : ByteArray} {ret1 : Option FieldType} {rm1 : Room} {a1 a2 a3 a4 a5 : Value} {rest : List Value} {F : WNm} {f : Int32} (hl : MS own idx y cc1 maxL1 ret1 5) (hd : decode cc pc = .ok (.invokestatic idx, 3)) (hM : CT l g y cc1 maxL1 ret1 rm1 [a1, a2, a3, a4, a5] sh N (QF g sh F f))  (hR : rm1.frames + 1 ≤ R.frames ∧ 8 + (maxL1 + 11) + rm1.locals ≤ R.locals) (hcat : (rest.map fun v => v.category).sum ≤ 8) (h0 : rm1.cells = 0 ∧ rm1.slots = 0) (hf : cells ≤ R.cells ∧ slots ≤ R.slots) (kk : J p l e R s m args below meth c Q g nL sh F cells slots (pc + 3) lv (.int f :: rest)) : J p l e R s m args below meth c Q g nL sh N cells slots pc lv (a5 :: a4 :: a3 :: a2 :: a1 :: rest) := by
  intro H locs ls a b d
  refine va_calli (run_S (As := [a1, a2, a3, a4, a5]) (rest := rest) C hl hd hM rfl hR hcat (by rw [h0.1, h0.2]; exact hf) a b d.1 ) b (fun _ _ h => h) (fun _ h => h) (fun r u t H1 locs1 e1 _ hp hb _ _ hS => ?_)
  obtain ⟨z1, z2, z3⟩ := hp
  rw [h0.1, h0.2, z3]
  rw [z1, z2, e1] at hb
  exact kk H1 locs1 ls hb hS d
theorem j_callS5Ig (C : Cx p s m args meth c g nL own cc ret) {idx maxL1 : Nat}   {y : MethodName} {cc1 : ByteArray} {ret1 : Option FieldType} {rm1 : Room} {a1 a2 a3 a4 a5 : Value} {rest : List Value} {post : Int32 → WSh → WNm → Prop} {c1 s1 : Nat} (hl : MS own idx y cc1 maxL1 ret1 5) (hd : decode cc pc = .ok (.invokestatic idx, 3)) (hM : CT l g y cc1 maxL1 ret1 rm1 [a1, a2, a3, a4, a5] sh N (QI g post))  (hR : rm1.frames + 1 ≤ R.frames ∧ 8 + (maxL1 + 11) + rm1.locals ≤ R.locals) (hcat : (rest.map fun v => v.category).sum ≤ 8) (h0 : cells + rm1.cells = c1 ∧ slots + rm1.slots = s1) (hf : c1 ≤ R.cells ∧ s1 ≤ R.slots) (kk : ∀ (r : Int32) (sh1 : WSh) (N1 : WNm), post r sh1 N1 → J p l e R s m args below meth c Q g nL sh1 N1 c1 s1 (pc + 3) lv (.int r :: rest)) : J p l e R s m args below meth c Q g nL sh N cells slots pc lv (a5 :: a4 :: a3 :: a2 :: a1 :: rest) := by
  intro H locs ls a b d
  refine va_calli (run_S (As := [a1, a2, a3, a4, a5]) (rest := rest) C hl hd hM rfl hR hcat (by rw [h0.1, h0.2]; exact hf) a b d.1 ) b (fun _ _ h => h) (fun _ h => h) (fun r u t H1 locs1 e1 _ hp hb _ _ hS => ?_)
  rw [h0.1, h0.2]
  rw [e1] at hb
  exact kk r u.1 u.2 hp H1 locs1 ls hb hS d
theorem j_callS5V (C : Cx p s m args meth c g nL own cc ret) {idx maxL1 : Nat}   {y : MethodName} {cc1 : ByteArray} {ret1 : Option FieldType} {rm1 : Room} {a1 a2 a3 a4 a5 : Value} {rest : List Value} {F : WNm} (hl : MS own idx y cc1 maxL1 ret1 5) (hd : decode cc pc = .ok (.invokestatic idx, 3)) (hM : CT l g y cc1 maxL1 ret1 rm1 [a1, a2, a3, a4, a5] sh N (QFv g sh F))  (hR : rm1.frames + 1 ≤ R.frames ∧ 8 + (maxL1 + 11) + rm1.locals ≤ R.locals) (hcat : (rest.map fun v => v.category).sum ≤ 8) (h0 : rm1.cells = 0 ∧ rm1.slots = 0) (hf : cells ≤ R.cells ∧ slots ≤ R.slots) (kk : J p l e R s m args below meth c Q g nL sh F cells slots (pc + 3) lv rest) : J p l e R s m args below meth c Q g nL sh N cells slots pc lv (a5 :: a4 :: a3 :: a2 :: a1 :: rest) := by
  intro H locs ls a b d
  refine va_callv (run_S (As := [a1, a2, a3, a4, a5]) (rest := rest) C hl hd hM rfl hR hcat (by rw [h0.1, h0.2]; exact hf) a b d.1 ) b (fun _ _ h => h) (fun _ h => h) (fun u t H1 locs1 e1 _ hp hb _ _ hS => ?_)
  obtain ⟨z1, z2⟩ := hp
  rw [h0.1, h0.2]
  rw [z1, z2, e1] at hb
  exact kk H1 locs1 ls hb hS d
theorem j_callS5Vg (C : Cx p s m args meth c g nL own cc ret) {idx maxL1 : Nat}   {y : MethodName} {cc1 : ByteArray} {ret1 : Option FieldType} {rm1 : Room} {a1 a2 a3 a4 a5 : Value} {rest : List Value} {post : WSh → WNm → Prop} {c1 s1 : Nat} (hl : MS own idx y cc1 maxL1 ret1 5) (hd : decode cc pc = .ok (.invokestatic idx, 3)) (hM : CT l g y cc1 maxL1 ret1 rm1 [a1, a2, a3, a4, a5] sh N (QV g post))  (hR : rm1.frames + 1 ≤ R.frames ∧ 8 + (maxL1 + 11) + rm1.locals ≤ R.locals) (hcat : (rest.map fun v => v.category).sum ≤ 8) (h0 : cells + rm1.cells = c1 ∧ slots + rm1.slots = s1) (hf : c1 ≤ R.cells ∧ s1 ≤ R.slots) (kk : ∀ (sh1 : WSh) (N1 : WNm), post sh1 N1 → J p l e R s m args below meth c Q g nL sh1 N1 c1 s1 (pc + 3) lv rest) : J p l e R s m args below meth c Q g nL sh N cells slots pc lv (a5 :: a4 :: a3 :: a2 :: a1 :: rest) := by
  intro H locs ls a b d
  refine va_callv (run_S (As := [a1, a2, a3, a4, a5]) (rest := rest) C hl hd hM rfl hR hcat (by rw [h0.1, h0.2]; exact hf) a b d.1 ) b (fun _ _ h => h) (fun _ h => h) (fun u t H1 locs1 e1 _ hp hb _ _ hS => ?_)
  rw [h0.1, h0.2]
  rw [e1] at hb
  exact kk u.1 u.2 hp H1 locs1 ls hb hS d
theorem j_callI0V (C : Cx p s m args meth c g nL own cc ret) {idx maxL1 : Nat} {i : Nat}  {y : MethodName} {cc1 : ByteArray}  {rm1 : Room}  {rest : List Value} {F : WNm} (hl : MI own idx y cc1 maxL1 0) (hd : decode cc pc = .ok (.invokespecial idx, 3)) (hM : CT l g y cc1 maxL1 none rm1 (.ref (sh.2.2 i) :: []) sh N (QFv g sh F))  (hR : rm1.frames + 1 ≤ R.frames ∧ 8 + (maxL1 + 11) + rm1.locals ≤ R.locals) (hcat : (rest.map fun v => v.category).sum ≤ 8) (h0 : rm1.cells = 0 ∧ rm1.slots = 0) (hf : cells ≤ R.cells ∧ slots ≤ R.slots) (kk : J p l e R s m args below meth c Q g nL sh F cells slots (pc + 3) lv rest) : J p l e R s m args below meth c Q g nL sh N cells slots pc lv (.ref (sh.2.2 i) :: rest) := by
  intro H locs ls a b d
  refine va_callv (run_I (As := []) (rest := rest) C hl hd hM rfl hR hcat (by rw [h0.1, h0.2]; exact hf) a b d.1 ) b (fun _ _ h => h) (fun _ h => h) (fun u t H1 locs1 e1 _ hp hb _ _ hS => ?_)
  obtain ⟨z1, z2⟩ := hp
  rw [h0.1, h0.2]
  rw [z1, z2, e1] at hb
  exact kk H1 locs1 ls hb hS d
theorem j_callI0Vg (C : Cx p s m args meth c g nL own cc ret) {idx maxL1 : Nat} {i : Nat}  {y : MethodName} {cc1 : ByteArray}  {rm1 : Room}  {rest : List Value} {post : WSh → WNm → Prop} {c1 s1 : Nat} (hl : MI own idx y cc1 maxL1 0) (hd : decode cc pc = .ok (.invokespecial idx, 3)) (hM : CT l g y cc1 maxL1 none rm1 (.ref (sh.2.2 i) :: []) sh N (QV g post))  (hR : rm1.frames + 1 ≤ R.frames ∧ 8 + (maxL1 + 11) + rm1.locals ≤ R.locals) (hcat : (rest.map fun v => v.category).sum ≤ 8) (h0 : cells + rm1.cells = c1 ∧ slots + rm1.slots = s1) (hf : c1 ≤ R.cells ∧ s1 ≤ R.slots) (kk : ∀ (sh1 : WSh) (N1 : WNm), post sh1 N1 → J p l e R s m args below meth c Q g nL sh1 N1 c1 s1 (pc + 3) lv rest) : J p l e R s m args below meth c Q g nL sh N cells slots pc lv (.ref (sh.2.2 i) :: rest) := by
  intro H locs ls a b d
  refine va_callv (run_I (As := []) (rest := rest) C hl hd hM rfl hR hcat (by rw [h0.1, h0.2]; exact hf) a b d.1 ) b (fun _ _ h => h) (fun _ h => h) (fun u t H1 locs1 e1 _ hp hb _ _ hS => ?_)
  rw [h0.1, h0.2]
  rw [e1] at hb
  exact kk u.1 u.2 hp H1 locs1 ls hb hS d
theorem j_callI1V (C : Cx p s m args meth c g nL own cc ret) {idx maxL1 : Nat} {i : Nat}  {y : MethodName} {cc1 : ByteArray}  {rm1 : Room} {a1 : Value} {rest : List Value} {F : WNm} (hl : MI own idx y cc1 maxL1 1) (hd : decode cc pc = .ok (.invokespecial idx, 3)) (hM : CT l g y cc1 maxL1 none rm1 (.ref (sh.2.2 i) :: [a1]) sh N (QFv g sh F))  (hR : rm1.frames + 1 ≤ R.frames ∧ 8 + (maxL1 + 11) + rm1.locals ≤ R.locals) (hcat : (rest.map fun v => v.category).sum ≤ 8) (h0 : rm1.cells = 0 ∧ rm1.slots = 0) (hf : cells ≤ R.cells ∧ slots ≤ R.slots) (kk : J p l e R s m args below meth c Q g nL sh F cells slots (pc + 3) lv rest) : J p l e R s m args below meth c Q g nL sh N cells slots pc lv (a1 :: .ref (sh.2.2 i) :: rest) := by
  intro H locs ls a b d
  refine va_callv (run_I (As := [a1]) (rest := rest) C hl hd hM rfl hR hcat (by rw [h0.1, h0.2]; exact hf) a b d.1 ) b (fun _ _ h => h) (fun _ h => h) (fun u t H1 locs1 e1 _ hp hb _ _ hS => ?_)
  obtain ⟨z1, z2⟩ := hp
  rw [h0.1, h0.2]
  rw [z1, z2, e1] at hb
  exact kk H1 locs1 ls hb hS d
theorem j_callI1Vg (C : Cx p s m args meth c g nL own cc ret) {idx maxL1 : Nat} {i : Nat}  {y : MethodName} {cc1 : ByteArray}  {rm1 : Room} {a1 : Value} {rest : List Value} {post : WSh → WNm → Prop} {c1 s1 : Nat} (hl : MI own idx y cc1 maxL1 1) (hd : decode cc pc = .ok (.invokespecial idx, 3)) (hM : CT l g y cc1 maxL1 none rm1 (.ref (sh.2.2 i) :: [a1]) sh N (QV g post))  (hR : rm1.frames + 1 ≤ R.frames ∧ 8 + (maxL1 + 11) + rm1.locals ≤ R.locals) (hcat : (rest.map fun v => v.category).sum ≤ 8) (h0 : cells + rm1.cells = c1 ∧ slots + rm1.slots = s1) (hf : c1 ≤ R.cells ∧ s1 ≤ R.slots) (kk : ∀ (sh1 : WSh) (N1 : WNm), post sh1 N1 → J p l e R s m args below meth c Q g nL sh1 N1 c1 s1 (pc + 3) lv rest) : J p l e R s m args below meth c Q g nL sh N cells slots pc lv (a1 :: .ref (sh.2.2 i) :: rest) := by
  intro H locs ls a b d
  refine va_callv (run_I (As := [a1]) (rest := rest) C hl hd hM rfl hR hcat (by rw [h0.1, h0.2]; exact hf) a b d.1 ) b (fun _ _ h => h) (fun _ h => h) (fun u t H1 locs1 e1 _ hp hb _ _ hS => ?_)
  rw [h0.1, h0.2]
  rw [e1] at hb
  exact kk u.1 u.2 hp H1 locs1 ls hb hS d
theorem j_callI2V (C : Cx p s m args meth c g nL own cc ret) {idx maxL1 : Nat} {i : Nat}  {y : MethodName} {cc1 : ByteArray}  {rm1 : Room} {a1 a2 : Value} {rest : List Value} {F : WNm} (hl : MI own idx y cc1 maxL1 2) (hd : decode cc pc = .ok (.invokespecial idx, 3)) (hM : CT l g y cc1 maxL1 none rm1 (.ref (sh.2.2 i) :: [a1, a2]) sh N (QFv g sh F))  (hR : rm1.frames + 1 ≤ R.frames ∧ 8 + (maxL1 + 11) + rm1.locals ≤ R.locals) (hcat : (rest.map fun v => v.category).sum ≤ 8) (h0 : rm1.cells = 0 ∧ rm1.slots = 0) (hf : cells ≤ R.cells ∧ slots ≤ R.slots) (kk : J p l e R s m args below meth c Q g nL sh F cells slots (pc + 3) lv rest) : J p l e R s m args below meth c Q g nL sh N cells slots pc lv (a2 :: a1 :: .ref (sh.2.2 i) :: rest) := by
  intro H locs ls a b d
  refine va_callv (run_I (As := [a1, a2]) (rest := rest) C hl hd hM rfl hR hcat (by rw [h0.1, h0.2]; exact hf) a b d.1 ) b (fun _ _ h => h) (fun _ h => h) (fun u t H1 locs1 e1 _ hp hb _ _ hS => ?_)
  obtain ⟨z1, z2⟩ := hp
  rw [h0.1, h0.2]
  rw [z1, z2, e1] at hb
  exact kk H1 locs1 ls hb hS d
theorem j_callI2Vg (C : Cx p s m args meth c g nL own cc ret) {idx maxL1 : Nat} {i : Nat}  {y : MethodName} {cc1 : ByteArray}  {rm1 : Room} {a1 a2 : Value} {rest : List Value} {post : WSh → WNm → Prop} {c1 s1 : Nat} (hl : MI own idx y cc1 maxL1 2) (hd : decode cc pc = .ok (.invokespecial idx, 3)) (hM : CT l g y cc1 maxL1 none rm1 (.ref (sh.2.2 i) :: [a1, a2]) sh N (QV g post))  (hR : rm1.frames + 1 ≤ R.frames ∧ 8 + (maxL1 + 11) + rm1.locals ≤ R.locals) (hcat : (rest.map fun v => v.category).sum ≤ 8) (h0 : cells + rm1.cells = c1 ∧ slots + rm1.slots = s1) (hf : c1 ≤ R.cells ∧ s1 ≤ R.slots) (kk : ∀ (sh1 : WSh) (N1 : WNm), post sh1 N1 → J p l e R s m args below meth c Q g nL sh1 N1 c1 s1 (pc + 3) lv rest) : J p l e R s m args below meth c Q g nL sh N cells slots pc lv (a2 :: a1 :: .ref (sh.2.2 i) :: rest) := by
  intro H locs ls a b d
  refine va_callv (run_I (As := [a1, a2]) (rest := rest) C hl hd hM rfl hR hcat (by rw [h0.1, h0.2]; exact hf) a b d.1 ) b (fun _ _ h => h) (fun _ h => h) (fun u t H1 locs1 e1 _ hp hb _ _ hS => ?_)
  rw [h0.1, h0.2]
  rw [e1] at hb
  exact kk u.1 u.2 hp H1 locs1 ls hb hS d
theorem j_callI3V (C : Cx p s m args meth c g nL own cc ret) {idx maxL1 : Nat} {i : Nat}  {y : MethodName} {cc1 : ByteArray}  {rm1 : Room} {a1 a2 a3 : Value} {rest : List Value} {F : WNm} (hl : MI own idx y cc1 maxL1 3) (hd : decode cc pc = .ok (.invokespecial idx, 3)) (hM : CT l g y cc1 maxL1 none rm1 (.ref (sh.2.2 i) :: [a1, a2, a3]) sh N (QFv g sh F))  (hR : rm1.frames + 1 ≤ R.frames ∧ 8 + (maxL1 + 11) + rm1.locals ≤ R.locals) (hcat : (rest.map fun v => v.category).sum ≤ 8) (h0 : rm1.cells = 0 ∧ rm1.slots = 0) (hf : cells ≤ R.cells ∧ slots ≤ R.slots) (kk : J p l e R s m args below meth c Q g nL sh F cells slots (pc + 3) lv rest) : J p l e R s m args below meth c Q g nL sh N cells slots pc lv (a3 :: a2 :: a1 :: .ref (sh.2.2 i) :: rest) := by
  intro H locs ls a b d
  refine va_callv (run_I (As := [a1, a2, a3]) (rest := rest) C hl hd hM rfl hR hcat (by rw [h0.1, h0.2]; exact hf) a b d.1 ) b (fun _ _ h => h) (fun _ h => h) (fun u t H1 locs1 e1 _ hp hb _ _ hS => ?_)
  obtain ⟨z1, z2⟩ := hp
  rw [h0.1, h0.2]
  rw [z1, z2, e1] at hb
  exact kk H1 locs1 ls hb hS d
theorem j_callI3Vg (C : Cx p s m args meth c g nL own cc ret) {idx maxL1 : Nat} {i : Nat}  {y : MethodName} {cc1 : ByteArray}  {rm1 : Room} {a1 a2 a3 : Value} {rest : List Value} {post : WSh → WNm → Prop} {c1 s1 : Nat} (hl : MI own idx y cc1 maxL1 3) (hd : decode cc pc = .ok (.invokespecial idx, 3)) (hM : CT l g y cc1 maxL1 none rm1 (.ref (sh.2.2 i) :: [a1, a2, a3]) sh N (QV g post))  (hR : rm1.frames + 1 ≤ R.frames ∧ 8 + (maxL1 + 11) + rm1.locals ≤ R.locals) (hcat : (rest.map fun v => v.category).sum ≤ 8) (h0 : cells + rm1.cells = c1 ∧ slots + rm1.slots = s1) (hf : c1 ≤ R.cells ∧ s1 ≤ R.slots) (kk : ∀ (sh1 : WSh) (N1 : WNm), post sh1 N1 → J p l e R s m args below meth c Q g nL sh1 N1 c1 s1 (pc + 3) lv rest) : J p l e R s m args below meth c Q g nL sh N cells slots pc lv (a3 :: a2 :: a1 :: .ref (sh.2.2 i) :: rest) := by
  intro H locs ls a b d
  refine va_callv (run_I (As := [a1, a2, a3]) (rest := rest) C hl hd hM rfl hR hcat (by rw [h0.1, h0.2]; exact hf) a b d.1 ) b (fun _ _ h => h) (fun _ h => h) (fun u t H1 locs1 e1 _ hp hb _ _ hS => ?_)
  rw [h0.1, h0.2]
  rw [e1] at hb
  exact kk u.1 u.2 hp H1 locs1 ls hb hS d
theorem j_callI4V (C : Cx p s m args meth c g nL own cc ret) {idx maxL1 : Nat} {i : Nat}  {y : MethodName} {cc1 : ByteArray}  {rm1 : Room} {a1 a2 a3 a4 : Value} {rest : List Value} {F : WNm} (hl : MI own idx y cc1 maxL1 4) (hd : decode cc pc = .ok (.invokespecial idx, 3)) (hM : CT l g y cc1 maxL1 none rm1 (.ref (sh.2.2 i) :: [a1, a2, a3, a4]) sh N (QFv g sh F))  (hR : rm1.frames + 1 ≤ R.frames ∧ 8 + (maxL1 + 11) + rm1.locals ≤ R.locals) (hcat : (rest.map fun v => v.category).sum ≤ 8) (h0 : rm1.cells = 0 ∧ rm1.slots = 0) (hf : cells ≤ R.cells ∧ slots ≤ R.slots) (kk : J p l e R s m args below meth c Q g nL sh F cells slots (pc + 3) lv rest) : J p l e R s m args below meth c Q g nL sh N cells slots pc lv (a4 :: a3 :: a2 :: a1 :: .ref (sh.2.2 i) :: rest) := by
  intro H locs ls a b d
  refine va_callv (run_I (As := [a1, a2, a3, a4]) (rest := rest) C hl hd hM rfl hR hcat (by rw [h0.1, h0.2]; exact hf) a b d.1 ) b (fun _ _ h => h) (fun _ h => h) (fun u t H1 locs1 e1 _ hp hb _ _ hS => ?_)
  obtain ⟨z1, z2⟩ := hp
  rw [h0.1, h0.2]
  rw [z1, z2, e1] at hb
  exact kk H1 locs1 ls hb hS d
theorem j_callI4Vg (C : Cx p s m args meth c g nL own cc ret) {idx maxL1 : Nat} {i : Nat}  {y : MethodName} {cc1 : ByteArray}  {rm1 : Room} {a1 a2 a3 a4 : Value} {rest : List Value} {post : WSh → WNm → Prop} {c1 s1 : Nat} (hl : MI own idx y cc1 maxL1 4) (hd : decode cc pc = .ok (.invokespecial idx, 3)) (hM : CT l g y cc1 maxL1 none rm1 (.ref (sh.2.2 i) :: [a1, a2, a3, a4]) sh N (QV g post))  (hR : rm1.frames + 1 ≤ R.frames ∧ 8 + (maxL1 + 11) + rm1.locals ≤ R.locals) (hcat : (rest.map fun v => v.category).sum ≤ 8) (h0 : cells + rm1.cells = c1 ∧ slots + rm1.slots = s1) (hf : c1 ≤ R.cells ∧ s1 ≤ R.slots) (kk : ∀ (sh1 : WSh) (N1 : WNm), post sh1 N1 → J p l e R s m args below meth c Q g nL sh1 N1 c1 s1 (pc + 3) lv rest) : J p l e R s m args below meth c Q g nL sh N cells slots pc lv (a4 :: a3 :: a2 :: a1 :: .ref (sh.2.2 i) :: rest) := by
  intro H locs ls a b d
  refine va_callv (run_I (As := [a1, a2, a3, a4]) (rest := rest) C hl hd hM rfl hR hcat (by rw [h0.1, h0.2]; exact hf) a b d.1 ) b (fun _ _ h => h) (fun _ h => h) (fun u t H1 locs1 e1 _ hp hb _ _ hS => ?_)
  rw [h0.1, h0.2]
  rw [e1] at hb
  exact kk u.1 u.2 hp H1 locs1 ls hb hS d
theorem j_callI5V (C : Cx p s m args meth c g nL own cc ret) {idx maxL1 : Nat} {i : Nat}  {y : MethodName} {cc1 : ByteArray}  {rm1 : Room} {a1 a2 a3 a4 a5 : Value} {rest : List Value} {F : WNm} (hl : MI own idx y cc1 maxL1 5) (hd : decode cc pc = .ok (.invokespecial idx, 3)) (hM : CT l g y cc1 maxL1 none rm1 (.ref (sh.2.2 i) :: [a1, a2, a3, a4, a5]) sh N (QFv g sh F))  (hR : rm1.frames + 1 ≤ R.frames ∧ 8 + (maxL1 + 11) + rm1.locals ≤ R.locals) (hcat : (rest.map fun v => v.category).sum ≤ 8) (h0 : rm1.cells = 0 ∧ rm1.slots = 0) (hf : cells ≤ R.cells ∧ slots ≤ R.slots) (kk : J p l e R s m args below meth c Q g nL sh F cells slots (pc + 3) lv rest) : J p l e R s m args below meth c Q g nL sh N cells slots pc lv (a5 :: a4 :: a3 :: a2 :: a1 :: .ref (sh.2.2 i) :: rest) := by
  intro H locs ls a b d
  refine va_callv (run_I (As := [a1, a2, a3, a4, a5]) (rest := rest) C hl hd hM rfl hR hcat (by rw [h0.1, h0.2]; exact hf) a b d.1 ) b (fun _ _ h => h) (fun _ h => h) (fun u t H1 locs1 e1 _ hp hb _ _ hS => ?_)
  obtain ⟨z1, z2⟩ := hp
  rw [h0.1, h0.2]
  rw [z1, z2, e1] at hb
  exact kk H1 locs1 ls hb hS d
theorem j_callI5Vg (C : Cx p s m args meth c g nL own cc ret) {idx maxL1 : Nat} {i : Nat}  {y : MethodName} {cc1 : ByteArray}  {rm1 : Room} {a1 a2 a3 a4 a5 : Value} {rest : List Value} {post : WSh → WNm → Prop} {c1 s1 : Nat} (hl : MI own idx y cc1 maxL1 5) (hd : decode cc pc = .ok (.invokespecial idx, 3)) (hM : CT l g y cc1 maxL1 none rm1 (.ref (sh.2.2 i) :: [a1, a2, a3, a4, a5]) sh N (QV g post))  (hR : rm1.frames + 1 ≤ R.frames ∧ 8 + (maxL1 + 11) + rm1.locals ≤ R.locals) (hcat : (rest.map fun v => v.category).sum ≤ 8) (h0 : cells + rm1.cells = c1 ∧ slots + rm1.slots = s1) (hf : c1 ≤ R.cells ∧ s1 ≤ R.slots) (kk : ∀ (sh1 : WSh) (N1 : WNm), post sh1 N1 → J p l e R s m args below meth c Q g nL sh1 N1 c1 s1 (pc + 3) lv rest) : J p l e R s m args below meth c Q g nL sh N cells slots pc lv (a5 :: a4 :: a3 :: a2 :: a1 :: .ref (sh.2.2 i) :: rest) := by
  intro H locs ls a b d
  refine va_callv (run_I (As := [a1, a2, a3, a4, a5]) (rest := rest) C hl hd hM rfl hR hcat (by rw [h0.1, h0.2]; exact hf) a b d.1 ) b (fun _ _ h => h) (fun _ h => h) (fun u t H1 locs1 e1 _ hp hb _ _ hS => ?_)
  rw [h0.1, h0.2]
  rw [e1] at hb
  exact kk u.1 u.2 hp H1 locs1 ls hb hS d
theorem j_callSN0I (C : Cx p s m args meth c g nL own cc ret) {idx maxL1 : Nat}  {host : String} {y : MethodName} {cc1 : ByteArray} {ret1 : Option FieldType} {rm1 : Room}  {rest : List Value} {F : WNm} {f : Int32} (hl : MSN host own idx y cc1 maxL1 ret1 0 g) (hd : decode cc pc = .ok (.invokestatic idx, 3)) (hM : CT l g y cc1 maxL1 ret1 rm1 [] sh N (QF g sh F f))  (hR : rm1.frames + 1 ≤ R.frames ∧ 8 + (maxL1 + 11) + rm1.locals ≤ R.locals) (hcat : (rest.map fun v => v.category).sum ≤ 8) (h0 : rm1.cells = 0 ∧ rm1.slots = 0) (hf : cells ≤ R.cells ∧ slots ≤ R.slots) (kk : J p l e R s m args below meth c Q g nL sh F cells slots (pc + 3) lv (.int f :: rest)) : J p l e R s m args below meth c Q g nL sh N cells slots pc lv (rest) := by
  intro H locs ls a b d
  refine va_calli (run_SN (As := []) (rest := rest) C hl hd hM rfl hR hcat (by rw [h0.1, h0.2]; exact hf) a b d.1 ) b (fun _ _ h => h) (fun _ h => h) (fun r u t H1 locs1 e1 _ hp hb _ _ hS => ?_)
  obtain ⟨z1, z2, z3⟩ := hp
  rw [h0.1, h0.2, z3]
  rw [z1, z2, e1] at hb
  exact kk H1 locs1 ls hb hS d
theorem j_callSN0Ig (C : Cx p s m args meth c g nL own cc ret) {idx maxL1 : Nat}  {host : String} {y : MethodName} {cc1 : ByteArray} {ret1 : Option FieldType} {rm1 : Room}  {rest : List Value} {post : Int32 → WSh → WNm → Prop} {c1 s1 : Nat} (hl : MSN host own idx y cc1 maxL1 ret1 0 g) (hd : decode cc pc = .ok (.invokestatic idx, 3)) (hM : CT l g y cc1 maxL1 ret1 rm1 [] sh N (QI g post))  (hR : rm1.frames + 1 ≤ R.frames ∧ 8 + (maxL1 + 11) + rm1.locals ≤ R.locals) (hcat : (rest.map fun v => v.category).sum ≤ 8) (h0 : cells + rm1.cells = c1 ∧ slots + rm1.slots = s1) (hf : c1 ≤ R.cells ∧ s1 ≤ R.slots) (kk : ∀ (r : Int32) (sh1 : WSh) (N1 : WNm), post r sh1 N1 → J p l e R s m args below meth c Q g nL sh1 N1 c1 s1 (pc + 3) lv (.int r :: rest)) : J p l e R s m args below meth c Q g nL sh N cells slots pc lv (rest) := by
  intro H locs ls a b d
  refine va_calli (run_SN (As := []) (rest := rest) C hl hd hM rfl hR hcat (by rw [h0.1, h0.2]; exact hf) a b d.1 ) b (fun _ _ h => h) (fun _ h => h) (fun r u t H1 locs1 e1 _ hp hb _ _ hS => ?_)
  rw [h0.1, h0.2]
  rw [e1] at hb
  exact kk r u.1 u.2 hp H1 locs1 ls hb hS d
theorem j_callSN0Rg (C : Cx p s m args meth c g nL own cc ret) {idx maxL1 : Nat}  {host : String} {y : MethodName} {cc1 : ByteArray} {ret1 : Option FieldType} {rm1 : Room}  {rest : List Value} {post : Option Nat → WSh → WNm → Prop} {c1 s1 : Nat} (hl : MSN host own idx y cc1 maxL1 ret1 0 g) (hd : decode cc pc = .ok (.invokestatic idx, 3)) (hM : CT l g y cc1 maxL1 ret1 rm1 [] sh N (QR g post))  (hR : rm1.frames + 1 ≤ R.frames ∧ 8 + (maxL1 + 11) + rm1.locals ≤ R.locals) (hcat : (rest.map fun v => v.category).sum ≤ 8) (h0 : cells + rm1.cells = c1 ∧ slots + rm1.slots = s1) (hf : c1 ≤ R.cells ∧ s1 ≤ R.slots) (kk : ∀ (o : Option Nat) (sh1 : WSh) (N1 : WNm), post o sh1 N1 → J p l e R s m args below meth c Q g nL sh1 N1 c1 s1 (pc + 3) lv (va_rf (o.map sh1.2.2) :: rest)) : J p l e R s m args below meth c Q g nL sh N cells slots pc lv (rest) := by
  intro H locs ls a b d
  refine va_callq (run_SN (As := []) (rest := rest) C hl hd hM rfl hR hcat (by rw [h0.1, h0.2]; exact hf) a b d.1 ) b (fun _ _ h => h) (fun _ h => h) (fun r u t H1 locs1 e1 _ hp hb _ _ hS => ?_)
  obtain ⟨o1, z1, z2⟩ := hp
  rw [h0.1, h0.2, z1]
  rw [e1] at hb
  exact kk o1 u.1 u.2 z2 H1 locs1 ls hb hS d
theorem j_callSN0V (C : Cx p s m args meth c g nL own cc ret) {idx maxL1 : Nat}  {host : String} {y : MethodName} {cc1 : ByteArray} {ret1 : Option FieldType} {rm1 : Room}  {rest : List Value} {F : WNm} (hl : MSN host own idx y cc1 maxL1 ret1 0 g) (hd : decode cc pc = .ok (.invokestatic idx, 3)) (hM : CT l g y cc1 maxL1 ret1 rm1 [] sh N (QFv g sh F))  (hR : rm1.frames + 1 ≤ R.frames ∧ 8 + (maxL1 + 11) + rm1.locals ≤ R.locals) (hcat : (rest.map fun v => v.category).sum ≤ 8) (h0 : rm1.cells = 0 ∧ rm1.slots = 0) (hf : cells ≤ R.cells ∧ slots ≤ R.slots) (kk : J p l e R s m args below meth c Q g nL sh F cells slots (pc + 3) lv rest) : J p l e R s m args below meth c Q g nL sh N cells slots pc lv (rest) := by
  intro H locs ls a b d
  refine va_callv (run_SN (As := []) (rest := rest) C hl hd hM rfl hR hcat (by rw [h0.1, h0.2]; exact hf) a b d.1 ) b (fun _ _ h => h) (fun _ h => h) (fun u t H1 locs1 e1 _ hp hb _ _ hS => ?_)
  obtain ⟨z1, z2⟩ := hp
  rw [h0.1, h0.2]
  rw [z1, z2, e1] at hb
  exact kk H1 locs1 ls hb hS d
theorem j_callSN0Vg (C : Cx p s m args meth c g nL own cc ret) {idx maxL1 : Nat}  {host : String} {y : MethodName} {cc1 : ByteArray} {ret1 : Option FieldType} {rm1 : Room}  {rest : List Value} {post : WSh → WNm → Prop} {c1 s1 : Nat} (hl : MSN host own idx y cc1 maxL1 ret1 0 g) (hd : decode cc pc = .ok (.invokestatic idx, 3)) (hM : CT l g y cc1 maxL1 ret1 rm1 [] sh N (QV g post))  (hR : rm1.frames + 1 ≤ R.frames ∧ 8 + (maxL1 + 11) + rm1.locals ≤ R.locals) (hcat : (rest.map fun v => v.category).sum ≤ 8) (h0 : cells + rm1.cells = c1 ∧ slots + rm1.slots = s1) (hf : c1 ≤ R.cells ∧ s1 ≤ R.slots) (kk : ∀ (sh1 : WSh) (N1 : WNm), post sh1 N1 → J p l e R s m args below meth c Q g nL sh1 N1 c1 s1 (pc + 3) lv rest) : J p l e R s m args below meth c Q g nL sh N cells slots pc lv (rest) := by
  intro H locs ls a b d
  refine va_callv (run_SN (As := []) (rest := rest) C hl hd hM rfl hR hcat (by rw [h0.1, h0.2]; exact hf) a b d.1 ) b (fun _ _ h => h) (fun _ h => h) (fun u t H1 locs1 e1 _ hp hb _ _ hS => ?_)
  rw [h0.1, h0.2]
  rw [e1] at hb
  exact kk u.1 u.2 hp H1 locs1 ls hb hS d
theorem j_callSN1I (C : Cx p s m args meth c g nL own cc ret) {idx maxL1 : Nat}  {host : String} {y : MethodName} {cc1 : ByteArray} {ret1 : Option FieldType} {rm1 : Room} {a1 : Value} {rest : List Value} {F : WNm} {f : Int32} (hl : MSN host own idx y cc1 maxL1 ret1 1 g) (hd : decode cc pc = .ok (.invokestatic idx, 3)) (hM : CT l g y cc1 maxL1 ret1 rm1 [a1] sh N (QF g sh F f))  (hR : rm1.frames + 1 ≤ R.frames ∧ 8 + (maxL1 + 11) + rm1.locals ≤ R.locals) (hcat : (rest.map fun v => v.category).sum ≤ 8) (h0 : rm1.cells = 0 ∧ rm1.slots = 0) (hf : cells ≤ R.cells ∧ slots ≤ R.slots) (kk : J p l e R s m args below meth c Q g nL sh F cells slots (pc + 3) lv (.int f :: rest)) : J p l e R s m args below meth c Q g nL sh N cells slots pc lv (a1 :: rest) := by
  intro H locs ls a b d
  refine va_calli (run_SN (As := [a1]) (rest := rest) C hl hd hM rfl hR hcat (by rw [h0.1, h0.2]; exact hf) a b d.1 ) b (fun _ _ h => h) (fun _ h => h) (fun r u t H1 locs1 e1 _ hp hb _ _ hS => ?_)
  obtain ⟨z1, z2, z3⟩ := hp
  rw [h0.1, h0.2, z3]
  rw [z1, z2, e1] at hb
  exact kk H1 locs1 ls hb hS d
theorem j_callSN1Ig (C : Cx p s m args meth c g nL own cc ret) {idx maxL1 : Nat}  {host : String} {y : MethodName} {cc1 : ByteArray} {ret1 : Option FieldType} {rm1 : Room} {a1 : Value} {rest : List Value} {post : Int32 → WSh → WNm → Prop} {c1 s1 : Nat} (hl : MSN host own idx y cc1 maxL1 ret1 1 g) (hd : decode cc pc = .ok (.invokestatic idx, 3)) (hM : CT l g y cc1 maxL1 ret1 rm1 [a1] sh N (QI g post))  (hR : rm1.frames + 1 ≤ R.frames ∧ 8 + (maxL1 + 11) + rm1.locals ≤ R.locals) (hcat : (rest.map fun v => v.category).sum ≤ 8) (h0 : cells + rm1.cells = c1 ∧ slots + rm1.slots = s1) (hf : c1 ≤ R.cells ∧ s1 ≤ R.slots) (kk : ∀ (r : Int32) (sh1 : WSh) (N1 : WNm), post r sh1 N1 → J p l e R s m args below meth c Q g nL sh1 N1 c1 s1 (pc + 3) lv (.int r :: rest)) : J p l e R s m args below meth c Q g nL sh N cells slots pc lv (a1 :: rest) := by
  intro H locs ls a b d
  refine va_calli (run_SN (As := [a1]) (rest := rest) C hl hd hM rfl hR hcat (by rw [h0.1, h0.2]; exact hf) a b d.1 ) b (fun _ _ h => h) (fun _ h => h) (fun r u t H1 locs1 e1 _ hp hb _ _ hS => ?_)
  rw [h0.1, h0.2]
  rw [e1] at hb
  exact kk r u.1 u.2 hp H1 locs1 ls hb hS d
theorem j_callSN1Rg (C : Cx p s m args meth c g nL own cc ret) {idx maxL1 : Nat}  {host : String} {y : MethodName} {cc1 : ByteArray} {ret1 : Option FieldType} {rm1 : Room} {a1 : Value} {rest : List Value} {post : Option Nat → WSh → WNm → Prop} {c1 s1 : Nat} (hl : MSN host own idx y cc1 maxL1 ret1 1 g) (hd : decode cc pc = .ok (.invokestatic idx, 3)) (hM : CT l g y cc1 maxL1 ret1 rm1 [a1] sh N (QR g post))  (hR : rm1.frames + 1 ≤ R.frames ∧ 8 + (maxL1 + 11) + rm1.locals ≤ R.locals) (hcat : (rest.map fun v => v.category).sum ≤ 8) (h0 : cells + rm1.cells = c1 ∧ slots + rm1.slots = s1) (hf : c1 ≤ R.cells ∧ s1 ≤ R.slots) (kk : ∀ (o : Option Nat) (sh1 : WSh) (N1 : WNm), post o sh1 N1 → J p l e R s m args below meth c Q g nL sh1 N1 c1 s1 (pc + 3) lv (va_rf (o.map sh1.2.2) :: rest)) : J p l e R s m args below meth c Q g nL sh N cells slots pc lv (a1 :: rest) := by
  intro H locs ls a b d
  refine va_callq (run_SN (As := [a1]) (rest := rest) C hl hd hM rfl hR hcat (by rw [h0.1, h0.2]; exact hf) a b d.1 ) b (fun _ _ h => h) (fun _ h => h) (fun r u t H1 locs1 e1 _ hp hb _ _ hS => ?_)
  obtain ⟨o1, z1, z2⟩ := hp
  rw [h0.1, h0.2, z1]
  rw [e1] at hb
  exact kk o1 u.1 u.2 z2 H1 locs1 ls hb hS d
theorem j_callSN1V (C : Cx p s m args meth c g nL own cc ret) {idx maxL1 : Nat}  {host : String} {y : MethodName} {cc1 : ByteArray} {ret1 : Option FieldType} {rm1 : Room} {a1 : Value} {rest : List Value} {F : WNm} (hl : MSN host own idx y cc1 maxL1 ret1 1 g) (hd : decode cc pc = .ok (.invokestatic idx, 3)) (hM : CT l g y cc1 maxL1 ret1 rm1 [a1] sh N (QFv g sh F))  (hR : rm1.frames + 1 ≤ R.frames ∧ 8 + (maxL1 + 11) + rm1.locals ≤ R.locals) (hcat : (rest.map fun v => v.category).sum ≤ 8) (h0 : rm1.cells = 0 ∧ rm1.slots = 0) (hf : cells ≤ R.cells ∧ slots ≤ R.slots) (kk : J p l e R s m args below meth c Q g nL sh F cells slots (pc + 3) lv rest) : J p l e R s m args below meth c Q g nL sh N cells slots pc lv (a1 :: rest) := by
  intro H locs ls a b d
  refine va_callv (run_SN (As := [a1]) (rest := rest) C hl hd hM rfl hR hcat (by rw [h0.1, h0.2]; exact hf) a b d.1 ) b (fun _ _ h => h) (fun _ h => h) (fun u t H1 locs1 e1 _ hp hb _ _ hS => ?_)
  obtain ⟨z1, z2⟩ := hp
  rw [h0.1, h0.2]
  rw [z1, z2, e1] at hb
  exact kk H1 locs1 ls hb hS d
theorem j_callSN1Vg (C : Cx p s m args meth c g nL own cc ret) {idx maxL1 : Nat}  {host : String} {y : MethodName} {cc1 : ByteArray} {ret1 : Option FieldType} {rm1 : Room} {a1 : Value} {rest : List Value} {post : WSh → WNm → Prop} {c1 s1 : Nat} (hl : MSN host own idx y cc1 maxL1 ret1 1 g) (hd : decode cc pc = .ok (.invokestatic idx, 3)) (hM : CT l g y cc1 maxL1 ret1 rm1 [a1] sh N (QV g post))  (hR : rm1.frames + 1 ≤ R.frames ∧ 8 + (maxL1 + 11) + rm1.locals ≤ R.locals) (hcat : (rest.map fun v => v.category).sum ≤ 8) (h0 : cells + rm1.cells = c1 ∧ slots + rm1.slots = s1) (hf : c1 ≤ R.cells ∧ s1 ≤ R.slots) (kk : ∀ (sh1 : WSh) (N1 : WNm), post sh1 N1 → J p l e R s m args below meth c Q g nL sh1 N1 c1 s1 (pc + 3) lv rest) : J p l e R s m args below meth c Q g nL sh N cells slots pc lv (a1 :: rest) := by
  intro H locs ls a b d
  refine va_callv (run_SN (As := [a1]) (rest := rest) C hl hd hM rfl hR hcat (by rw [h0.1, h0.2]; exact hf) a b d.1 ) b (fun _ _ h => h) (fun _ h => h) (fun u t H1 locs1 e1 _ hp hb _ _ hS => ?_)
  rw [h0.1, h0.2]
  rw [e1] at hb
  exact kk u.1 u.2 hp H1 locs1 ls hb hS d
theorem j_callSN2I (C : Cx p s m args meth c g nL own cc ret) {idx maxL1 : Nat}  {host : String} {y : MethodName} {cc1 : ByteArray} {ret1 : Option FieldType} {rm1 : Room} {a1 a2 : Value} {rest : List Value} {F : WNm} {f : Int32} (hl : MSN host own idx y cc1 maxL1 ret1 2 g) (hd : decode cc pc = .ok (.invokestatic idx, 3)) (hM : CT l g y cc1 maxL1 ret1 rm1 [a1, a2] sh N (QF g sh F f))  (hR : rm1.frames + 1 ≤ R.frames ∧ 8 + (maxL1 + 11) + rm1.locals ≤ R.locals) (hcat : (rest.map fun v => v.category).sum ≤ 8) (h0 : rm1.cells = 0 ∧ rm1.slots = 0) (hf : cells ≤ R.cells ∧ slots ≤ R.slots) (kk : J p l e R s m args below meth c Q g nL sh F cells slots (pc + 3) lv (.int f :: rest)) : J p l e R s m args below meth c Q g nL sh N cells slots pc lv (a2 :: a1 :: rest) := by
  intro H locs ls a b d
  refine va_calli (run_SN (As := [a1, a2]) (rest := rest) C hl hd hM rfl hR hcat (by rw [h0.1, h0.2]; exact hf) a b d.1 ) b (fun _ _ h => h) (fun _ h => h) (fun r u t H1 locs1 e1 _ hp hb _ _ hS => ?_)
  obtain ⟨z1, z2, z3⟩ := hp
  rw [h0.1, h0.2, z3]
  rw [z1, z2, e1] at hb
  exact kk H1 locs1 ls hb hS d
theorem j_callSN2Ig (C : Cx p s m args meth c g nL own cc ret) {idx maxL1 : Nat}  {host : String} {y : MethodName} {cc1 : ByteArray} {ret1 : Option FieldType} {rm1 : Room} {a1 a2 : Value} {rest : List Value} {post : Int32 → WSh → WNm → Prop} {c1 s1 : Nat} (hl : MSN host own idx y cc1 maxL1 ret1 2 g) (hd : decode cc pc = .ok (.invokestatic idx, 3)) (hM : CT l g y cc1 maxL1 ret1 rm1 [a1, a2] sh N (QI g post))  (hR : rm1.frames + 1 ≤ R.frames ∧ 8 + (maxL1 + 11) + rm1.locals ≤ R.locals) (hcat : (rest.map fun v => v.category).sum ≤ 8) (h0 : cells + rm1.cells = c1 ∧ slots + rm1.slots = s1) (hf : c1 ≤ R.cells ∧ s1 ≤ R.slots) (kk : ∀ (r : Int32) (sh1 : WSh) (N1 : WNm), post r sh1 N1 → J p l e R s m args below meth c Q g nL sh1 N1 c1 s1 (pc + 3) lv (.int r :: rest)) : J p l e R s m args below meth c Q g nL sh N cells slots pc lv (a2 :: a1 :: rest) := by
  intro H locs ls a b d
  refine va_calli (run_SN (As := [a1, a2]) (rest := rest) C hl hd hM rfl hR hcat (by rw [h0.1, h0.2]; exact hf) a b d.1 ) b (fun _ _ h => h) (fun _ h => h) (fun r u t H1 locs1 e1 _ hp hb _ _ hS => ?_)
  rw [h0.1, h0.2]
  rw [e1] at hb
  exact kk r u.1 u.2 hp H1 locs1 ls hb hS d
theorem j_callSN2Rg (C : Cx p s m args meth c g nL own cc ret) {idx maxL1 : Nat}  {host : String} {y : MethodName} {cc1 : ByteArray} {ret1 : Option FieldType} {rm1 : Room} {a1 a2 : Value} {rest : List Value} {post : Option Nat → WSh → WNm → Prop} {c1 s1 : Nat} (hl : MSN host own idx y cc1 maxL1 ret1 2 g) (hd : decode cc pc = .ok (.invokestatic idx, 3)) (hM : CT l g y cc1 maxL1 ret1 rm1 [a1, a2] sh N (QR g post))  (hR : rm1.frames + 1 ≤ R.frames ∧ 8 + (maxL1 + 11) + rm1.locals ≤ R.locals) (hcat : (rest.map fun v => v.category).sum ≤ 8) (h0 : cells + rm1.cells = c1 ∧ slots + rm1.slots = s1) (hf : c1 ≤ R.cells ∧ s1 ≤ R.slots) (kk : ∀ (o : Option Nat) (sh1 : WSh) (N1 : WNm), post o sh1 N1 → J p l e R s m args below meth c Q g nL sh1 N1 c1 s1 (pc + 3) lv (va_rf (o.map sh1.2.2) :: rest)) : J p l e R s m args below meth c Q g nL sh N cells slots pc lv (a2 :: a1 :: rest) := by
  intro H locs ls a b d
  refine va_callq (run_SN (As := [a1, a2]) (rest := rest) C hl hd hM rfl hR hcat (by rw [h0.1, h0.2]; exact hf) a b d.1 ) b (fun _ _ h => h) (fun _ h => h) (fun r u t H1 locs1 e1 _ hp hb _ _ hS => ?_)
  obtain ⟨o1, z1, z2⟩ := hp
  rw [h0.1, h0.2, z1]
  rw [e1] at hb
  exact kk o1 u.1 u.2 z2 H1 locs1 ls hb hS d
theorem j_callSN2V (C : Cx p s m args meth c g nL own cc ret) {idx maxL1 : Nat}  {host : String} {y : MethodName} {cc1 : ByteArray} {ret1 : Option FieldType} {rm1 : Room} {a1 a2 : Value} {rest : List Value} {F : WNm} (hl : MSN host own idx y cc1 maxL1 ret1 2 g) (hd : decode cc pc = .ok (.invokestatic idx, 3)) (hM : CT l g y cc1 maxL1 ret1 rm1 [a1, a2] sh N (QFv g sh F))  (hR : rm1.frames + 1 ≤ R.frames ∧ 8 + (maxL1 + 11) + rm1.locals ≤ R.locals) (hcat : (rest.map fun v => v.category).sum ≤ 8) (h0 : rm1.cells = 0 ∧ rm1.slots = 0) (hf : cells ≤ R.cells ∧ slots ≤ R.slots) (kk : J p l e R s m args below meth c Q g nL sh F cells slots (pc + 3) lv rest) : J p l e R s m args below meth c Q g nL sh N cells slots pc lv (a2 :: a1 :: rest) := by
  intro H locs ls a b d
  refine va_callv (run_SN (As := [a1, a2]) (rest := rest) C hl hd hM rfl hR hcat (by rw [h0.1, h0.2]; exact hf) a b d.1 ) b (fun _ _ h => h) (fun _ h => h) (fun u t H1 locs1 e1 _ hp hb _ _ hS => ?_)
  obtain ⟨z1, z2⟩ := hp
  rw [h0.1, h0.2]
  rw [z1, z2, e1] at hb
  exact kk H1 locs1 ls hb hS d
theorem j_callSN2Vg (C : Cx p s m args meth c g nL own cc ret) {idx maxL1 : Nat}  {host : String} {y : MethodName} {cc1 : ByteArray} {ret1 : Option FieldType} {rm1 : Room} {a1 a2 : Value} {rest : List Value} {post : WSh → WNm → Prop} {c1 s1 : Nat} (hl : MSN host own idx y cc1 maxL1 ret1 2 g) (hd : decode cc pc = .ok (.invokestatic idx, 3)) (hM : CT l g y cc1 maxL1 ret1 rm1 [a1, a2] sh N (QV g post))  (hR : rm1.frames + 1 ≤ R.frames ∧ 8 + (maxL1 + 11) + rm1.locals ≤ R.locals) (hcat : (rest.map fun v => v.category).sum ≤ 8) (h0 : cells + rm1.cells = c1 ∧ slots + rm1.slots = s1) (hf : c1 ≤ R.cells ∧ s1 ≤ R.slots) (kk : ∀ (sh1 : WSh) (N1 : WNm), post sh1 N1 → J p l e R s m args below meth c Q g nL sh1 N1 c1 s1 (pc + 3) lv rest) : J p l e R s m args below meth c Q g nL sh N cells slots pc lv (a2 :: a1 :: rest) := by
  intro H locs ls a b d
  refine va_callv (run_SN (As := [a1, a2]) (rest := rest) C hl hd hM rfl hR hcat (by rw [h0.1, h0.2]; exact hf) a b d.1 ) b (fun _ _ h => h) (fun _ h => h) (fun u t H1 locs1 e1 _ hp hb _ _ hS => ?_)
  rw [h0.1, h0.2]
  rw [e1] at hb
  exact kk u.1 u.2 hp H1 locs1 ls hb hS d
theorem j_callSN3I (C : Cx p s m args meth c g nL own cc ret) {idx maxL1 : Nat}  {host : String} {y : MethodName} {cc1 : ByteArray} {ret1 : Option FieldType} {rm1 : Room} {a1 a2 a3 : Value} {rest : List Value} {F : WNm} {f : Int32} (hl : MSN host own idx y cc1 maxL1 ret1 3 g) (hd : decode cc pc = .ok (.invokestatic idx, 3)) (hM : CT l g y cc1 maxL1 ret1 rm1 [a1, a2, a3] sh N (QF g sh F f))  (hR : rm1.frames + 1 ≤ R.frames ∧ 8 + (maxL1 + 11) + rm1.locals ≤ R.locals) (hcat : (rest.map fun v => v.category).sum ≤ 8) (h0 : rm1.cells = 0 ∧ rm1.slots = 0) (hf : cells ≤ R.cells ∧ slots ≤ R.slots) (kk : J p l e R s m args below meth c Q g nL sh F cells slots (pc + 3) lv (.int f :: rest)) : J p l e R s m args below meth c Q g nL sh N cells slots pc lv (a3 :: a2 :: a1 :: rest) := by
  intro H locs ls a b d
  refine va_calli (run_SN (As := [a1, a2, a3]) (rest := rest) C hl hd hM rfl hR hcat (by rw [h0.1, h0.2]; exact hf) a b d.1 ) b (fun _ _ h => h) (fun _ h => h) (fun r u t H1 locs1 e1 _ hp hb _ _ hS => ?_)
  obtain ⟨z1, z2, z3⟩ := hp
  rw [h0.1, h0.2, z3]
  rw [z1, z2, e1] at hb
  exact kk H1 locs1 ls hb hS d
theorem j_callSN3Ig (C : Cx p s m args meth c g nL own cc ret) {idx maxL1 : Nat}  {host : String} {y : MethodName} {cc1 : ByteArray} {ret1 : Option FieldType} {rm1 : Room} {a1 a2 a3 : Value} {rest : List Value} {post : Int32 → WSh → WNm → Prop} {c1 s1 : Nat} (hl : MSN host own idx y cc1 maxL1 ret1 3 g) (hd : decode cc pc = .ok (.invokestatic idx, 3)) (hM : CT l g y cc1 maxL1 ret1 rm1 [a1, a2, a3] sh N (QI g post))  (hR : rm1.frames + 1 ≤ R.frames ∧ 8 + (maxL1 + 11) + rm1.locals ≤ R.locals) (hcat : (rest.map fun v => v.category).sum ≤ 8) (h0 : cells + rm1.cells = c1 ∧ slots + rm1.slots = s1) (hf : c1 ≤ R.cells ∧ s1 ≤ R.slots) (kk : ∀ (r : Int32) (sh1 : WSh) (N1 : WNm), post r sh1 N1 → J p l e R s m args below meth c Q g nL sh1 N1 c1 s1 (pc + 3) lv (.int r :: rest)) : J p l e R s m args below meth c Q g nL sh N cells slots pc lv (a3 :: a2 :: a1 :: rest) := by
  intro H locs ls a b d
  refine va_calli (run_SN (As := [a1, a2, a3]) (rest := rest) C hl hd hM rfl hR hcat (by rw [h0.1, h0.2]; exact hf) a b d.1 ) b (fun _ _ h => h) (fun _ h => h) (fun r u t H1 locs1 e1 _ hp hb _ _ hS => ?_)
  rw [h0.1, h0.2]
  rw [e1] at hb
  exact kk r u.1 u.2 hp H1 locs1 ls hb hS d
theorem j_callSN3Rg (C : Cx p s m args meth c g nL own cc ret) {idx maxL1 : Nat}  {host : String} {y : MethodName} {cc1 : ByteArray} {ret1 : Option FieldType} {rm1 : Room} {a1 a2 a3 : Value} {rest : List Value} {post : Option Nat → WSh → WNm → Prop} {c1 s1 : Nat} (hl : MSN host own idx y cc1 maxL1 ret1 3 g) (hd : decode cc pc = .ok (.invokestatic idx, 3)) (hM : CT l g y cc1 maxL1 ret1 rm1 [a1, a2, a3] sh N (QR g post))  (hR : rm1.frames + 1 ≤ R.frames ∧ 8 + (maxL1 + 11) + rm1.locals ≤ R.locals) (hcat : (rest.map fun v => v.category).sum ≤ 8) (h0 : cells + rm1.cells = c1 ∧ slots + rm1.slots = s1) (hf : c1 ≤ R.cells ∧ s1 ≤ R.slots) (kk : ∀ (o : Option Nat) (sh1 : WSh) (N1 : WNm), post o sh1 N1 → J p l e R s m args below meth c Q g nL sh1 N1 c1 s1 (pc + 3) lv (va_rf (o.map sh1.2.2) :: rest)) : J p l e R s m args below meth c Q g nL sh N cells slots pc lv (a3 :: a2 :: a1 :: rest) := by
  intro H locs ls a b d
  refine va_callq (run_SN (As := [a1, a2, a3]) (rest := rest) C hl hd hM rfl hR hcat (by rw [h0.1, h0.2]; exact hf) a b d.1 ) b (fun _ _ h => h) (fun _ h => h) (fun r u t H1 locs1 e1 _ hp hb _ _ hS => ?_)
  obtain ⟨o1, z1, z2⟩ := hp
  rw [h0.1, h0.2, z1]
  rw [e1] at hb
  exact kk o1 u.1 u.2 z2 H1 locs1 ls hb hS d
theorem j_callSN3V (C : Cx p s m args meth c g nL own cc ret) {idx maxL1 : Nat}  {host : String} {y : MethodName} {cc1 : ByteArray} {ret1 : Option FieldType} {rm1 : Room} {a1 a2 a3 : Value} {rest : List Value} {F : WNm} (hl : MSN host own idx y cc1 maxL1 ret1 3 g) (hd : decode cc pc = .ok (.invokestatic idx, 3)) (hM : CT l g y cc1 maxL1 ret1 rm1 [a1, a2, a3] sh N (QFv g sh F))  (hR : rm1.frames + 1 ≤ R.frames ∧ 8 + (maxL1 + 11) + rm1.locals ≤ R.locals) (hcat : (rest.map fun v => v.category).sum ≤ 8) (h0 : rm1.cells = 0 ∧ rm1.slots = 0) (hf : cells ≤ R.cells ∧ slots ≤ R.slots) (kk : J p l e R s m args below meth c Q g nL sh F cells slots (pc + 3) lv rest) : J p l e R s m args below meth c Q g nL sh N cells slots pc lv (a3 :: a2 :: a1 :: rest) := by
  intro H locs ls a b d
  refine va_callv (run_SN (As := [a1, a2, a3]) (rest := rest) C hl hd hM rfl hR hcat (by rw [h0.1, h0.2]; exact hf) a b d.1 ) b (fun _ _ h => h) (fun _ h => h) (fun u t H1 locs1 e1 _ hp hb _ _ hS => ?_)
  obtain ⟨z1, z2⟩ := hp
  rw [h0.1, h0.2]
  rw [z1, z2, e1] at hb
  exact kk H1 locs1 ls hb hS d
theorem j_callSN3Vg (C : Cx p s m args meth c g nL own cc ret) {idx maxL1 : Nat}  {host : String} {y : MethodName} {cc1 : ByteArray} {ret1 : Option FieldType} {rm1 : Room} {a1 a2 a3 : Value} {rest : List Value} {post : WSh → WNm → Prop} {c1 s1 : Nat} (hl : MSN host own idx y cc1 maxL1 ret1 3 g) (hd : decode cc pc = .ok (.invokestatic idx, 3)) (hM : CT l g y cc1 maxL1 ret1 rm1 [a1, a2, a3] sh N (QV g post))  (hR : rm1.frames + 1 ≤ R.frames ∧ 8 + (maxL1 + 11) + rm1.locals ≤ R.locals) (hcat : (rest.map fun v => v.category).sum ≤ 8) (h0 : cells + rm1.cells = c1 ∧ slots + rm1.slots = s1) (hf : c1 ≤ R.cells ∧ s1 ≤ R.slots) (kk : ∀ (sh1 : WSh) (N1 : WNm), post sh1 N1 → J p l e R s m args below meth c Q g nL sh1 N1 c1 s1 (pc + 3) lv rest) : J p l e R s m args below meth c Q g nL sh N cells slots pc lv (a3 :: a2 :: a1 :: rest) := by
  intro H locs ls a b d
  refine va_callv (run_SN (As := [a1, a2, a3]) (rest := rest) C hl hd hM rfl hR hcat (by rw [h0.1, h0.2]; exact hf) a b d.1 ) b (fun _ _ h => h) (fun _ h => h) (fun u t H1 locs1 e1 _ hp hb _ _ hS => ?_)
  rw [h0.1, h0.2]
  rw [e1] at hb
  exact kk u.1 u.2 hp H1 locs1 ls hb hS d
theorem j_callSN4I (C : Cx p s m args meth c g nL own cc ret) {idx maxL1 : Nat}  {host : String} {y : MethodName} {cc1 : ByteArray} {ret1 : Option FieldType} {rm1 : Room} {a1 a2 a3 a4 : Value} {rest : List Value} {F : WNm} {f : Int32} (hl : MSN host own idx y cc1 maxL1 ret1 4 g) (hd : decode cc pc = .ok (.invokestatic idx, 3)) (hM : CT l g y cc1 maxL1 ret1 rm1 [a1, a2, a3, a4] sh N (QF g sh F f))  (hR : rm1.frames + 1 ≤ R.frames ∧ 8 + (maxL1 + 11) + rm1.locals ≤ R.locals) (hcat : (rest.map fun v => v.category).sum ≤ 8) (h0 : rm1.cells = 0 ∧ rm1.slots = 0) (hf : cells ≤ R.cells ∧ slots ≤ R.slots) (kk : J p l e R s m args below meth c Q g nL sh F cells slots (pc + 3) lv (.int f :: rest)) : J p l e R s m args below meth c Q g nL sh N cells slots pc lv (a4 :: a3 :: a2 :: a1 :: rest) := by
  intro H locs ls a b d
  refine va_calli (run_SN (As := [a1, a2, a3, a4]) (rest := rest) C hl hd hM rfl hR hcat (by rw [h0.1, h0.2]; exact hf) a b d.1 ) b (fun _ _ h => h) (fun _ h => h) (fun r u t H1 locs1 e1 _ hp hb _ _ hS => ?_)
  obtain ⟨z1, z2, z3⟩ := hp
  rw [h0.1, h0.2, z3]
  rw [z1, z2, e1] at hb
  exact kk H1 locs1 ls hb hS d
theorem j_callSN4Ig (C : Cx p s m args meth c g nL own cc ret) {idx maxL1 : Nat}  {host : String} {y : MethodName} {cc1 : ByteArray} {ret1 : Option FieldType} {rm1 : Room} {a1 a2 a3 a4 : Value} {rest : List Value} {post : Int32 → WSh → WNm → Prop} {c1 s1 : Nat} (hl : MSN host own idx y cc1 maxL1 ret1 4 g) (hd : decode cc pc = .ok (.invokestatic idx, 3)) (hM : CT l g y cc1 maxL1 ret1 rm1 [a1, a2, a3, a4] sh N (QI g post))  (hR : rm1.frames + 1 ≤ R.frames ∧ 8 + (maxL1 + 11) + rm1.locals ≤ R.locals) (hcat : (rest.map fun v => v.category).sum ≤ 8) (h0 : cells + rm1.cells = c1 ∧ slots + rm1.slots = s1) (hf : c1 ≤ R.cells ∧ s1 ≤ R.slots) (kk : ∀ (r : Int32) (sh1 : WSh) (N1 : WNm), post r sh1 N1 → J p l e R s m args below meth c Q g nL sh1 N1 c1 s1 (pc + 3) lv (.int r :: rest)) : J p l e R s m args below meth c Q g nL sh N cells slots pc lv (a4 :: a3 :: a2 :: a1 :: rest) := by
  intro H locs ls a b d
  refine va_calli (run_SN (As := [a1, a2, a3, a4]) (rest := rest) C hl hd hM rfl hR hcat (by rw [h0.1, h0.2]; exact hf) a b d.1 ) b (fun _ _ h => h) (fun _ h => h) (fun r u t H1 locs1 e1 _ hp hb _ _ hS => ?_)
  rw [h0.1, h0.2]
  rw [e1] at hb
  exact kk r u.1 u.2 hp H1 locs1 ls hb hS d
theorem j_callSN4V (C : Cx p s m args meth c g nL own cc ret) {idx maxL1 : Nat}  {host : String} {y : MethodName} {cc1 : ByteArray} {ret1 : Option FieldType} {rm1 : Room} {a1 a2 a3 a4 : Value} {rest : List Value} {F : WNm} (hl : MSN host own idx y cc1 maxL1 ret1 4 g) (hd : decode cc pc = .ok (.invokestatic idx, 3)) (hM : CT l g y cc1 maxL1 ret1 rm1 [a1, a2, a3, a4] sh N (QFv g sh F))  (hR : rm1.frames + 1 ≤ R.frames ∧ 8 + (maxL1 + 11) + rm1.locals ≤ R.locals) (hcat : (rest.map fun v => v.category).sum ≤ 8) (h0 : rm1.cells = 0 ∧ rm1.slots = 0) (hf : cells ≤ R.cells ∧ slots ≤ R.slots) (kk : J p l e R s m args below meth c Q g nL sh F cells slots (pc + 3) lv rest) : J p l e R s m args below meth c Q g nL sh N cells slots pc lv (a4 :: a3 :: a2 :: a1 :: rest) := by
  intro H locs ls a b d
  refine va_callv (run_SN (As := [a1, a2, a3, a4]) (rest := rest) C hl hd hM rfl hR hcat (by rw [h0.1, h0.2]; exact hf) a b d.1 ) b (fun _ _ h => h) (fun _ h => h) (fun u t H1 locs1 e1 _ hp hb _ _ hS => ?_)
  obtain ⟨z1, z2⟩ := hp
  rw [h0.1, h0.2]
  rw [z1, z2, e1] at hb
  exact kk H1 locs1 ls hb hS d
theorem j_callSN4Vg (C : Cx p s m args meth c g nL own cc ret) {idx maxL1 : Nat}  {host : String} {y : MethodName} {cc1 : ByteArray} {ret1 : Option FieldType} {rm1 : Room} {a1 a2 a3 a4 : Value} {rest : List Value} {post : WSh → WNm → Prop} {c1 s1 : Nat} (hl : MSN host own idx y cc1 maxL1 ret1 4 g) (hd : decode cc pc = .ok (.invokestatic idx, 3)) (hM : CT l g y cc1 maxL1 ret1 rm1 [a1, a2, a3, a4] sh N (QV g post))  (hR : rm1.frames + 1 ≤ R.frames ∧ 8 + (maxL1 + 11) + rm1.locals ≤ R.locals) (hcat : (rest.map fun v => v.category).sum ≤ 8) (h0 : cells + rm1.cells = c1 ∧ slots + rm1.slots = s1) (hf : c1 ≤ R.cells ∧ s1 ≤ R.slots) (kk : ∀ (sh1 : WSh) (N1 : WNm), post sh1 N1 → J p l e R s m args below meth c Q g nL sh1 N1 c1 s1 (pc + 3) lv rest) : J p l e R s m args below meth c Q g nL sh N cells slots pc lv (a4 :: a3 :: a2 :: a1 :: rest) := by
  intro H locs ls a b d
  refine va_callv (run_SN (As := [a1, a2, a3, a4]) (rest := rest) C hl hd hM rfl hR hcat (by rw [h0.1, h0.2]; exact hf) a b d.1 ) b (fun _ _ h => h) (fun _ h => h) (fun u t H1 locs1 e1 _ hp hb _ _ hS => ?_)
  rw [h0.1, h0.2]
  rw [e1] at hb
  exact kk u.1 u.2 hp H1 locs1 ls hb hS d
theorem j_callSN5I (C : Cx p s m args meth c g nL own cc ret) {idx maxL1 : Nat}  {host : String} {y : MethodName} {cc1 : ByteArray} {ret1 : Option FieldType} {rm1 : Room} {a1 a2 a3 a4 a5 : Value} {rest : List Value} {F : WNm} {f : Int32} (hl : MSN host own idx y cc1 maxL1 ret1 5 g) (hd : decode cc pc = .ok (.invokestatic idx, 3)) (hM : CT l g y cc1 maxL1 ret1 rm1 [a1, a2, a3, a4, a5] sh N (QF g sh F f))  (hR : rm1.frames + 1 ≤ R.frames ∧ 8 + (maxL1 + 11) + rm1.locals ≤ R.locals) (hcat : (rest.map fun v => v.category).sum ≤ 8) (h0 : rm1.cells = 0 ∧ rm1.slots = 0) (hf : cells ≤ R.cells ∧ slots ≤ R.slots) (kk : J p l e R s m args below meth c Q g nL sh F cells slots (pc + 3) lv (.int f :: rest)) : J p l e R s m args below meth c Q g nL sh N cells slots pc lv (a5 :: a4 :: a3 :: a2 :: a1 :: rest) := by
  intro H locs ls a b d
  refine va_calli (run_SN (As := [a1, a2, a3, a4, a5]) (rest := rest) C hl hd hM rfl hR hcat (by rw [h0.1, h0.2]; exact hf) a b d.1 ) b (fun _ _ h => h) (fun _ h => h) (fun r u t H1 locs1 e1 _ hp hb _ _ hS => ?_)
  obtain ⟨z1, z2, z3⟩ := hp
  rw [h0.1, h0.2, z3]
  rw [z1, z2, e1] at hb
  exact kk H1 locs1 ls hb hS d
theorem j_callSN5Ig (C : Cx p s m args meth c g nL own cc ret) {idx maxL1 : Nat}  {host : String} {y : MethodName} {cc1 : ByteArray} {ret1 : Option FieldType} {rm1 : Room} {a1 a2 a3 a4 a5 : Value} {rest : List Value} {post : Int32 → WSh → WNm → Prop} {c1 s1 : Nat} (hl : MSN host own idx y cc1 maxL1 ret1 5 g) (hd : decode cc pc = .ok (.invokestatic idx, 3)) (hM : CT l g y cc1 maxL1 ret1 rm1 [a1, a2, a3, a4, a5] sh N (QI g post))  (hR : rm1.frames + 1 ≤ R.frames ∧ 8 + (maxL1 + 11) + rm1.locals ≤ R.locals) (hcat : (rest.map fun v => v.category).sum ≤ 8) (h0 : cells + rm1.cells = c1 ∧ slots + rm1.slots = s1) (hf : c1 ≤ R.cells ∧ s1 ≤ R.slots) (kk : ∀ (r : Int32) (sh1 : WSh) (N1 : WNm), post r sh1 N1 → J p l e R s m args below meth c Q g nL sh1 N1 c1 s1 (pc + 3) lv (.int r :: rest)) : J p l e R s m args below meth c Q g nL sh N cells slots pc lv (a5 :: a4 :: a3 :: a2 :: a1 :: rest) := by
  intro H locs ls a b d
  refine va_calli (run_SN (As := [a1, a2, a3, a4, a5]) (rest := rest) C hl hd hM rfl hR hcat (by rw [h0.1, h0.2]; exact hf) a b d.1 ) b (fun _ _ h => h) (fun _ h => h) (fun r u t H1 locs1 e1 _ hp hb _ _ hS => ?_)
  rw [h0.1, h0.2]
  rw [e1] at hb
  exact kk r u.1 u.2 hp H1 locs1 ls hb hS d
theorem j_callSN5V (C : Cx p s m args meth c g nL own cc ret) {idx maxL1 : Nat}  {host : String} {y : MethodName} {cc1 : ByteArray} {ret1 : Option FieldType} {rm1 : Room} {a1 a2 a3 a4 a5 : Value} {rest : List Value} {F : WNm} (hl : MSN host own idx y cc1 maxL1 ret1 5 g) (hd : decode cc pc = .ok (.invokestatic idx, 3)) (hM : CT l g y cc1 maxL1 ret1 rm1 [a1, a2, a3, a4, a5] sh N (QFv g sh F))  (hR : rm1.frames + 1 ≤ R.frames ∧ 8 + (maxL1 + 11) + rm1.locals ≤ R.locals) (hcat : (rest.map fun v => v.category).sum ≤ 8) (h0 : rm1.cells = 0 ∧ rm1.slots = 0) (hf : cells ≤ R.cells ∧ slots ≤ R.slots) (kk : J p l e R s m args below meth c Q g nL sh F cells slots (pc + 3) lv rest) : J p l e R s m args below meth c Q g nL sh N cells slots pc lv (a5 :: a4 :: a3 :: a2 :: a1 :: rest) := by
  intro H locs ls a b d
  refine va_callv (run_SN (As := [a1, a2, a3, a4, a5]) (rest := rest) C hl hd hM rfl hR hcat (by rw [h0.1, h0.2]; exact hf) a b d.1 ) b (fun _ _ h => h) (fun _ h => h) (fun u t H1 locs1 e1 _ hp hb _ _ hS => ?_)
  obtain ⟨z1, z2⟩ := hp
  rw [h0.1, h0.2]
  rw [z1, z2, e1] at hb
  exact kk H1 locs1 ls hb hS d
theorem j_callSN5Vg (C : Cx p s m args meth c g nL own cc ret) {idx maxL1 : Nat}  {host : String} {y : MethodName} {cc1 : ByteArray} {ret1 : Option FieldType} {rm1 : Room} {a1 a2 a3 a4 a5 : Value} {rest : List Value} {post : WSh → WNm → Prop} {c1 s1 : Nat} (hl : MSN host own idx y cc1 maxL1 ret1 5 g) (hd : decode cc pc = .ok (.invokestatic idx, 3)) (hM : CT l g y cc1 maxL1 ret1 rm1 [a1, a2, a3, a4, a5] sh N (QV g post))  (hR : rm1.frames + 1 ≤ R.frames ∧ 8 + (maxL1 + 11) + rm1.locals ≤ R.locals) (hcat : (rest.map fun v => v.category).sum ≤ 8) (h0 : cells + rm1.cells = c1 ∧ slots + rm1.slots = s1) (hf : c1 ≤ R.cells ∧ s1 ≤ R.slots) (kk : ∀ (sh1 : WSh) (N1 : WNm), post sh1 N1 → J p l e R s m args below meth c Q g nL sh1 N1 c1 s1 (pc + 3) lv rest) : J p l e R s m args below meth c Q g nL sh N cells slots pc lv (a5 :: a4 :: a3 :: a2 :: a1 :: rest) := by
  intro H locs ls a b d
  refine va_callv (run_SN (As := [a1, a2, a3, a4, a5]) (rest := rest) C hl hd hM rfl hR hcat (by rw [h0.1, h0.2]; exact hf) a b d.1 ) b (fun _ _ h => h) (fun _ h => h) (fun u t H1 locs1 e1 _ hp hb _ _ hS => ?_)
  rw [h0.1, h0.2]
  rw [e1] at hb
  exact kk u.1 u.2 hp H1 locs1 ls hb hS d
theorem j_callIN0V (C : Cx p s m args meth c g nL own cc ret) {idx maxL1 : Nat} {i : Nat} {host : String} {y : MethodName} {cc1 : ByteArray}  {rm1 : Room}  {rest : List Value} {F : WNm} (hl : MIN host own idx y cc1 maxL1 0 g) (hd : decode cc pc = .ok (.invokespecial idx, 3)) (hM : CT l g y cc1 maxL1 none rm1 (.ref (sh.2.2 i) :: []) sh N (QFv g sh F))  (hR : rm1.frames + 1 ≤ R.frames ∧ 8 + (maxL1 + 11) + rm1.locals ≤ R.locals) (hcat : (rest.map fun v => v.category).sum ≤ 8) (h0 : rm1.cells = 0 ∧ rm1.slots = 0) (hf : cells ≤ R.cells ∧ slots ≤ R.slots) (kk : J p l e R s m args below meth c Q g nL sh F cells slots (pc + 3) lv rest) : J p l e R s m args below meth c Q g nL sh N cells slots pc lv (.ref (sh.2.2 i) :: rest) := by
  intro H locs ls a b d
  refine va_callv (run_IN (As := []) (rest := rest) C hl hd hM rfl hR hcat (by rw [h0.1, h0.2]; exact hf) a b d.1 ) b (fun _ _ h => h) (fun _ h => h) (fun u t H1 locs1 e1 _ hp hb _ _ hS => ?_)
  obtain ⟨z1, z2⟩ := hp
  rw [h0.1, h0.2]
  rw [z1, z2, e1] at hb
  exact kk H1 locs1 ls hb hS d
theorem j_callIN0Vg (C : Cx p s m args meth c g nL own cc ret) {idx maxL1 : Nat} {i : Nat} {host : String} {y : MethodName} {cc1 : ByteArray}  {rm1 : Room}  {rest : List Value} {post : WSh → WNm → Prop} {c1 s1 : Nat} (hl : MIN host own idx y cc1 maxL1 0 g) (hd : decode cc pc = .ok (.invokespecial idx, 3)) (hM : CT l g y cc1 maxL1 none rm1 (.ref (sh.2.2 i) :: []) sh N (QV g post))  (hR : rm1.frames + 1 ≤ R.frames ∧ 8 + (maxL1 + 11) + rm1.locals ≤ R.locals) (hcat : (rest.map fun v => v.category).sum ≤ 8) (h0 : cells + rm1.cells = c1 ∧ slots + rm1.slots = s1) (hf : c1 ≤ R.cells ∧ s1 ≤ R.slots) (kk : ∀ (sh1 : WSh) (N1 : WNm), post sh1 N1 → J p l e R s m args below meth c Q g nL sh1 N1 c1 s1 (pc + 3) lv rest) : J p l e R s m args below meth c Q g nL sh N cells slots pc lv (.ref (sh.2.2 i) :: rest) := by
  intro H locs ls a b d
  refine va_callv (run_IN (As := []) (rest := rest) C hl hd hM rfl hR hcat (by rw [h0.1, h0.2]; exact hf) a b d.1 ) b (fun _ _ h => h) (fun _ h => h) (fun u t H1 locs1 e1 _ hp hb _ _ hS => ?_)
  rw [h0.1, h0.2]
  rw [e1] at hb
  exact kk u.1 u.2 hp H1 locs1 ls hb hS d
theorem j_callIN1V (C : Cx p s m args meth c g nL own cc ret) {idx maxL1 : Nat} {i : Nat} {host : String} {y : MethodName} {cc1 : ByteArray}  {rm1 : Room} {a1 : Value} {rest : List Value} {F : WNm} (hl : MIN host own idx y cc1 maxL1 1 g) (hd : decode cc pc = .ok (.invokespecial idx, 3)) (hM : CT l g y cc1 maxL1 none rm1 (.ref (sh.2.2 i) :: [a1]) sh N (QFv g sh F))  (hR : rm1.frames + 1 ≤ R.frames ∧ 8 + (maxL1 + 11) + rm1.locals ≤ R.locals) (hcat : (rest.map fun v => v.category).sum ≤ 8) (h0 : rm1.cells = 0 ∧ rm1.slots = 0) (hf : cells ≤ R.cells ∧ slots ≤ R.slots) (kk : J p l e R s m args below meth c Q g nL sh F cells slots (pc + 3) lv rest) : J p l e R s m args below meth c Q g nL sh N cells slots pc lv (a1 :: .ref (sh.2.2 i) :: rest) := by
  intro H locs ls a b d
  refine va_callv (run_IN (As := [a1]) (rest := rest) C hl hd hM rfl hR hcat (by rw [h0.1, h0.2]; exact hf) a b d.1 ) b (fun _ _ h => h) (fun _ h => h) (fun u t H1 locs1 e1 _ hp hb _ _ hS => ?_)
  obtain ⟨z1, z2⟩ := hp
  rw [h0.1, h0.2]
  rw [z1, z2, e1] at hb
  exact kk H1 locs1 ls hb hS d
theorem j_callIN1Vg (C : Cx p s m args meth c g nL own cc ret) {idx maxL1 : Nat} {i : Nat} {host : String} {y : MethodName} {cc1 : ByteArray}  {rm1 : Room} {a1 : Value} {rest : List Value} {post : WSh → WNm → Prop} {c1 s1 : Nat} (hl : MIN host own idx y cc1 maxL1 1 g) (hd : decode cc pc = .ok (.invokespecial idx, 3)) (hM : CT l g y cc1 maxL1 none rm1 (.ref (sh.2.2 i) :: [a1]) sh N (QV g post))  (hR : rm1.frames + 1 ≤ R.frames ∧ 8 + (maxL1 + 11) + rm1.locals ≤ R.locals) (hcat : (rest.map fun v => v.category).sum ≤ 8) (h0 : cells + rm1.cells = c1 ∧ slots + rm1.slots = s1) (hf : c1 ≤ R.cells ∧ s1 ≤ R.slots) (kk : ∀ (sh1 : WSh) (N1 : WNm), post sh1 N1 → J p l e R s m args below meth c Q g nL sh1 N1 c1 s1 (pc + 3) lv rest) : J p l e R s m args below meth c Q g nL sh N cells slots pc lv (a1 :: .ref (sh.2.2 i) :: rest) := by
  intro H locs ls a b d
  refine va_callv (run_IN (As := [a1]) (rest := rest) C hl hd hM rfl hR hcat (by rw [h0.1, h0.2]; exact hf) a b d.1 ) b (fun _ _ h => h) (fun _ h => h) (fun u t H1 locs1 e1 _ hp hb _ _ hS => ?_)
  rw [h0.1, h0.2]
  rw [e1] at hb
  exact kk u.1 u.2 hp H1 locs1 ls hb hS d
theorem j_callIN2V (C : Cx p s m args meth c g nL own cc ret) {idx maxL1 : Nat} {i : Nat} {host : String} {y : MethodName} {cc1 : ByteArray}  {rm1 : Room} {a1 a2 : Value} {rest : List Value} {F : WNm} (hl : MIN host own idx y cc1 maxL1 2 g) (hd : decode cc pc = .ok (.invokespecial idx, 3)) (hM : CT l g y cc1 maxL1 none rm1 (.ref (sh.2.2 i) :: [a1, a2]) sh N (QFv g sh F))  (hR : rm1.frames + 1 ≤ R.frames ∧ 8 + (maxL1 + 11) + rm1.locals ≤ R.locals) (hcat : (rest.map fun v => v.category).sum ≤ 8) (h0 : rm1.cells = 0 ∧ rm1.slots = 0) (hf : cells ≤ R.cells ∧ slots ≤ R.slots) (kk : J p l e R s m args below meth c Q g nL sh F cells slots (pc + 3) lv rest) : J p l e R s m args below meth c Q g nL sh N cells slots pc lv (a2 :: a1 :: .ref (sh.2.2 i) :: rest) := by
  intro H locs ls a b d
  refine va_callv (run_IN (As := [a1, a2]) (rest := rest) C hl hd hM rfl hR hcat (by rw [h0.1, h0.2]; exact hf) a b d.1 ) b (fun _ _ h => h) (fun _ h => h) (fun u t H1 locs1 e1 _ hp hb _ _ hS => ?_)
  obtain ⟨z1, z2⟩ := hp
  rw [h0.1, h0.2]
  rw [z1, z2, e1] at hb
  exact kk H1 locs1 ls hb hS d
theorem j_callIN2Vg (C : Cx p s m args meth c g nL own cc ret) {idx maxL1 : Nat} {i : Nat} {host : String} {y : MethodName} {cc1 : ByteArray}  {rm1 : Room} {a1 a2 : Value} {rest : List Value} {post : WSh → WNm → Prop} {c1 s1 : Nat} (hl : MIN host own idx y cc1 maxL1 2 g) (hd : decode cc pc = .ok (.invokespecial idx, 3)) (hM : CT l g y cc1 maxL1 none rm1 (.ref (sh.2.2 i) :: [a1, a2]) sh N (QV g post))  (hR : rm1.frames + 1 ≤ R.frames ∧ 8 + (maxL1 + 11) + rm1.locals ≤ R.locals) (hcat : (rest.map fun v => v.category).sum ≤ 8) (h0 : cells + rm1.cells = c1 ∧ slots + rm1.slots = s1) (hf : c1 ≤ R.cells ∧ s1 ≤ R.slots) (kk : ∀ (sh1 : WSh) (N1 : WNm), post sh1 N1 → J p l e R s m args below meth c Q g nL sh1 N1 c1 s1 (pc + 3) lv rest) : J p l e R s m args below meth c Q g nL sh N cells slots pc lv (a2 :: a1 :: .ref (sh.2.2 i) :: rest) := by
  intro H locs ls a b d
  refine va_callv (run_IN (As := [a1, a2]) (rest := rest) C hl hd hM rfl hR hcat (by rw [h0.1, h0.2]; exact hf) a b d.1 ) b (fun _ _ h => h) (fun _ h => h) (fun u t H1 locs1 e1 _ hp hb _ _ hS => ?_)
  rw [h0.1, h0.2]
  rw [e1] at hb
  exact kk u.1 u.2 hp H1 locs1 ls hb hS d
theorem j_callIN3V (C : Cx p s m args meth c g nL own cc ret) {idx maxL1 : Nat} {i : Nat} {host : String} {y : MethodName} {cc1 : ByteArray}  {rm1 : Room} {a1 a2 a3 : Value} {rest : List Value} {F : WNm} (hl : MIN host own idx y cc1 maxL1 3 g) (hd : decode cc pc = .ok (.invokespecial idx, 3)) (hM : CT l g y cc1 maxL1 none rm1 (.ref (sh.2.2 i) :: [a1, a2, a3]) sh N (QFv g sh F))  (hR : rm1.frames + 1 ≤ R.frames ∧ 8 + (maxL1 + 11) + rm1.locals ≤ R.locals) (hcat : (rest.map fun v => v.category).sum ≤ 8) (h0 : rm1.cells = 0 ∧ rm1.slots = 0) (hf : cells ≤ R.cells ∧ slots ≤ R.slots) (kk : J p l e R s m args below meth c Q g nL sh F cells slots (pc + 3) lv rest) : J p l e R s m args below meth c Q g nL sh N cells slots pc lv (a3 :: a2 :: a1 :: .ref (sh.2.2 i) :: rest) := by
  intro H locs ls a b d
  refine va_callv (run_IN (As := [a1, a2, a3]) (rest := rest) C hl hd hM rfl hR hcat (by rw [h0.1, h0.2]; exact hf) a b d.1 ) b (fun _ _ h => h) (fun _ h => h) (fun u t H1 locs1 e1 _ hp hb _ _ hS => ?_)
  obtain ⟨z1, z2⟩ := hp
  rw [h0.1, h0.2]
  rw [z1, z2, e1] at hb
  exact kk H1 locs1 ls hb hS d
theorem j_callIN3Vg (C : Cx p s m args meth c g nL own cc ret) {idx maxL1 : Nat} {i : Nat} {host : String} {y : MethodName} {cc1 : ByteArray}  {rm1 : Room} {a1 a2 a3 : Value} {rest : List Value} {post : WSh → WNm → Prop} {c1 s1 : Nat} (hl : MIN host own idx y cc1 maxL1 3 g) (hd : decode cc pc = .ok (.invokespecial idx, 3)) (hM : CT l g y cc1 maxL1 none rm1 (.ref (sh.2.2 i) :: [a1, a2, a3]) sh N (QV g post))  (hR : rm1.frames + 1 ≤ R.frames ∧ 8 + (maxL1 + 11) + rm1.locals ≤ R.locals) (hcat : (rest.map fun v => v.category).sum ≤ 8) (h0 : cells + rm1.cells = c1 ∧ slots + rm1.slots = s1) (hf : c1 ≤ R.cells ∧ s1 ≤ R.slots) (kk : ∀ (sh1 : WSh) (N1 : WNm), post sh1 N1 → J p l e R s m args below meth c Q g nL sh1 N1 c1 s1 (pc + 3) lv rest) : J p l e R s m args below meth c Q g nL sh N cells slots pc lv (a3 :: a2 :: a1 :: .ref (sh.2.2 i) :: rest) := by
  intro H locs ls a b d
  refine va_callv (run_IN (As := [a1, a2, a3]) (rest := rest) C hl hd hM rfl hR hcat (by rw [h0.1, h0.2]; exact hf) a b d.1 ) b (fun _ _ h => h) (fun _ h => h) (fun u t H1 locs1 e1 _ hp hb _ _ hS => ?_)
  rw [h0.1, h0.2]
  rw [e1] at hb
  exact kk u.1 u.2 hp H1 locs1 ls hb hS d
theorem j_callIN4V (C : Cx p s m args meth c g nL own cc ret) {idx maxL1 : Nat} {i : Nat} {host : String} {y : MethodName} {cc1 : ByteArray}  {rm1 : Room} {a1 a2 a3 a4 : Value} {rest : List Value} {F : WNm} (hl : MIN host own idx y cc1 maxL1 4 g) (hd : decode cc pc = .ok (.invokespecial idx, 3)) (hM : CT l g y cc1 maxL1 none rm1 (.ref (sh.2.2 i) :: [a1, a2, a3, a4]) sh N (QFv g sh F))  (hR : rm1.frames + 1 ≤ R.frames ∧ 8 + (maxL1 + 11) + rm1.locals ≤ R.locals) (hcat : (rest.map fun v => v.category).sum ≤ 8) (h0 : rm1.cells = 0 ∧ rm1.slots = 0) (hf : cells ≤ R.cells ∧ slots ≤ R.slots) (kk : J p l e R s m args below meth c Q g nL sh F cells slots (pc + 3) lv rest) : J p l e R s m args below meth c Q g nL sh N cells slots pc lv (a4 :: a3 :: a2 :: a1 :: .ref (sh.2.2 i) :: rest) := by
  intro H locs ls a b d
  refine va_callv (run_IN (As := [a1, a2, a3, a4]) (rest := rest) C hl hd hM rfl hR hcat (by rw [h0.1, h0.2]; exact hf) a b d.1 ) b (fun _ _ h => h) (fun _ h => h) (fun u t H1 locs1 e1 _ hp hb _ _ hS => ?_)
  obtain ⟨z1, z2⟩ := hp
  rw [h0.1, h0.2]
  rw [z1, z2, e1] at hb
  exact kk H1 locs1 ls hb hS d
theorem j_callIN4Vg (C : Cx p s m args meth c g nL own cc ret) {idx maxL1 : Nat} {i : Nat} {host : String} {y : MethodName} {cc1 : ByteArray}  {rm1 : Room} {a1 a2 a3 a4 : Value} {rest : List Value} {post : WSh → WNm → Prop} {c1 s1 : Nat} (hl : MIN host own idx y cc1 maxL1 4 g) (hd : decode cc pc = .ok (.invokespecial idx, 3)) (hM : CT l g y cc1 maxL1 none rm1 (.ref (sh.2.2 i) :: [a1, a2, a3, a4]) sh N (QV g post))  (hR : rm1.frames + 1 ≤ R.frames ∧ 8 + (maxL1 + 11) + rm1.locals ≤ R.locals) (hcat : (rest.map fun v => v.category).sum ≤ 8) (h0 : cells + rm1.cells = c1 ∧ slots + rm1.slots = s1) (hf : c1 ≤ R.cells ∧ s1 ≤ R.slots) (kk : ∀ (sh1 : WSh) (N1 : WNm), post sh1 N1 → J p l e R s m args below meth c Q g nL sh1 N1 c1 s1 (pc + 3) lv rest) : J p l e R s m args below meth c Q g nL sh N cells slots pc lv (a4 :: a3 :: a2 :: a1 :: .ref (sh.2.2 i) :: rest) := by
  intro H locs ls a b d
  refine va_callv (run_IN (As := [a1, a2, a3, a4]) (rest := rest) C hl hd hM rfl hR hcat (by rw [h0.1, h0.2]; exact hf) a b d.1 ) b (fun _ _ h => h) (fun _ h => h) (fun u t H1 locs1 e1 _ hp hb _ _ hS => ?_)
  rw [h0.1, h0.2]
  rw [e1] at hb
  exact kk u.1 u.2 hp H1 locs1 ls hb hS d
theorem j_callIN5V (C : Cx p s m args meth c g nL own cc ret) {idx maxL1 : Nat} {i : Nat} {host : String} {y : MethodName} {cc1 : ByteArray}  {rm1 : Room} {a1 a2 a3 a4 a5 : Value} {rest : List Value} {F : WNm} (hl : MIN host own idx y cc1 maxL1 5 g) (hd : decode cc pc = .ok (.invokespecial idx, 3)) (hM : CT l g y cc1 maxL1 none rm1 (.ref (sh.2.2 i) :: [a1, a2, a3, a4, a5]) sh N (QFv g sh F))  (hR : rm1.frames + 1 ≤ R.frames ∧ 8 + (maxL1 + 11) + rm1.locals ≤ R.locals) (hcat : (rest.map fun v => v.category).sum ≤ 8) (h0 : rm1.cells = 0 ∧ rm1.slots = 0) (hf : cells ≤ R.cells ∧ slots ≤ R.slots) (kk : J p l e R s m args below meth c Q g nL sh F cells slots (pc + 3) lv rest) : J p l e R s m args below meth c Q g nL sh N cells slots pc lv (a5 :: a4 :: a3 :: a2 :: a1 :: .ref (sh.2.2 i) :: rest) := by
  intro H locs ls a b d
  refine va_callv (run_IN (As := [a1, a2, a3, a4, a5]) (rest := rest) C hl hd hM rfl hR hcat (by rw [h0.1, h0.2]; exact hf) a b d.1 ) b (fun _ _ h => h) (fun _ h => h) (fun u t H1 locs1 e1 _ hp hb _ _ hS => ?_)
  obtain ⟨z1, z2⟩ := hp
  rw [h0.1, h0.2]
  rw [z1, z2, e1] at hb
  exact kk H1 locs1 ls hb hS d
theorem j_callIN5Vg (C : Cx p s m args meth c g nL own cc ret) {idx maxL1 : Nat} {i : Nat} {host : String} {y : MethodName} {cc1 : ByteArray}  {rm1 : Room} {a1 a2 a3 a4 a5 : Value} {rest : List Value} {post : WSh → WNm → Prop} {c1 s1 : Nat} (hl : MIN host own idx y cc1 maxL1 5 g) (hd : decode cc pc = .ok (.invokespecial idx, 3)) (hM : CT l g y cc1 maxL1 none rm1 (.ref (sh.2.2 i) :: [a1, a2, a3, a4, a5]) sh N (QV g post))  (hR : rm1.frames + 1 ≤ R.frames ∧ 8 + (maxL1 + 11) + rm1.locals ≤ R.locals) (hcat : (rest.map fun v => v.category).sum ≤ 8) (h0 : cells + rm1.cells = c1 ∧ slots + rm1.slots = s1) (hf : c1 ≤ R.cells ∧ s1 ≤ R.slots) (kk : ∀ (sh1 : WSh) (N1 : WNm), post sh1 N1 → J p l e R s m args below meth c Q g nL sh1 N1 c1 s1 (pc + 3) lv rest) : J p l e R s m args below meth c Q g nL sh N cells slots pc lv (a5 :: a4 :: a3 :: a2 :: a1 :: .ref (sh.2.2 i) :: rest) := by
  intro H locs ls a b d
  refine va_callv (run_IN (As := [a1, a2, a3, a4, a5]) (rest := rest) C hl hd hM rfl hR hcat (by rw [h0.1, h0.2]; exact hf) a b d.1 ) b (fun _ _ h => h) (fun _ h => h) (fun u t H1 locs1 e1 _ hp hb _ _ hS => ?_)
  rw [h0.1, h0.2]
  rw [e1] at hb
  exact kk u.1 u.2 hp H1 locs1 ls hb hS d
end Calls
end
section
theorem ml_L_9 : MI RL 9 yX6_init cX6_init 1 0 := MI.of 87 88 65 89 (by decide +kernel) (by decide +kernel) (by decide +kernel) (by decide +kernel) rfl ⟨by decide +kernel, by decide +kernel, by decide +kernel⟩
theorem ml_X6_24 : MI RX6 24 yJx4a65c_init_da8c8 cJx4a65c_init_da8c8 1 0 := MI.of 95 96 68 97 (by decide +kernel) (by decide +kernel) (by decide +kernel) (by decide +kernel) rfl ⟨by decide +kernel, by decide +kernel, by decide +kernel⟩
theorem ml_Jx4a65c_1 : MI RJx4a65c 1 yJxc12de_init_da8c8 cJxc12de_init_da8c8 1 0 := MI.of 98 99 67 100 (by decide +kernel) (by decide +kernel) (by decide +kernel) (by decide +kernel) rfl ⟨by decide +kernel, by decide +kernel, by decide +kernel⟩
theorem ml_Jxc12de_1 : MI RJxc12de 1 yJxa1e45_init_da8c8 cJxa1e45_init_da8c8 1 0 := MI.of 101 102 66 103 (by decide +kernel) (by decide +kernel) (by decide +kernel) (by decide +kernel) rfl ⟨by decide +kernel, by decide +kernel, by decide +kernel⟩
theorem fl_Jx4a65c_9 : FL RJx4a65c 9 8 1 := FL.of 107 (by decide) (by decide) (by decide +kernel)
theorem fl_Jx4a65c_48 : FL RJx4a65c 48 8 2 := FL.of 108 (by decide) (by decide) (by decide +kernel)
theorem fl_Jxc12de_7 : FL RJxc12de 7 8 0 := FL.of 109 (by decide) (by decide) (by decide +kernel)
theorem fl_Jx4a65c_63 : FL RJx4a65c 63 8 0 := ⟨by decide, by decide, "java/util/ArrayList", tbl_in 110 (by decide +kernel) rfl, Or.inr (tbl_in 111 (by decide +kernel) rfl)⟩
theorem fl_X3_9 : FL RX3 9 3 0 := FL.of 132 (by decide) (by decide) (by decide +kernel)
theorem fl_X3_15 : FL RX3 15 3 1 := FL.of 133 (by decide) (by decide) (by decide +kernel)
theorem fl_X6_138 : FL RX6 138 3 1 := FL.of 134 (by decide) (by decide) (by decide +kernel)
theorem fl_X2_79 : FL RX2 79 3 1 := FL.of 135 (by decide) (by decide) (by decide +kernel)
theorem fl_X2_12 : FL RX2 12 2 0 := FL.of 141 (by decide) (by decide) (by decide +kernel)
theorem fl_X6_134 : FL RX6 134 2 0 := FL.of 142 (by decide) (by decide) (by decide +kernel)
theorem fl_X2_22 : FL RX2 22 2 1 := FL.of 143 (by decide) (by decide) (by decide +kernel)
theorem fl_X2_36 : FL RX2 36 2 2 := FL.of 144 (by decide) (by decide) (by decide +kernel)
theorem fl_X2_39 : FL RX2 39 2 3 := FL.of 145 (by decide) (by decide) (by decide +kernel)
theorem fl_X2_70 : FL RX2 70 2 4 := FL.of 146 (by decide) (by decide) (by decide +kernel)
theorem fl_X2_18 : FL RX2 18 2 5 := FL.of 147 (by decide) (by decide) (by decide +kernel)
theorem fl_X2_26 : FL RX2 26 2 6 := FL.of 148 (by decide) (by decide) (by decide +kernel)
theorem fl_X4_11 : FL RX4 11 4 0 := FL.of 170 (by decide) (by decide) (by decide +kernel)
theorem fl_X4_15 : FL RX4 15 4 1 := FL.of 171 (by decide) (by decide) (by decide +kernel)
theorem fl_X6_9 : FL RX6 9 6 0 := FL.of 177 (by decide) (by decide) (by decide +kernel)
theorem fl_X6_101 : FL RX6 101 6 1 := FL.of 178 (by decide) (by decide) (by decide +kernel)
theorem fl_X6_62 : FL RX6 62 6 2 := FL.of 179 (by decide) (by decide) (by decide +kernel)
theorem fl_X6_13 : FL RX6 13 6 3 := FL.of 180 (by decide) (by decide) (by decide +kernel)
theorem fl_X6_16 : FL RX6 16 6 4 := FL.of 181 (by decide) (by decide) (by decide +kernel)
theorem fl_X6_66 : FL RX6 66 6 5 := FL.of 182 (by decide) (by decide) (by decide +kernel)
theorem fl_X6_19 : FL RX6 19 6 6 := FL.of 183 (by decide) (by decide) (by decide +kernel)
theorem fl_X6_25 : FL RX6 25 6 7 := FL.of 184 (by decide) (by decide) (by decide +kernel)
theorem fl_X6_29 : FL RX6 29 6 8 := FL.of 185 (by decide) (by decide) (by decide +kernel)
theorem fl_X6_32 : FL RX6 32 6 9 := FL.of 186 (by decide) (by decide) (by decide +kernel)
theorem fl_X6_38 : FL RX6 38 6 10 := FL.of 187 (by decide) (by decide) (by decide +kernel)
theorem fl_X6_45 : FL RX6 45 6 11 := FL.of 188 (by decide) (by decide) (by decide +kernel)
theorem fl_X6_49 : FL RX6 49 6 12 := FL.of 189 (by decide) (by decide) (by decide +kernel)
theorem fl_X6_122 : FL RX6 122 6 13 := FL.of 190 (by decide) (by decide) (by decide +kernel)
theorem ml_L_13 : MV RL 13 yX6_purse cX6_purse 3 (some .int) 2 := MV.of 220 221 222 65 223 (by decide +kernel) (by decide +kernel) (by decide +kernel) (by decide +kernel) (by decide +kernel) ⟨by decide +kernel, by decide +kernel, by decide +kernel⟩
theorem ml_X6_52 : MS RX6 52 yX6_isPerson cX6_isPerson 1 (some .boolean) 1 := MS.of 224 225 65 226 (by decide +kernel) (by decide +kernel) (by decide +kernel) (by decide +kernel) ⟨by decide +kernel, by decide +kernel, by decide +kernel⟩
theorem ml_X6_57 : MS RX6 57 yX6_within cX6_within 3 (some .boolean) 3 := MS.of 227 228 65 229 (by decide +kernel) (by decide +kernel) (by decide +kernel) (by decide +kernel) ⟨by decide +kernel, by decide +kernel, by decide +kernel⟩
theorem kc_X6_56 : Cond.constant RX6 56 (100000) ∈ TBL := tbl_in 230 (by decide +kernel) rfl
theorem kc_X6_61 : Cond.constant RX6 61 (-2000000000) ∈ TBL := tbl_in 231 (by decide +kernel) rfl
theorem ml_L_18 : MV RL 18 yX6_port cX6_port 4 (some .int) 1 := MV.of 232 233 234 65 235 (by decide +kernel) (by decide +kernel) (by decide +kernel) (by decide +kernel) (by decide +kernel) ⟨by decide +kernel, by decide +kernel, by decide +kernel⟩
theorem ml_X6_69 : MV RX6 69 yX6_allAreHome cX6_allAreHome 2 (some .boolean) 0 := MV.of 236 238 0 65 239 (by decide +kernel) (by decide +kernel) (by decide +kernel) (by decide +kernel) (by decide +kernel) ⟨by decide +kernel, by decide +kernel, by decide +kernel⟩
theorem ml_X6_73 : MV RX6 73 yJx4a65c_size_8abf5 cJx4a65c_size_8abf5 1 (some .int) 0 := MV.of 240 241 242 68 243 (by decide +kernel) (by decide +kernel) (by decide +kernel) (by decide +kernel) (by decide +kernel) ⟨by decide +kernel, by decide +kernel, by decide +kernel⟩
theorem ml_X6_213 : MV RX6 213 yJx4a65c_get_915e3 cJx4a65c_get_915e3 2 (some (.object "java/lang/Object")) 1 := MV.of 244 245 246 68 247 (by decide +kernel) (by decide +kernel) (by decide +kernel) (by decide +kernel) (by decide +kernel) ⟨by decide +kernel, by decide +kernel, by decide +kernel⟩
theorem ml_Jx4a65c_118 : MS RJx4a65c 118 yJ15_checkIndex_7cf53 cJ15_checkIndex_7cf53 2 (some .int) 2 := MS.of 248 249 73 250 (by decide +kernel) (by decide +kernel) (by decide +kernel) (by decide +kernel) ⟨by decide +kernel, by decide +kernel, by decide +kernel⟩
theorem ml_J15_105 : MS RJ15 105 yJ3_checkIndex_8e157 cJ3_checkIndex_8e157 3 (some .int) 3 := MS.of 251 252 74 253 (by decide +kernel) (by decide +kernel) (by decide +kernel) (by decide +kernel) ⟨by decide +kernel, by decide +kernel, by decide +kernel⟩
theorem ml_Jx4a65c_123 : MV RJx4a65c 123 yJx4a65c_elementData_915e3 cJx4a65c_elementData_915e3 2 (some (.object "java/lang/Object")) 1 := MV.of 254 255 256 68 257 (by decide +kernel) (by decide +kernel) (by decide +kernel) (by decide +kernel) (by decide +kernel) ⟨by decide +kernel, by decide +kernel, by decide +kernel⟩
theorem ml_L_23 : MV RL 23 yX6_wind cX6_wind 4 (some .int) 2 := MV.of 259 260 261 65 262 (by decide +kernel) (by decide +kernel) (by decide +kernel) (by decide +kernel) (by decide +kernel) ⟨by decide +kernel, by decide +kernel, by decide +kernel⟩
theorem ml_L_27 : MV RL 27 yX6_galley cX6_galley 6 (some .int) 4 := MV.of 263 264 265 65 266 (by decide +kernel) (by decide +kernel) (by decide +kernel) (by decide +kernel) (by decide +kernel) ⟨by decide +kernel, by decide +kernel, by decide +kernel⟩
theorem ml_X6_79 : MI RX6 79 yX1_init cX1_init 6 5 := MI.of 268 269 75 270 (by decide +kernel) (by decide +kernel) (by decide +kernel) (by decide +kernel) rfl ⟨by decide +kernel, by decide +kernel, by decide +kernel⟩
theorem fl_X1_25 : FL RX1 25 1 0 := FL.of 272 (by decide) (by decide) (by decide +kernel)
theorem fl_X0_49 : FL RX0 49 1 0 := FL.of 273 (by decide) (by decide) (by decide +kernel)
theorem fl_X4_30 : FL RX4 30 1 0 := FL.of 274 (by decide) (by decide) (by decide +kernel)
theorem fl_X6_304 : FL RX6 304 1 0 := FL.of 275 (by decide) (by decide) (by decide +kernel)
theorem fl_X1_28 : FL RX1 28 1 1 := FL.of 276 (by decide) (by decide) (by decide +kernel)
theorem fl_X1_31 : FL RX1 31 1 2 := FL.of 277 (by decide) (by decide) (by decide +kernel)
theorem fl_X1_34 : FL RX1 34 1 3 := FL.of 278 (by decide) (by decide) (by decide +kernel)
theorem fl_X6_254 : FL RX6 254 1 3 := FL.of 279 (by decide) (by decide) (by decide +kernel)
theorem fl_X1_37 : FL RX1 37 1 4 := FL.of 280 (by decide) (by decide) (by decide +kernel)
theorem fl_X6_195 : FL RX6 195 1 4 := FL.of 281 (by decide) (by decide) (by decide +kernel)
theorem fl_X1_9 : FL RX1 9 1 5 := FL.of 282 (by decide) (by decide) (by decide +kernel)
theorem fl_X6_108 : FL RX6 108 1 5 := FL.of 283 (by decide) (by decide) (by decide +kernel)
theorem fl_X6_95 : FL RX6 95 1 6 := FL.of 284 (by decide) (by decide) (by decide +kernel)
theorem fl_X1_75 : FL RX1 75 1 6 := FL.of 285 (by decide) (by decide) (by decide +kernel)
theorem fl_X6_98 : FL RX6 98 1 7 := FL.of 286 (by decide) (by decide) (by decide +kernel)
theorem fl_X1_40 : FL RX1 40 1 8 := FL.of 287 (by decide) (by decide) (by decide +kernel)
theorem fl_X6_91 : FL RX6 91 1 8 := FL.of 288 (by decide) (by decide) (by decide +kernel)
theorem fl_X1_15 : FL RX1 15 1 9 := FL.of 289 (by decide) (by decide) (by decide +kernel)
theorem fl_X6_166 : FL RX6 166 1 9 := FL.of 290 (by decide) (by decide) (by decide +kernel)
theorem fl_X1_19 : FL RX1 19 1 10 := FL.of 291 (by decide) (by decide) (by decide +kernel)
theorem fl_X4_24 : FL RX4 24 1 10 := FL.of 292 (by decide) (by decide) (by decide +kernel)
theorem fl_X6_180 : FL RX6 180 1 10 := FL.of 293 (by decide) (by decide) (by decide +kernel)
theorem fl_X1_22 : FL RX1 22 1 11 := FL.of 294 (by decide) (by decide) (by decide +kernel)
theorem fl_X4_33 : FL RX4 33 1 11 := FL.of 295 (by decide) (by decide) (by decide +kernel)
theorem fl_X6_288 : FL RX6 288 1 11 := FL.of 296 (by decide) (by decide) (by decide +kernel)
theorem fl_X1_44 : FL RX1 44 1 12 := FL.of 297 (by decide) (by decide) (by decide +kernel)
theorem fl_X6_251 : FL RX6 251 1 12 := FL.of 298 (by decide) (by decide) (by decide +kernel)
theorem fl_X1_69 : FL RX1 69 1 13 := FL.of 299 (by decide) (by decide) (by decide +kernel)
theorem fl_X6_192 : FL RX6 192 1 13 := FL.of 300 (by decide) (by decide) (by decide +kernel)
theorem fl_X1_47 : FL RX1 47 1 14 := FL.of 301 (by decide) (by decide) (by decide +kernel)
theorem fl_X4_36 : FL RX4 36 1 15 := FL.of 302 (by decide) (by decide) (by decide +kernel)
theorem fl_X1_53 : FL RX1 53 1 15 := FL.of 303 (by decide) (by decide) (by decide +kernel)
theorem fl_X1_62 : FL RX1 62 1 16 := FL.of 304 (by decide) (by decide) (by decide +kernel)
theorem fl_X1_72 : FL RX1 72 1 17 := FL.of 305 (by decide) (by decide) (by decide +kernel)
theorem fl_X6_279 : FL RX6 279 1 17 := FL.of 306 (by decide) (by decide) (by decide +kernel)
theorem ml_X6_82 : MV RX6 82 yJx4a65c_add_9ea2d cJx4a65c_add_9ea2d 2 (some .boolean) 1 := MV.of 344 345 346 68 347 (by decide +kernel) (by decide +kernel) (by decide +kernel) (by decide +kernel) (by decide +kernel) ⟨by decide +kernel, by decide +kernel, by decide +kernel⟩
theorem ml_Jx4a65c_131 : MV RJx4a65c 131 yJx4a65c_add_72be8 cJx4a65c_add_72be8 4 none 3 := MV.of 348 350 1 68 351 (by decide +kernel) (by decide +kernel) (by decide +kernel) (by decide +kernel) (by decide +kernel) ⟨by decide +kernel, by decide +kernel, by decide +kernel⟩
theorem ml_Jx4a65c_129 : MV RJx4a65c 129 yJx4a65c_grow_d5877 cJx4a65c_grow_d5877 1 (some (.array (.object "java/lang/Object"))) 0 := MV.of 352 354 2 68 355 (by decide +kernel) (by decide +kernel) (by decide +kernel) (by decide +kernel) (by decide +kernel) ⟨by decide +kernel, by decide +kernel, by decide +kernel⟩
theorem ml_Jx4a65c_69 : MV RJx4a65c 69 yJx4a65c_grow_92f84 cJx4a65c_grow_92f84 4 (some (.array (.object "java/lang/Object"))) 1 := MV.of 356 358 3 68 359 (by decide +kernel) (by decide +kernel) (by decide +kernel) (by decide +kernel) (by decide +kernel) ⟨by decide +kernel, by decide +kernel, by decide +kernel⟩
theorem ml_Jx4a65c_73 : MS RJx4a65c 73 yJ8_newLength_cabcc cJ8_newLength_cabcc 4 (some .int) 3 := MS.of 360 361 76 362 (by decide +kernel) (by decide +kernel) (by decide +kernel) (by decide +kernel) ⟨by decide +kernel, by decide +kernel, by decide +kernel⟩
theorem ml_J8_194 : MS RJ8 194 yJ9_max_7cf53 cJ9_max_7cf53 2 (some .int) 2 := MS.of 363 364 77 365 (by decide +kernel) (by decide +kernel) (by decide +kernel) (by decide +kernel) ⟨by decide +kernel, by decide +kernel, by decide +kernel⟩
theorem kc_J8_200 : Cond.constant RJ8 200 (2147483639) ∈ TBL := tbl_in 366 (by decide +kernel) rfl
theorem ml_J8_201 : MS RJ8 201 yJ8_hugeLength_7cf53 cJ8_hugeLength_7cf53 3 (some .int) 2 := MS.of 367 368 76 369 (by decide +kernel) (by decide +kernel) (by decide +kernel) (by decide +kernel) ⟨by decide +kernel, by decide +kernel, by decide +kernel⟩
theorem ml_Jx4a65c_66 : MS RJx4a65c 66 yJ7_copyOf_1904c cJ7_copyOf_1904c 2 (some (.array (.object "java/lang/Object"))) 2 := MS.of 370 371 78 372 (by decide +kernel) (by decide +kernel) (by decide +kernel) (by decide +kernel) ⟨by decide +kernel, by decide +kernel, by decide +kernel⟩
theorem ml_J7_300 : MS RJ7 300 yJ7_copyOf_6403c cJ7_copyOf_6403c 4 (some (.array (.object "java/lang/Object"))) 3 := MS.of 386 387 78 388 (by decide +kernel) (by decide +kernel) (by decide +kernel) (by decide +kernel) ⟨by decide +kernel, by decide +kernel, by decide +kernel⟩
theorem ml_J7_304 : MS RJ7 304 yJ9_min_7cf53 cJ9_min_7cf53 2 (some .int) 2 := MS.of 392 393 77 394 (by decide +kernel) (by decide +kernel) (by decide +kernel) (by decide +kernel) ⟨by decide +kernel, by decide +kernel, by decide +kernel⟩
theorem ml_Jx4a65c_79 : MS RJx4a65c 79 yJ9_max_7cf53 cJ9_max_7cf53 2 (some .int) 2 := MS.of 398 364 77 365 (by decide +kernel) (by decide +kernel) (by decide +kernel) (by decide +kernel) ⟨by decide +kernel, by decide +kernel, by decide +kernel⟩
theorem ml_L_32 : MV RL 32 yX6_bid cX6_bid 5 (some .int) 3 := MV.of 400 401 402 65 403 (by decide +kernel) (by decide +kernel) (by decide +kernel) (by decide +kernel) (by decide +kernel) ⟨by decide +kernel, by decide +kernel, by decide +kernel⟩
theorem ml_X6_86 : MV RX6 86 yX6_galleyOf cX6_galleyOf 2 (some (.object "GalleyConvoy$Galley")) 1 := MV.of 404 406 4 65 407 (by decide +kernel) (by decide +kernel) (by decide +kernel) (by decide +kernel) (by decide +kernel) ⟨by decide +kernel, by decide +kernel, by decide +kernel⟩
theorem kc_X6_90 : Cond.constant RX6 90 (1000000) ∈ TBL := tbl_in 408 (by decide +kernel) rfl
theorem ml_L_37 : MV RL 37 yX6_let cX6_let 4 (some .int) 1 := MV.of 409 410 411 65 412 (by decide +kernel) (by decide +kernel) (by decide +kernel) (by decide +kernel) (by decide +kernel) ⟨by decide +kernel, by decide +kernel, by decide +kernel⟩
theorem ml_X6_104 : MV RX6 104 yX1_letTo cX1_letTo 2 none 1 := MV.of 413 414 415 75 416 (by decide +kernel) (by decide +kernel) (by decide +kernel) (by decide +kernel) (by decide +kernel) ⟨by decide +kernel, by decide +kernel, by decide +kernel⟩
theorem ml_L_41 : MV RL 41 yX6_part cX6_part 6 (some .int) 4 := MV.of 417 418 419 65 420 (by decide +kernel) (by decide +kernel) (by decide +kernel) (by decide +kernel) (by decide +kernel) ⟨by decide +kernel, by decide +kernel, by decide +kernel⟩
theorem ml_L_45 : MV RL 45 yX6_parts cX6_parts 4 (some .int) 2 := MV.of 421 422 423 65 424 (by decide +kernel) (by decide +kernel) (by decide +kernel) (by decide +kernel) (by decide +kernel) ⟨by decide +kernel, by decide +kernel, by decide +kernel⟩
theorem ml_L_49 : MV RL 49 yX6_bale cX6_bale 6 (some .int) 4 := MV.of 425 426 427 65 428 (by decide +kernel) (by decide +kernel) (by decide +kernel) (by decide +kernel) (by decide +kernel) ⟨by decide +kernel, by decide +kernel, by decide +kernel⟩
theorem ml_X6_111 : MV RX6 111 yX6_isRoute cX6_isRoute 2 (some .boolean) 1 := MV.of 429 431 5 65 432 (by decide +kernel) (by decide +kernel) (by decide +kernel) (by decide +kernel) (by decide +kernel) ⟨by decide +kernel, by decide +kernel, by decide +kernel⟩
theorem ml_X6_114 : MS RX6 114 yX6_isSize cX6_isSize 1 (some .boolean) 1 := MS.of 433 434 65 435 (by decide +kernel) (by decide +kernel) (by decide +kernel) (by decide +kernel) ⟨by decide +kernel, by decide +kernel, by decide +kernel⟩
theorem ml_X6_117 : MS RX6 117 yX6_isPrice cX6_isPrice 1 (some .boolean) 1 := MS.of 436 437 65 438 (by decide +kernel) (by decide +kernel) (by decide +kernel) (by decide +kernel) ⟨by decide +kernel, by decide +kernel, by decide +kernel⟩
theorem ml_X6_125 : MI RX6 125 yX0_init cX0_init 6 5 := MI.of 441 442 80 443 (by decide +kernel) (by decide +kernel) (by decide +kernel) (by decide +kernel) rfl ⟨by decide +kernel, by decide +kernel, by decide +kernel⟩
theorem kc_X0_27 : Cond.constant RX0 27 (1000000) ∈ TBL := tbl_in 445 (by decide +kernel) rfl
theorem fl_X0_18 : FL RX0 18 0 0 := FL.of 446 (by decide) (by decide) (by decide +kernel)
theorem fl_X6_285 : FL RX6 285 0 0 := FL.of 447 (by decide) (by decide) (by decide +kernel)
theorem fl_X0_21 : FL RX0 21 0 1 := FL.of 448 (by decide) (by decide) (by decide +kernel)
theorem fl_X6_316 : FL RX6 316 0 1 := FL.of 449 (by decide) (by decide) (by decide +kernel)
theorem fl_X0_24 : FL RX0 24 0 2 := FL.of 450 (by decide) (by decide) (by decide +kernel)
theorem fl_X6_265 : FL RX6 265 0 2 := FL.of 451 (by decide) (by decide) (by decide +kernel)
theorem fl_X0_28 : FL RX0 28 0 3 := FL.of 452 (by decide) (by decide) (by decide +kernel)
theorem fl_X4_39 : FL RX4 39 0 3 := FL.of 453 (by decide) (by decide) (by decide +kernel)
theorem fl_X1_59 : FL RX1 59 0 3 := FL.of 454 (by decide) (by decide) (by decide +kernel)
theorem fl_X0_31 : FL RX0 31 0 4 := FL.of 455 (by decide) (by decide) (by decide +kernel)
theorem fl_X4_44 : FL RX4 44 0 4 := FL.of 456 (by decide) (by decide) (by decide +kernel)
theorem fl_X1_50 : FL RX1 50 0 4 := FL.of 457 (by decide) (by decide) (by decide +kernel)
theorem fl_X0_34 : FL RX0 34 0 5 := FL.of 458 (by decide) (by decide) (by decide +kernel)
theorem fl_X4_47 : FL RX4 47 0 5 := FL.of 459 (by decide) (by decide) (by decide +kernel)
theorem fl_X1_56 : FL RX1 56 0 5 := FL.of 460 (by decide) (by decide) (by decide +kernel)
theorem fl_X6_327 : FL RX6 327 0 5 := FL.of 461 (by decide) (by decide) (by decide +kernel)
theorem fl_X0_37 : FL RX0 37 0 6 := FL.of 462 (by decide) (by decide) (by decide +kernel)
theorem fl_X4_50 : FL RX4 50 0 6 := FL.of 463 (by decide) (by decide) (by decide +kernel)
theorem fl_X6_330 : FL RX6 330 0 6 := FL.of 464 (by decide) (by decide) (by decide +kernel)
theorem fl_X0_40 : FL RX0 40 0 7 := FL.of 465 (by decide) (by decide) (by decide +kernel)
theorem fl_X4_53 : FL RX4 53 0 7 := FL.of 466 (by decide) (by decide) (by decide +kernel)
theorem fl_X6_282 : FL RX6 282 0 7 := FL.of 467 (by decide) (by decide) (by decide +kernel)
theorem fl_X0_43 : FL RX0 43 0 8 := FL.of 468 (by decide) (by decide) (by decide +kernel)
theorem fl_X4_56 : FL RX4 56 0 8 := FL.of 469 (by decide) (by decide) (by decide +kernel)
theorem fl_X0_9 : FL RX0 9 0 9 := FL.of 470 (by decide) (by decide) (by decide +kernel)
theorem fl_X6_217 : FL RX6 217 0 9 := FL.of 471 (by decide) (by decide) (by decide +kernel)
theorem fl_X0_15 : FL RX0 15 0 10 := FL.of 472 (by decide) (by decide) (by decide +kernel)
theorem fl_X6_307 : FL RX6 307 0 10 := FL.of 473 (by decide) (by decide) (by decide +kernel)
theorem fl_X0_46 : FL RX0 46 0 11 := FL.of 474 (by decide) (by decide) (by decide +kernel)
theorem fl_X6_322 : FL RX6 322 0 12 := FL.of 475 (by decide) (by decide) (by decide +kernel)
theorem ml_L_53 : MV RL 53 yX6_about cX6_about 4 (some .int) 2 := MV.of 503 504 505 65 506 (by decide +kernel) (by decide +kernel) (by decide +kernel) (by decide +kernel) (by decide +kernel) ⟨by decide +kernel, by decide +kernel, by decide +kernel⟩
theorem ml_X6_126 : MV RX6 126 yX6_baleOf cX6_baleOf 2 (some (.object "GalleyConvoy$Bale")) 1 := MV.of 507 509 6 65 510 (by decide +kernel) (by decide +kernel) (by decide +kernel) (by decide +kernel) (by decide +kernel) ⟨by decide +kernel, by decide +kernel, by decide +kernel⟩
theorem ml_X6_130 : MV RX6 130 yX0_tell cX0_tell 2 (some .int) 1 := MV.of 511 512 513 80 514 (by decide +kernel) (by decide +kernel) (by decide +kernel) (by decide +kernel) (by decide +kernel) ⟨by decide +kernel, by decide +kernel, by decide +kernel⟩
theorem ml_L_57 : MV RL 57 yX6_feed cX6_feed 3 (some .int) 2 := MV.of 515 516 517 65 518 (by decide +kernel) (by decide +kernel) (by decide +kernel) (by decide +kernel) (by decide +kernel) ⟨by decide +kernel, by decide +kernel, by decide +kernel⟩
theorem ml_X6_143 : MV RX6 143 yX3_append cX3_append 4 none 2 := MV.of 519 520 521 70 522 (by decide +kernel) (by decide +kernel) (by decide +kernel) (by decide +kernel) (by decide +kernel) ⟨by decide +kernel, by decide +kernel, by decide +kernel⟩
theorem ml_L_61 : MV RL 61 yX6_vote cX6_vote 3 (some .int) 1 := MV.of 523 524 525 65 526 (by decide +kernel) (by decide +kernel) (by decide +kernel) (by decide +kernel) (by decide +kernel) ⟨by decide +kernel, by decide +kernel, by decide +kernel⟩
theorem ml_X6_147 : MS RX6 147 yX6_isVoteKind cX6_isVoteKind 1 (some .boolean) 1 := MS.of 527 528 65 529 (by decide +kernel) (by decide +kernel) (by decide +kernel) (by decide +kernel) ⟨by decide +kernel, by decide +kernel, by decide +kernel⟩
theorem ml_X6_150 : MV RX6 150 yX2_read cX2_read 1 (some .int) 0 := MV.of 530 531 532 69 533 (by decide +kernel) (by decide +kernel) (by decide +kernel) (by decide +kernel) (by decide +kernel) ⟨by decide +kernel, by decide +kernel, by decide +kernel⟩
theorem ml_X2_29 : MV RX2 29 yX2_nextToken cX2_nextToken 2 none 0 := MV.of 534 536 7 69 537 (by decide +kernel) (by decide +kernel) (by decide +kernel) (by decide +kernel) (by decide +kernel) ⟨by decide +kernel, by decide +kernel, by decide +kernel⟩
theorem ml_X2_82 : MV RX2 82 yX3_at cX3_at 2 (some .int) 1 := MV.of 538 539 540 70 541 (by decide +kernel) (by decide +kernel) (by decide +kernel) (by decide +kernel) (by decide +kernel) ⟨by decide +kernel, by decide +kernel, by decide +kernel⟩
theorem ml_X2_86 : MS RX2 86 yX2_isDigit cX2_isDigit 1 (some .boolean) 1 := MS.of 543 544 69 545 (by decide +kernel) (by decide +kernel) (by decide +kernel) (by decide +kernel) ⟨by decide +kernel, by decide +kernel, by decide +kernel⟩
theorem ml_X2_89 : MV RX2 89 yX2_takeNumber cX2_takeNumber 2 none 0 := MV.of 547 549 8 69 550 (by decide +kernel) (by decide +kernel) (by decide +kernel) (by decide +kernel) (by decide +kernel) ⟨by decide +kernel, by decide +kernel, by decide +kernel⟩
theorem ml_X2_92 : MS RX2 92 yX2_isLetter cX2_isLetter 1 (some .boolean) 1 := MS.of 551 552 69 553 (by decide +kernel) (by decide +kernel) (by decide +kernel) (by decide +kernel) ⟨by decide +kernel, by decide +kernel, by decide +kernel⟩
theorem ml_X2_95 : MV RX2 95 yX2_takeWord cX2_takeWord 2 none 0 := MV.of 554 556 9 69 557 (by decide +kernel) (by decide +kernel) (by decide +kernel) (by decide +kernel) (by decide +kernel) ⟨by decide +kernel, by decide +kernel, by decide +kernel⟩
theorem ml_X2_98 : MV RX2 98 yX2_isWord cX2_isWord 4 (some .boolean) 1 := MV.of 558 560 10 69 561 (by decide +kernel) (by decide +kernel) (by decide +kernel) (by decide +kernel) (by decide +kernel) ⟨by decide +kernel, by decide +kernel, by decide +kernel⟩
theorem ml_X2_105 : MV RX2 105 yJ0_charAt_5068e cJ0_charAt_5068e 2 (some .char) 1 := MV.of 563 564 565 81 566 (by decide +kernel) (by decide +kernel) (by decide +kernel) (by decide +kernel) (by decide +kernel) ⟨by decide +kernel, by decide +kernel, by decide +kernel⟩
theorem ml_J0_492 : MV RJ0 492 yJ0_isLatin1_aae02 cJ0_isLatin1_aae02 1 (some .boolean) 0 := MV.of 567 568 569 81 570 (by decide +kernel) (by decide +kernel) (by decide +kernel) (by decide +kernel) (by decide +kernel) ⟨by decide +kernel, by decide +kernel, by decide +kernel⟩
theorem ml_J0_495 : MS RJ0 495 yJ1_charAt_3b067 cJ1_charAt_3b067 2 (some .char) 2 := MS.of 573 574 82 575 (by decide +kernel) (by decide +kernel) (by decide +kernel) (by decide +kernel) ⟨by decide +kernel, by decide +kernel, by decide +kernel⟩
theorem ml_J1_9 : MS RJ1 9 yJ0_checkIndex_df160 cJ0_checkIndex_df160 2 none 2 := MS.of 576 577 81 578 (by decide +kernel) (by decide +kernel) (by decide +kernel) (by decide +kernel) ⟨by decide +kernel, by decide +kernel, by decide +kernel⟩
theorem ml_J0_1059 : MS RJ0 1059 yJ3_checkIndex_8e157 cJ3_checkIndex_8e157 3 (some .int) 3 := MS.of 581 252 74 253 (by decide +kernel) (by decide +kernel) (by decide +kernel) (by decide +kernel) ⟨by decide +kernel, by decide +kernel, by decide +kernel⟩
theorem ml_J0_498 : MS RJ0 498 yJ2_charAt_3b067 cJ2_charAt_3b067 2 (some .char) 2 := MS.of 582 583 83 584 (by decide +kernel) (by decide +kernel) (by decide +kernel) (by decide +kernel) ⟨by decide +kernel, by decide +kernel, by decide +kernel⟩
theorem ml_J2_67 : MS RJ2 67 yJ2_checkIndex_2214a cJ2_checkIndex_2214a 2 none 2 := MS.of 585 586 83 587 (by decide +kernel) (by decide +kernel) (by decide +kernel) (by decide +kernel) ⟨by decide +kernel, by decide +kernel, by decide +kernel⟩
theorem ml_J2_48 : MS RJ2 48 yJ2_length_9d52b cJ2_length_9d52b 1 (some .int) 1 := MS.of 588 589 83 590 (by decide +kernel) (by decide +kernel) (by decide +kernel) (by decide +kernel) ⟨by decide +kernel, by decide +kernel, by decide +kernel⟩
theorem ml_J2_414 : MS RJ2 414 yJ0_checkIndex_df160 cJ0_checkIndex_df160 2 none 2 := MS.of 591 577 81 578 (by decide +kernel) (by decide +kernel) (by decide +kernel) (by decide +kernel) ⟨by decide +kernel, by decide +kernel, by decide +kernel⟩
theorem ml_J2_71 : MS RJ2 71 yJ2_getChar_3b067 cJ2_getChar_3b067 2 (some .char) 2 := MS.of 592 593 83 594 (by decide +kernel) (by decide +kernel) (by decide +kernel) (by decide +kernel) ⟨by decide +kernel, by decide +kernel, by decide +kernel⟩
theorem ml_X2_32 : MV RX2 32 yX2_readEither cX2_readEither 3 (some .boolean) 1 := MV.of 601 603 11 69 604 (by decide +kernel) (by decide +kernel) (by decide +kernel) (by decide +kernel) (by decide +kernel) ⟨by decide +kernel, by decide +kernel, by decide +kernel⟩
theorem ml_X2_48 : MV RX2 48 yX2_readBoth cX2_readBoth 3 (some .boolean) 1 := MV.of 605 607 12 69 608 (by decide +kernel) (by decide +kernel) (by decide +kernel) (by decide +kernel) (by decide +kernel) ⟨by decide +kernel, by decide +kernel, by decide +kernel⟩
theorem ml_X2_55 : MV RX2 55 yX2_readDenied cX2_readDenied 2 (some .boolean) 1 := MV.of 609 611 13 69 612 (by decide +kernel) (by decide +kernel) (by decide +kernel) (by decide +kernel) (by decide +kernel) ⟨by decide +kernel, by decide +kernel, by decide +kernel⟩
theorem ml_X2_58 : MV RX2 58 yX2_readCompared cX2_readCompared 3 (some .boolean) 1 := MV.of 613 615 14 69 616 (by decide +kernel) (by decide +kernel) (by decide +kernel) (by decide +kernel) (by decide +kernel) ⟨by decide +kernel, by decide +kernel, by decide +kernel⟩
theorem ml_X2_61 : MV RX2 61 yX2_readSum cX2_readSum 4 (some .boolean) 1 := MV.of 617 619 15 69 620 (by decide +kernel) (by decide +kernel) (by decide +kernel) (by decide +kernel) (by decide +kernel) ⟨by decide +kernel, by decide +kernel, by decide +kernel⟩
theorem ml_X2_64 : MV RX2 64 yX2_readProduct cX2_readProduct 3 (some .boolean) 1 := MV.of 621 623 16 69 624 (by decide +kernel) (by decide +kernel) (by decide +kernel) (by decide +kernel) (by decide +kernel) ⟨by decide +kernel, by decide +kernel, by decide +kernel⟩
theorem ml_X2_67 : MV RX2 67 yX2_readOperand cX2_readOperand 3 (some .boolean) 1 := MV.of 625 627 17 69 628 (by decide +kernel) (by decide +kernel) (by decide +kernel) (by decide +kernel) (by decide +kernel) ⟨by decide +kernel, by decide +kernel, by decide +kernel⟩
theorem ml_X2_51 : MV RX2 51 yX2_putStep cX2_putStep 2 none 1 := MV.of 629 631 18 69 632 (by decide +kernel) (by decide +kernel) (by decide +kernel) (by decide +kernel) (by decide +kernel) ⟨by decide +kernel, by decide +kernel, by decide +kernel⟩
theorem ml_X2_73 : MV RX2 73 yX2_readBracket cX2_readBracket 2 (some .boolean) 1 := MV.of 633 635 19 69 636 (by decide +kernel) (by decide +kernel) (by decide +kernel) (by decide +kernel) (by decide +kernel) ⟨by decide +kernel, by decide +kernel, by decide +kernel⟩
theorem ml_X2_76 : MV RX2 76 yX2_readNegated cX2_readNegated 2 (some .boolean) 1 := MV.of 637 639 20 69 640 (by decide +kernel) (by decide +kernel) (by decide +kernel) (by decide +kernel) (by decide +kernel) ⟨by decide +kernel, by decide +kernel, by decide +kernel⟩
theorem ml_X6_155 : MV RX6 155 yX2_stepsRead cX2_stepsRead 1 (some (.array .int)) 0 := MV.of 643 644 645 69 646 (by decide +kernel) (by decide +kernel) (by decide +kernel) (by decide +kernel) (by decide +kernel) ⟨by decide +kernel, by decide +kernel, by decide +kernel⟩
theorem ml_X2_42 : MS RX2 42 yJ7_copyOf_59c91 cJ7_copyOf_59c91 3 (some (.array .int)) 2 := MS.of 647 648 78 649 (by decide +kernel) (by decide +kernel) (by decide +kernel) (by decide +kernel) ⟨by decide +kernel, by decide +kernel, by decide +kernel⟩
theorem ml_X6_159 : MI RX6 159 yX5_init cX5_init 4 3 := MI.of 657 658 84 659 (by decide +kernel) (by decide +kernel) (by decide +kernel) (by decide +kernel) rfl ⟨by decide +kernel, by decide +kernel, by decide +kernel⟩
theorem fl_X5_7 : FL RX5 7 5 0 := FL.of 661 (by decide) (by decide) (by decide +kernel)
theorem fl_X6_218 : FL RX6 218 5 0 := FL.of 662 (by decide) (by decide) (by decide +kernel)
theorem fl_X5_13 : FL RX5 13 5 1 := FL.of 663 (by decide) (by decide) (by decide +kernel)
theorem fl_X6_221 : FL RX6 221 5 1 := FL.of 664 (by decide) (by decide) (by decide +kernel)
theorem fl_X5_16 : FL RX5 16 5 2 := FL.of 665 (by decide) (by decide) (by decide +kernel)
theorem fl_X6_227 : FL RX6 227 5 2 := FL.of 666 (by decide) (by decide) (by decide +kernel)
theorem ml_L_65 : MV RL 65 yX6_known cX6_known 3 (some .int) 2 := MV.of 675 676 677 65 678 (by decide +kernel) (by decide +kernel) (by decide +kernel) (by decide +kernel) (by decide +kernel) ⟨by decide +kernel, by decide +kernel, by decide +kernel⟩
theorem ml_X6_162 : MV RX6 162 yX6_inForce cX6_inForce 5 (some .int) 2 := MV.of 679 681 21 65 682 (by decide +kernel) (by decide +kernel) (by decide +kernel) (by decide +kernel) (by decide +kernel) ⟨by decide +kernel, by decide +kernel, by decide +kernel⟩
theorem ml_L_69 : MV RL 69 yX6_says cX6_says 6 (some .int) 3 := MV.of 683 684 685 65 686 (by decide +kernel) (by decide +kernel) (by decide +kernel) (by decide +kernel) (by decide +kernel) ⟨by decide +kernel, by decide +kernel, by decide +kernel⟩
theorem ml_X6_169 : MV RX6 169 yX6_lookAt cX6_lookAt 5 none 1 := MV.of 687 689 22 65 690 (by decide +kernel) (by decide +kernel) (by decide +kernel) (by decide +kernel) (by decide +kernel) ⟨by decide +kernel, by decide +kernel, by decide +kernel⟩
theorem ml_X6_234 : MV RX6 234 yX4_lookAtGalley cX4_lookAtGalley 4 none 3 := MV.of 691 692 693 71 694 (by decide +kernel) (by decide +kernel) (by decide +kernel) (by decide +kernel) (by decide +kernel) ⟨by decide +kernel, by decide +kernel, by decide +kernel⟩
theorem ml_X4_18 : MS RX4 18 yJ7_fill_53178 cJ7_fill_53178 4 none 2 := MS.of 695 696 78 697 (by decide +kernel) (by decide +kernel) (by decide +kernel) (by decide +kernel) ⟨by decide +kernel, by decide +kernel, by decide +kernel⟩
theorem ml_X6_173 : MV RX6 173 yX4_lookAtBale cX4_lookAtBale 3 none 2 := MV.of 698 699 700 71 701 (by decide +kernel) (by decide +kernel) (by decide +kernel) (by decide +kernel) (by decide +kernel) ⟨by decide +kernel, by decide +kernel, by decide +kernel⟩
theorem ml_X6_177 : MV RX6 177 yX4_lookAtOther cX4_lookAtOther 2 none 1 := MV.of 702 703 704 71 705 (by decide +kernel) (by decide +kernel) (by decide +kernel) (by decide +kernel) (by decide +kernel) ⟨by decide +kernel, by decide +kernel, by decide +kernel⟩
theorem ml_X6_183 : MV RX6 183 yX6_workedOut cX6_workedOut 3 (some .int) 2 := MV.of 706 708 23 65 709 (by decide +kernel) (by decide +kernel) (by decide +kernel) (by decide +kernel) (by decide +kernel) ⟨by decide +kernel, by decide +kernel, by decide +kernel⟩
theorem ml_X6_230 : MV RX6 230 yX4_workOut cX4_workOut 5 (some .int) 1 := MV.of 712 713 714 71 715 (by decide +kernel) (by decide +kernel) (by decide +kernel) (by decide +kernel) (by decide +kernel) ⟨by decide +kernel, by decide +kernel, by decide +kernel⟩
theorem ml_X4_61 : MS RX4 61 yX4_turned cX4_turned 2 (some .int) 2 := MS.of 716 717 71 718 (by decide +kernel) (by decide +kernel) (by decide +kernel) (by decide +kernel) ⟨by decide +kernel, by decide +kernel, by decide +kernel⟩
theorem ml_X4_65 : MS RX4 65 yX4_joined cX4_joined 3 (some .int) 3 := MS.of 719 720 71 721 (by decide +kernel) (by decide +kernel) (by decide +kernel) (by decide +kernel) ⟨by decide +kernel, by decide +kernel, by decide +kernel⟩
theorem ml_L_73 : MV RL 73 yX6_start cX6_start 3 (some .int) 1 := MV.of 722 723 724 65 725 (by decide +kernel) (by decide +kernel) (by decide +kernel) (by decide +kernel) (by decide +kernel) ⟨by decide +kernel, by decide +kernel, by decide +kernel⟩
theorem ml_X6_186 : MV RX6 186 yX1_comeTo cX1_comeTo 3 none 2 := MV.of 726 727 728 75 729 (by decide +kernel) (by decide +kernel) (by decide +kernel) (by decide +kernel) (by decide +kernel) ⟨by decide +kernel, by decide +kernel, by decide +kernel⟩
theorem ml_L_77 : MV RL 77 yX6_day cX6_day 3 (some .int) 1 := MV.of 730 731 732 65 733 (by decide +kernel) (by decide +kernel) (by decide +kernel) (by decide +kernel) (by decide +kernel) ⟨by decide +kernel, by decide +kernel, by decide +kernel⟩
theorem ml_X6_189 : MV RX6 189 yX6_goByOneDay cX6_goByOneDay 3 none 0 := MV.of 734 736 24 65 737 (by decide +kernel) (by decide +kernel) (by decide +kernel) (by decide +kernel) (by decide +kernel) ⟨by decide +kernel, by decide +kernel, by decide +kernel⟩
theorem ml_X6_238 : MV RX6 238 yX6_sailOn cX6_sailOn 4 none 1 := MV.of 738 740 25 65 741 (by decide +kernel) (by decide +kernel) (by decide +kernel) (by decide +kernel) (by decide +kernel) ⟨by decide +kernel, by decide +kernel, by decide +kernel⟩
theorem ml_X6_257 : MS RX6 257 yJ9_max_7cf53 cJ9_max_7cf53 2 (some .int) 2 := MS.of 742 364 77 365 (by decide +kernel) (by decide +kernel) (by decide +kernel) (by decide +kernel) ⟨by decide +kernel, by decide +kernel, by decide +kernel⟩
theorem ml_X6_262 : MV RX6 262 yX0_isAboard cX0_isAboard 2 (some .boolean) 1 := MV.of 743 744 745 80 746 (by decide +kernel) (by decide +kernel) (by decide +kernel) (by decide +kernel) (by decide +kernel) ⟨by decide +kernel, by decide +kernel, by decide +kernel⟩
theorem ml_X6_268 : MV RX6 268 yX6_giveOut cX6_giveOut 6 none 2 := MV.of 747 749 26 65 750 (by decide +kernel) (by decide +kernel) (by decide +kernel) (by decide +kernel) (by decide +kernel) ⟨by decide +kernel, by decide +kernel, by decide +kernel⟩
theorem ml_X6_272 : MV RX6 272 yX1_unload cX1_unload 2 none 1 := MV.of 751 752 753 75 754 (by decide +kernel) (by decide +kernel) (by decide +kernel) (by decide +kernel) (by decide +kernel) ⟨by decide +kernel, by decide +kernel, by decide +kernel⟩
theorem ml_X1_65 : MV RX1 65 yX1_change cX1_change 3 none 2 := MV.of 755 757 27 75 758 (by decide +kernel) (by decide +kernel) (by decide +kernel) (by decide +kernel) (by decide +kernel) ⟨by decide +kernel, by decide +kernel, by decide +kernel⟩
theorem ml_X6_276 : MV RX6 276 yX0_turn cX0_turn 3 none 2 := MV.of 759 760 761 80 762 (by decide +kernel) (by decide +kernel) (by decide +kernel) (by decide +kernel) (by decide +kernel) ⟨by decide +kernel, by decide +kernel, by decide +kernel⟩
theorem ml_X6_241 : MV RX6 241 yX6_hasStayed cX6_hasStayed 3 (some .boolean) 1 := MV.of 763 765 28 65 766 (by decide +kernel) (by decide +kernel) (by decide +kernel) (by decide +kernel) (by decide +kernel) ⟨by decide +kernel, by decide +kernel, by decide +kernel⟩
theorem ml_X6_291 : MS RX6 291 yJ9_min_7cf53 cJ9_min_7cf53 2 (some .int) 2 := MS.of 767 393 77 394 (by decide +kernel) (by decide +kernel) (by decide +kernel) (by decide +kernel) ⟨by decide +kernel, by decide +kernel, by decide +kernel⟩
theorem ml_X6_245 : MV RX6 245 yX6_waitsForAnother cX6_waitsForAnother 5 (some .boolean) 1 := MV.of 768 770 29 65 771 (by decide +kernel) (by decide +kernel) (by decide +kernel) (by decide +kernel) (by decide +kernel) ⟨by decide +kernel, by decide +kernel, by decide +kernel⟩
theorem ml_X6_248 : MV RX6 248 yX6_leave cX6_leave 4 none 1 := MV.of 772 774 30 65 775 (by decide +kernel) (by decide +kernel) (by decide +kernel) (by decide +kernel) (by decide +kernel) ⟨by decide +kernel, by decide +kernel, by decide +kernel⟩
theorem ml_X6_294 : MV RX6 294 yX6_rankForLading cX6_rankForLading 6 none 1 := MV.of 776 778 31 65 779 (by decide +kernel) (by decide +kernel) (by decide +kernel) (by decide +kernel) (by decide +kernel) ⟨by decide +kernel, by decide +kernel, by decide +kernel⟩
theorem ml_X6_313 : MV RX6 313 yJx4a65c_clear_da8c8 cJx4a65c_clear_da8c8 4 none 0 := MV.of 780 781 782 68 783 (by decide +kernel) (by decide +kernel) (by decide +kernel) (by decide +kernel) (by decide +kernel) ⟨by decide +kernel, by decide +kernel, by decide +kernel⟩
theorem ml_X6_319 : MV RX6 319 yX6_rank cX6_rank 5 none 2 := MV.of 784 786 32 65 787 (by decide +kernel) (by decide +kernel) (by decide +kernel) (by decide +kernel) (by decide +kernel) ⟨by decide +kernel, by decide +kernel, by decide +kernel⟩
theorem ml_X6_324 : MV RX6 324 yJx4a65c_add_7a177 cJx4a65c_add_7a177 5 none 2 := MV.of 788 789 790 68 791 (by decide +kernel) (by decide +kernel) (by decide +kernel) (by decide +kernel) (by decide +kernel) ⟨by decide +kernel, by decide +kernel, by decide +kernel⟩
theorem ml_Jx4a65c_135 : MV RJx4a65c 135 yJx4a65c_rangeCheckForAdd_d00df cJx4a65c_rangeCheckForAdd_d00df 2 none 1 := MV.of 792 794 33 68 795 (by decide +kernel) (by decide +kernel) (by decide +kernel) (by decide +kernel) (by decide +kernel) ⟨by decide +kernel, by decide +kernel, by decide +kernel⟩
theorem ml_X6_297 : MV RX6 297 yX1_canTake cX1_canTake 2 (some .boolean) 1 := MV.of 797 798 799 75 800 (by decide +kernel) (by decide +kernel) (by decide +kernel) (by decide +kernel) (by decide +kernel) ⟨by decide +kernel, by decide +kernel, by decide +kernel⟩
theorem ml_X6_301 : MV RX6 301 yX1_load cX1_load 2 none 1 := MV.of 801 802 803 75 804 (by decide +kernel) (by decide +kernel) (by decide +kernel) (by decide +kernel) (by decide +kernel) ⟨by decide +kernel, by decide +kernel, by decide +kernel⟩
theorem ml_X6_310 : MV RX6 310 yX1_putToSea cX1_putToSea 2 none 1 := MV.of 805 806 807 75 808 (by decide +kernel) (by decide +kernel) (by decide +kernel) (by decide +kernel) (by decide +kernel) ⟨by decide +kernel, by decide +kernel, by decide +kernel⟩
theorem ml_L_81 : MV RL 81 yX6_toss cX6_toss 6 (some .int) 2 := MV.of 809 810 811 65 812 (by decide +kernel) (by decide +kernel) (by decide +kernel) (by decide +kernel) (by decide +kernel) ⟨by decide +kernel, by decide +kernel, by decide +kernel⟩
theorem ml_X6_198 : MV RX6 198 yX6_rankAboard cX6_rankAboard 5 (some .int) 1 := MV.of 813 815 34 65 816 (by decide +kernel) (by decide +kernel) (by decide +kernel) (by decide +kernel) (by decide +kernel) ⟨by decide +kernel, by decide +kernel, by decide +kernel⟩
theorem ml_X6_202 : MV RX6 202 yX6_throwOut cX6_throwOut 7 (some .int) 2 := MV.of 817 819 35 65 820 (by decide +kernel) (by decide +kernel) (by decide +kernel) (by decide +kernel) (by decide +kernel) ⟨by decide +kernel, by decide +kernel, by decide +kernel⟩
theorem ml_X6_206 : MV RX6 206 yX6_shareLoss cX6_shareLoss 7 none 2 := MV.of 821 823 36 65 824 (by decide +kernel) (by decide +kernel) (by decide +kernel) (by decide +kernel) (by decide +kernel) ⟨by decide +kernel, by decide +kernel, by decide +kernel⟩
theorem ml_L_85 : MV RL 85 yX6_ship cX6_ship 4 (some .int) 2 := MV.of 825 826 827 65 828 (by decide +kernel) (by decide +kernel) (by decide +kernel) (by decide +kernel) (by decide +kernel) ⟨by decide +kernel, by decide +kernel, by decide +kernel⟩
theorem ml_X6_209 : MV RX6 209 yX1_tell cX1_tell 2 (some .int) 1 := MV.of 829 830 831 75 832 (by decide +kernel) (by decide +kernel) (by decide +kernel) (by decide +kernel) (by decide +kernel) ⟨by decide +kernel, by decide +kernel, by decide +kernel⟩
theorem ml_L_89 : MV RL 89 yX6_count cX6_count 2 (some .int) 1 := MV.of 833 834 835 65 836 (by decide +kernel) (by decide +kernel) (by decide +kernel) (by decide +kernel) (by decide +kernel) ⟨by decide +kernel, by decide +kernel, by decide +kernel⟩
theorem ml_X6_210 : MV RX6 210 yX6_balesInState cX6_balesInState 4 (some .int) 1 := MV.of 837 839 37 65 840 (by decide +kernel) (by decide +kernel) (by decide +kernel) (by decide +kernel) (by decide +kernel) ⟨by decide +kernel, by decide +kernel, by decide +kernel⟩
theorem ml_L_93 : MV RL 93 yX6_coins cX6_coins 2 (some .int) 1 := MV.of 841 842 843 65 844 (by decide +kernel) (by decide +kernel) (by decide +kernel) (by decide +kernel) (by decide +kernel) ⟨by decide +kernel, by decide +kernel, by decide +kernel⟩
theorem ml_L_12 : MI RL 12 yX7_init cX7_init 1 0 := MI.of 847 848 72 849 (by decide +kernel) (by decide +kernel) (by decide +kernel) (by decide +kernel) rfl ⟨by decide +kernel, by decide +kernel, by decide +kernel⟩
theorem fl_X7_165 : FL RX7 165 7 1 := FL.of 851 (by decide) (by decide) (by decide +kernel)
theorem fl_X7_7 : FL RX7 7 7 2 := FL.of 852 (by decide) (by decide) (by decide +kernel)
theorem fl_X7_159 : FL RX7 159 7 3 := FL.of 853 (by decide) (by decide) (by decide +kernel)
theorem fl_X7_152 : FL RX7 152 7 4 := FL.of 854 (by decide) (by decide) (by decide +kernel)
theorem fl_X7_137 : FL RX7 137 7 5 := FL.of 855 (by decide) (by decide) (by decide +kernel)
theorem fl_X7_13 : FL RX7 13 7 6 := FL.of 856 (by decide) (by decide) (by decide +kernel)
theorem fl_X7_16 : FL RX7 16 7 7 := FL.of 857 (by decide) (by decide) (by decide +kernel)
theorem fl_X7_19 : FL RX7 19 7 8 := FL.of 858 (by decide) (by decide) (by decide +kernel)
theorem fl_X7_140 : FL RX7 140 7 9 := FL.of 859 (by decide) (by decide) (by decide +kernel)
theorem fl_X7_22 : FL RX7 22 7 10 := FL.of 860 (by decide) (by decide) (by decide +kernel)
theorem fl_X7_25 : FL RX7 25 7 11 := FL.of 861 (by decide) (by decide) (by decide +kernel)
theorem fl_X7_28 : FL RX7 28 7 12 := FL.of 862 (by decide) (by decide) (by decide +kernel)
theorem fl_X7_31 : FL RX7 31 7 13 := FL.of 863 (by decide) (by decide) (by decide +kernel)
theorem fl_X7_34 : FL RX7 34 7 14 := FL.of 864 (by decide) (by decide) (by decide +kernel)
theorem fl_X7_37 : FL RX7 37 7 15 := FL.of 865 (by decide) (by decide) (by decide +kernel)
theorem fl_X7_40 : FL RX7 40 7 16 := FL.of 866 (by decide) (by decide) (by decide +kernel)
theorem fl_X7_43 : FL RX7 43 7 17 := FL.of 867 (by decide) (by decide) (by decide +kernel)
theorem fl_X7_46 : FL RX7 46 7 18 := FL.of 868 (by decide) (by decide) (by decide +kernel)
theorem fl_X7_49 : FL RX7 49 7 19 := FL.of 869 (by decide) (by decide) (by decide +kernel)
theorem fl_X7_52 : FL RX7 52 7 20 := FL.of 870 (by decide) (by decide) (by decide +kernel)
theorem fl_X7_55 : FL RX7 55 7 21 := FL.of 871 (by decide) (by decide) (by decide +kernel)
theorem fl_X7_59 : FL RX7 59 7 22 := FL.of 872 (by decide) (by decide) (by decide +kernel)
theorem fl_X7_143 : FL RX7 143 7 23 := FL.of 873 (by decide) (by decide) (by decide +kernel)
theorem fl_X7_62 : FL RX7 62 7 24 := FL.of 874 (by decide) (by decide) (by decide +kernel)
theorem fl_X7_65 : FL RX7 65 7 25 := FL.of 875 (by decide) (by decide) (by decide +kernel)
theorem fl_X7_68 : FL RX7 68 7 26 := FL.of 876 (by decide) (by decide) (by decide +kernel)
theorem fl_X7_71 : FL RX7 71 7 27 := FL.of 877 (by decide) (by decide) (by decide +kernel)
theorem fl_X7_74 : FL RX7 74 7 28 := FL.of 878 (by decide) (by decide) (by decide +kernel)
theorem fl_X7_77 : FL RX7 77 7 29 := FL.of 879 (by decide) (by decide) (by decide +kernel)
theorem fl_X7_80 : FL RX7 80 7 30 := FL.of 880 (by decide) (by decide) (by decide +kernel)
theorem fl_X7_83 : FL RX7 83 7 31 := FL.of 881 (by decide) (by decide) (by decide +kernel)
theorem fl_X7_86 : FL RX7 86 7 32 := FL.of 882 (by decide) (by decide) (by decide +kernel)
theorem fl_X7_89 : FL RX7 89 7 33 := FL.of 883 (by decide) (by decide) (by decide +kernel)
theorem fl_X7_92 : FL RX7 92 7 34 := FL.of 884 (by decide) (by decide) (by decide +kernel)
theorem fl_X7_95 : FL RX7 95 7 35 := FL.of 885 (by decide) (by decide) (by decide +kernel)
theorem fl_X7_98 : FL RX7 98 7 36 := FL.of 886 (by decide) (by decide) (by decide +kernel)
theorem fl_X7_175 : FL RX7 175 7 37 := FL.of 887 (by decide) (by decide) (by decide +kernel)
theorem fl_X7_256 : FL RX7 256 7 38 := FL.of 888 (by decide) (by decide) (by decide +kernel)
theorem fl_X7_102 : FL RX7 102 7 39 := FL.of 889 (by decide) (by decide) (by decide +kernel)
theorem fl_X7_105 : FL RX7 105 7 40 := FL.of 890 (by decide) (by decide) (by decide +kernel)
theorem fl_X7_108 : FL RX7 108 7 41 := FL.of 891 (by decide) (by decide) (by decide +kernel)
theorem fl_X7_111 : FL RX7 111 7 42 := FL.of 892 (by decide) (by decide) (by decide +kernel)
theorem fl_X7_114 : FL RX7 114 7 43 := FL.of 893 (by decide) (by decide) (by decide +kernel)
theorem fl_X7_240 : FL RX7 240 7 44 := FL.of 894 (by decide) (by decide) (by decide +kernel)
theorem fl_X7_178 : FL RX7 178 7 45 := FL.of 895 (by decide) (by decide) (by decide +kernel)
theorem fl_X7_184 : FL RX7 184 7 46 := FL.of 896 (by decide) (by decide) (by decide +kernel)
theorem fl_X7_181 : FL RX7 181 7 47 := FL.of 897 (by decide) (by decide) (by decide +kernel)
theorem fl_X7_201 : FL RX7 201 7 48 := FL.of 898 (by decide) (by decide) (by decide +kernel)
theorem fl_X7_253 : FL RX7 253 7 49 := FL.of 899 (by decide) (by decide) (by decide +kernel)
theorem fl_X7_117 : FL RX7 117 7 50 := FL.of 900 (by decide) (by decide) (by decide +kernel)
theorem fl_X7_243 : FL RX7 243 7 51 := FL.of 901 (by decide) (by decide) (by decide +kernel)
theorem fl_X7_120 : FL RX7 120 7 52 := FL.of 902 (by decide) (by decide) (by decide +kernel)
theorem fl_X7_123 : FL RX7 123 7 53 := FL.of 903 (by decide) (by decide) (by decide +kernel)
theorem fl_X7_126 : FL RX7 126 7 54 := FL.of 904 (by decide) (by decide) (by decide +kernel)
theorem ml_L_17 : MV RL 17 yX7_purse cX7_purse 3 (some .int) 2 := MV.of 1017 1018 1019 72 1020 (by decide +kernel) (by decide +kernel) (by decide +kernel) (by decide +kernel) (by decide +kernel) ⟨by decide +kernel, by decide +kernel, by decide +kernel⟩
theorem ml_X7_146 : MS RX7 146 yX7_isPerson cX7_isPerson 1 (some .boolean) 1 := MS.of 1021 1022 72 1023 (by decide +kernel) (by decide +kernel) (by decide +kernel) (by decide +kernel) ⟨by decide +kernel, by decide +kernel, by decide +kernel⟩
theorem ml_X7_133 : MS RX7 133 yX7_in cX7_in 3 (some .boolean) 3 := MS.of 1024 1025 72 1026 (by decide +kernel) (by decide +kernel) (by decide +kernel) (by decide +kernel) ⟨by decide +kernel, by decide +kernel, by decide +kernel⟩
theorem kc_X7_150 : Cond.constant RX7 150 (100000) ∈ TBL := tbl_in 1027 (by decide +kernel) rfl
theorem kc_X7_151 : Cond.constant RX7 151 (-2000000000) ∈ TBL := tbl_in 1028 (by decide +kernel) rfl
theorem ml_L_22 : MV RL 22 yX7_port cX7_port 3 (some .int) 1 := MV.of 1029 1030 1031 72 1032 (by decide +kernel) (by decide +kernel) (by decide +kernel) (by decide +kernel) (by decide +kernel) ⟨by decide +kernel, by decide +kernel, by decide +kernel⟩
theorem ml_L_26 : MV RL 26 yX7_wind cX7_wind 4 (some .int) 2 := MV.of 1033 1034 1035 72 1036 (by decide +kernel) (by decide +kernel) (by decide +kernel) (by decide +kernel) (by decide +kernel) ⟨by decide +kernel, by decide +kernel, by decide +kernel⟩
theorem ml_L_31 : MV RL 31 yX7_galley cX7_galley 6 (some .int) 4 := MV.of 1037 1038 1039 72 1040 (by decide +kernel) (by decide +kernel) (by decide +kernel) (by decide +kernel) (by decide +kernel) ⟨by decide +kernel, by decide +kernel, by decide +kernel⟩
theorem ml_L_36 : MV RL 36 yX7_bid cX7_bid 4 (some .int) 3 := MV.of 1041 1042 1043 72 1044 (by decide +kernel) (by decide +kernel) (by decide +kernel) (by decide +kernel) (by decide +kernel) ⟨by decide +kernel, by decide +kernel, by decide +kernel⟩
theorem ml_X7_155 : MV RX7 155 yX7_isGalley cX7_isGalley 2 (some .boolean) 1 := MV.of 1045 1047 38 72 1048 (by decide +kernel) (by decide +kernel) (by decide +kernel) (by decide +kernel) (by decide +kernel) ⟨by decide +kernel, by decide +kernel, by decide +kernel⟩
theorem kc_X7_158 : Cond.constant RX7 158 (1000000) ∈ TBL := tbl_in 1049 (by decide +kernel) rfl
theorem ml_L_40 : MV RL 40 yX7_let cX7_let 3 (some .int) 1 := MV.of 1050 1051 1052 72 1053 (by decide +kernel) (by decide +kernel) (by decide +kernel) (by decide +kernel) (by decide +kernel) ⟨by decide +kernel, by decide +kernel, by decide +kernel⟩
theorem ml_L_44 : MV RL 44 yX7_part cX7_part 5 (some .int) 4 := MV.of 1054 1055 1056 72 1057 (by decide +kernel) (by decide +kernel) (by decide +kernel) (by decide +kernel) (by decide +kernel) ⟨by decide +kernel, by decide +kernel, by decide +kernel⟩
theorem ml_L_48 : MV RL 48 yX7_parts cX7_parts 5 (some .int) 2 := MV.of 1058 1059 1060 72 1061 (by decide +kernel) (by decide +kernel) (by decide +kernel) (by decide +kernel) (by decide +kernel) ⟨by decide +kernel, by decide +kernel, by decide +kernel⟩
theorem ml_L_52 : MV RL 52 yX7_bale cX7_bale 9 (some .int) 4 := MV.of 1062 1063 1064 72 1065 (by decide +kernel) (by decide +kernel) (by decide +kernel) (by decide +kernel) (by decide +kernel) ⟨by decide +kernel, by decide +kernel, by decide +kernel⟩
theorem ml_X7_162 : MV RX7 162 yX7_isPort cX7_isPort 2 (some .boolean) 1 := MV.of 1066 1068 39 72 1069 (by decide +kernel) (by decide +kernel) (by decide +kernel) (by decide +kernel) (by decide +kernel) ⟨by decide +kernel, by decide +kernel, by decide +kernel⟩
theorem ml_L_56 : MV RL 56 yX7_about cX7_about 3 (some .int) 2 := MV.of 1070 1071 1072 72 1073 (by decide +kernel) (by decide +kernel) (by decide +kernel) (by decide +kernel) (by decide +kernel) ⟨by decide +kernel, by decide +kernel, by decide +kernel⟩
theorem ml_X7_168 : MV RX7 168 yX7_isBale cX7_isBale 2 (some .boolean) 1 := MV.of 1074 1076 40 72 1077 (by decide +kernel) (by decide +kernel) (by decide +kernel) (by decide +kernel) (by decide +kernel) ⟨by decide +kernel, by decide +kernel, by decide +kernel⟩
theorem ml_L_60 : MV RL 60 yX7_feed cX7_feed 4 (some .int) 2 := MV.of 1078 1079 1080 72 1081 (by decide +kernel) (by decide +kernel) (by decide +kernel) (by decide +kernel) (by decide +kernel) ⟨by decide +kernel, by decide +kernel, by decide +kernel⟩
theorem ml_L_64 : MV RL 64 yX7_vote cX7_vote 3 (some .int) 1 := MV.of 1082 1083 1084 72 1085 (by decide +kernel) (by decide +kernel) (by decide +kernel) (by decide +kernel) (by decide +kernel) ⟨by decide +kernel, by decide +kernel, by decide +kernel⟩
theorem ml_X7_273 : MV RX7 273 yX7_read cX7_read 5 (some .int) 0 := MV.of 1086 1088 41 72 1089 (by decide +kernel) (by decide +kernel) (by decide +kernel) (by decide +kernel) (by decide +kernel) ⟨by decide +kernel, by decide +kernel, by decide +kernel⟩
theorem ml_X7_259 : MV RX7 259 yX7_advance cX7_advance 5 none 0 := MV.of 1090 1092 42 72 1093 (by decide +kernel) (by decide +kernel) (by decide +kernel) (by decide +kernel) (by decide +kernel) ⟨by decide +kernel, by decide +kernel, by decide +kernel⟩
theorem ml_X7_187 : MS RX7 187 yX7_isLetter cX7_isLetter 1 (some .boolean) 1 := MS.of 1094 1095 72 1096 (by decide +kernel) (by decide +kernel) (by decide +kernel) (by decide +kernel) ⟨by decide +kernel, by decide +kernel, by decide +kernel⟩
theorem kc_X7_190 : Cond.constantLong RX7 190 (27) ∈ TBL := tbl_in 1097 (by decide +kernel) rfl
theorem kc_X7_192 : Cond.constantLong RX7 192 (96) ∈ TBL := tbl_in 1098 (by decide +kernel) rfl
theorem ml_X7_194 : MS RX7 194 yX7_wordOf cX7_wordOf 2 (some .int) 1 := MS.of 1099 1100 72 1101 (by decide +kernel) (by decide +kernel) (by decide +kernel) (by decide +kernel) ⟨by decide +kernel, by decide +kernel, by decide +kernel⟩
theorem kc_X7_208 : Cond.constantLong RX7 208 (423) ∈ TBL := tbl_in 1102 (by decide +kernel) rfl
theorem kc_X7_210 : Cond.constantLong RX7 210 (1111) ∈ TBL := tbl_in 1103 (by decide +kernel) rfl
theorem kc_X7_212 : Cond.constantLong RX7 212 (10631) ∈ TBL := tbl_in 1104 (by decide +kernel) rfl
theorem kc_X7_214 : Cond.constantLong RX7 214 (326369) ∈ TBL := tbl_in 1105 (by decide +kernel) rfl
theorem kc_X7_216 : Cond.constantLong RX7 216 (2968) ∈ TBL := tbl_in 1106 (by decide +kernel) rfl
theorem kc_X7_218 : Cond.constantLong RX7 218 (380068) ∈ TBL := tbl_in 1107 (by decide +kernel) rfl
theorem kc_X7_220 : Cond.constantLong RX7 220 (161600) ∈ TBL := tbl_in 1108 (by decide +kernel) rfl
theorem kc_X7_222 : Cond.constantLong RX7 222 (237470) ∈ TBL := tbl_in 1109 (by decide +kernel) rfl
theorem kc_X7_224 : Cond.constantLong RX7 224 (283296100) ∈ TBL := tbl_in 1110 (by decide +kernel) rfl
theorem kc_X7_226 : Cond.constantLong RX7 226 (133743) ∈ TBL := tbl_in 1111 (by decide +kernel) rfl
theorem kc_X7_228 : Cond.constantLong RX7 228 (223456) ∈ TBL := tbl_in 1112 (by decide +kernel) rfl
theorem kc_X7_230 : Cond.constantLong RX7 230 (365647) ∈ TBL := tbl_in 1113 (by decide +kernel) rfl
theorem kc_X7_232 : Cond.constantLong RX7 232 (332864552) ∈ TBL := tbl_in 1114 (by decide +kernel) rfl
theorem kc_X7_234 : Cond.constantLong RX7 234 (12532058) ∈ TBL := tbl_in 1115 (by decide +kernel) rfl
theorem kc_X7_236 : Cond.constantLong RX7 236 (2585642951) ∈ TBL := tbl_in 1116 (by decide +kernel) rfl
theorem kc_X7_238 : Cond.constantLong RX7 238 (12249946) ∈ TBL := tbl_in 1117 (by decide +kernel) rfl
theorem ml_X7_198 : MS RX7 198 yX7_isDigit cX7_isDigit 1 (some .boolean) 1 := MS.of 1118 1119 72 1120 (by decide +kernel) (by decide +kernel) (by decide +kernel) (by decide +kernel) ⟨by decide +kernel, by decide +kernel, by decide +kernel⟩
theorem ml_X7_204 : MS RX7 204 yX7_signOf cX7_signOf 1 (some .int) 1 := MS.of 1121 1122 72 1123 (by decide +kernel) (by decide +kernel) (by decide +kernel) (by decide +kernel) ⟨by decide +kernel, by decide +kernel, by decide +kernel⟩
theorem ml_X7_262 : MV RX7 262 yX7_opened cX7_opened 3 (some .int) 0 := MV.of 1124 1126 43 72 1127 (by decide +kernel) (by decide +kernel) (by decide +kernel) (by decide +kernel) (by decide +kernel) ⟨by decide +kernel, by decide +kernel, by decide +kernel⟩
theorem ml_X7_249 : MV RX7 249 yX7_lay cX7_lay 3 none 2 := MV.of 1128 1130 44 72 1131 (by decide +kernel) (by decide +kernel) (by decide +kernel) (by decide +kernel) (by decide +kernel) ⟨by decide +kernel, by decide +kernel, by decide +kernel⟩
theorem ml_X7_266 : MV RX7 266 yX7_done cX7_done 2 none 1 := MV.of 1132 1134 45 72 1135 (by decide +kernel) (by decide +kernel) (by decide +kernel) (by decide +kernel) (by decide +kernel) ⟨by decide +kernel, by decide +kernel, by decide +kernel⟩
theorem ml_X7_246 : MS RX7 246 yX7_tight cX7_tight 1 (some .int) 1 := MS.of 1136 1137 72 1138 (by decide +kernel) (by decide +kernel) (by decide +kernel) (by decide +kernel) ⟨by decide +kernel, by decide +kernel, by decide +kernel⟩
theorem ml_X7_270 : MV RX7 270 yX7_isWaiting cX7_isWaiting 2 (some .boolean) 1 := MV.of 1139 1141 46 72 1142 (by decide +kernel) (by decide +kernel) (by decide +kernel) (by decide +kernel) (by decide +kernel) ⟨by decide +kernel, by decide +kernel, by decide +kernel⟩
theorem ml_L_68 : MV RL 68 yX7_known cX7_known 3 (some .int) 2 := MV.of 1143 1144 1145 72 1146 (by decide +kernel) (by decide +kernel) (by decide +kernel) (by decide +kernel) (by decide +kernel) ⟨by decide +kernel, by decide +kernel, by decide +kernel⟩
theorem ml_X7_276 : MV RX7 276 yX7_knownAt cX7_knownAt 4 (some .int) 2 := MV.of 1147 1149 47 72 1150 (by decide +kernel) (by decide +kernel) (by decide +kernel) (by decide +kernel) (by decide +kernel) ⟨by decide +kernel, by decide +kernel, by decide +kernel⟩
theorem ml_L_72 : MV RL 72 yX7_says cX7_says 4 (some .int) 3 := MV.of 1151 1152 1153 72 1154 (by decide +kernel) (by decide +kernel) (by decide +kernel) (by decide +kernel) (by decide +kernel) ⟨by decide +kernel, by decide +kernel, by decide +kernel⟩
theorem ml_X7_298 : MV RX7 298 yX7_says0 cX7_says0 8 (some .int) 3 := MV.of 1155 1157 48 72 1158 (by decide +kernel) (by decide +kernel) (by decide +kernel) (by decide +kernel) (by decide +kernel) ⟨by decide +kernel, by decide +kernel, by decide +kernel⟩
theorem ml_X7_290 : MV RX7 290 yX7_value cX7_value 5 (some .int) 4 := MV.of 1159 1161 49 72 1162 (by decide +kernel) (by decide +kernel) (by decide +kernel) (by decide +kernel) (by decide +kernel) ⟨by decide +kernel, by decide +kernel, by decide +kernel⟩
theorem ml_X7_280 : MV RX7 280 yX7_inPort cX7_inPort 4 (some .int) 1 := MV.of 1163 1165 50 72 1166 (by decide +kernel) (by decide +kernel) (by decide +kernel) (by decide +kernel) (by decide +kernel) ⟨by decide +kernel, by decide +kernel, by decide +kernel⟩
theorem ml_X7_283 : MV RX7 283 yX7_weightOn cX7_weightOn 5 (some .int) 2 := MV.of 1167 1169 51 72 1170 (by decide +kernel) (by decide +kernel) (by decide +kernel) (by decide +kernel) (by decide +kernel) ⟨by decide +kernel, by decide +kernel, by decide +kernel⟩
theorem ml_X7_171 : MV RX7 171 yX7_isOn cX7_isOn 3 (some .boolean) 2 := MV.of 1171 1173 52 72 1174 (by decide +kernel) (by decide +kernel) (by decide +kernel) (by decide +kernel) (by decide +kernel) ⟨by decide +kernel, by decide +kernel, by decide +kernel⟩
theorem ml_X7_287 : MV RX7 287 yX7_ofBale cX7_ofBale 3 (some .int) 2 := MV.of 1175 1177 53 72 1178 (by decide +kernel) (by decide +kernel) (by decide +kernel) (by decide +kernel) (by decide +kernel) ⟨by decide +kernel, by decide +kernel, by decide +kernel⟩
theorem ml_X7_294 : MS RX7 294 yX7_both cX7_both 3 (some .int) 3 := MS.of 1179 1180 72 1181 (by decide +kernel) (by decide +kernel) (by decide +kernel) (by decide +kernel) ⟨by decide +kernel, by decide +kernel, by decide +kernel⟩
theorem ml_L_76 : MV RL 76 yX7_start cX7_start 2 (some .int) 1 := MV.of 1182 1183 1184 72 1185 (by decide +kernel) (by decide +kernel) (by decide +kernel) (by decide +kernel) (by decide +kernel) ⟨by decide +kernel, by decide +kernel, by decide +kernel⟩
theorem ml_L_80 : MV RL 80 yX7_day cX7_day 4 (some .int) 1 := MV.of 1186 1187 1188 72 1189 (by decide +kernel) (by decide +kernel) (by decide +kernel) (by decide +kernel) (by decide +kernel) ⟨by decide +kernel, by decide +kernel, by decide +kernel⟩
theorem ml_X7_301 : MV RX7 301 yX7_sails cX7_sails 5 none 1 := MV.of 1190 1192 54 72 1193 (by decide +kernel) (by decide +kernel) (by decide +kernel) (by decide +kernel) (by decide +kernel) ⟨by decide +kernel, by decide +kernel, by decide +kernel⟩
theorem ml_X7_310 : MV RX7 310 yX7_givesOut cX7_givesOut 7 none 2 := MV.of 1194 1196 55 72 1197 (by decide +kernel) (by decide +kernel) (by decide +kernel) (by decide +kernel) (by decide +kernel) ⟨by decide +kernel, by decide +kernel, by decide +kernel⟩
theorem ml_X7_313 : MV RX7 313 yX7_becomes cX7_becomes 3 none 2 := MV.of 1198 1200 56 72 1201 (by decide +kernel) (by decide +kernel) (by decide +kernel) (by decide +kernel) (by decide +kernel) ⟨by decide +kernel, by decide +kernel, by decide +kernel⟩
theorem ml_X7_304 : MV RX7 304 yX7_leaves cX7_leaves 4 (some .boolean) 1 := MV.of 1202 1204 57 72 1205 (by decide +kernel) (by decide +kernel) (by decide +kernel) (by decide +kernel) (by decide +kernel) ⟨by decide +kernel, by decide +kernel, by decide +kernel⟩
theorem ml_X7_307 : MV RX7 307 yX7_goes cX7_goes 5 none 1 := MV.of 1206 1208 58 72 1209 (by decide +kernel) (by decide +kernel) (by decide +kernel) (by decide +kernel) (by decide +kernel) ⟨by decide +kernel, by decide +kernel, by decide +kernel⟩
theorem ml_X7_316 : MV RX7 316 yX7_nextBale cX7_nextBale 3 (some .int) 0 := MV.of 1210 1212 59 72 1213 (by decide +kernel) (by decide +kernel) (by decide +kernel) (by decide +kernel) (by decide +kernel) ⟨by decide +kernel, by decide +kernel, by decide +kernel⟩
theorem ml_X7_319 : MV RX7 319 yX7_roomOn cX7_roomOn 4 (some .int) 1 := MV.of 1214 1216 60 72 1217 (by decide +kernel) (by decide +kernel) (by decide +kernel) (by decide +kernel) (by decide +kernel) ⟨by decide +kernel, by decide +kernel, by decide +kernel⟩
theorem ml_L_84 : MV RL 84 yX7_toss cX7_toss 11 (some .int) 2 := MV.of 1218 1219 1220 72 1221 (by decide +kernel) (by decide +kernel) (by decide +kernel) (by decide +kernel) (by decide +kernel) ⟨by decide +kernel, by decide +kernel, by decide +kernel⟩
theorem ml_X7_322 : MV RX7 322 yX7_balesOn cX7_balesOn 4 (some .int) 1 := MV.of 1222 1224 61 72 1225 (by decide +kernel) (by decide +kernel) (by decide +kernel) (by decide +kernel) (by decide +kernel) ⟨by decide +kernel, by decide +kernel, by decide +kernel⟩
theorem ml_X7_325 : MV RX7 325 yX7_heaviest cX7_heaviest 4 (some .int) 1 := MV.of 1226 1228 62 72 1229 (by decide +kernel) (by decide +kernel) (by decide +kernel) (by decide +kernel) (by decide +kernel) ⟨by decide +kernel, by decide +kernel, by decide +kernel⟩
theorem ml_L_88 : MV RL 88 yX7_ship cX7_ship 3 (some .int) 2 := MV.of 1230 1231 1232 72 1233 (by decide +kernel) (by decide +kernel) (by decide +kernel) (by decide +kernel) (by decide +kernel) ⟨by decide +kernel, by decide +kernel, by decide +kernel⟩
theorem ml_L_92 : MV RL 92 yX7_count cX7_count 2 (some .int) 1 := MV.of 1234 1235 1236 72 1237 (by decide +kernel) (by decide +kernel) (by decide +kernel) (by decide +kernel) (by decide +kernel) ⟨by decide +kernel, by decide +kernel, by decide +kernel⟩
theorem ml_X7_328 : MV RX7 328 yX7_balesAs cX7_balesAs 4 (some .int) 1 := MV.of 1238 1240 63 72 1241 (by decide +kernel) (by decide +kernel) (by decide +kernel) (by decide +kernel) (by decide +kernel) ⟨by decide +kernel, by decide +kernel, by decide +kernel⟩
theorem ml_L_96 : MV RL 96 yX7_coins cX7_coins 2 (some .int) 1 := MV.of 1242 1243 1244 72 1245 (by decide +kernel) (by decide +kernel) (by decide +kernel) (by decide +kernel) (by decide +kernel) ⟨by decide +kernel, by decide +kernel, by decide +kernel⟩
end
section
/-! ===== THE REFERENCE'S SHAPE: the object is number 0, the array of its field k is number k + 1 ===== -/
def mTab : List (Nat × Nat × Nat) := [(2, 9, 10), (6, 9, 12), (7, 9, 12), (8, 9, 30), (10, 9, 8), (11, 9, 8), (12, 9, 8), (13, 9, 8), (14, 9, 8), (15, 9, 8), (16, 9, 8), (17, 9, 8), (18, 9, 8), (19, 9, 8), (20, 9, 8), (21, 11, 8), (22, 9, 80), (24, 9, 300), (25, 9, 300), (26, 9, 300), (27, 9, 300), (28, 9, 300), (29, 9, 300), (30, 9, 300), (31, 9, 300), (32, 9, 300), (33, 9, 300), (34, 9, 300), (35, 9, 300), (36, 10, 200), (39, 9, 30), (40, 9, 30), (41, 9, 31), (42, 9, 6200), (43, 9, 6200), (50, 9, 300), (52, 9, 200), (53, 9, 300), (54, 11, 300)]
def MSh (sh : WSh) : Prop := (sh.1 0).1 = 7 ∧ ∀ q ∈ mTab, sh.1 (q.1 + 1) = (q.2.1, q.2.2) ∧ sh.2.1 0 q.1 = some (q.1 + 1)
theorem MSh.c {sh : WSh} (h : MSh sh) : (sh.1 0).1 = 7 := h.1
theorem MSh.t3 {sh : WSh} (h : MSh sh) : sh.1 3 = (9, 10) := (h.2 (2, 9, 10) (by decide)).1
theorem MSh.r2 {sh : WSh} (h : MSh sh) : sh.2.1 0 2 = some 3 := (h.2 (2, 9, 10) (by decide)).2
theorem MSh.t7 {sh : WSh} (h : MSh sh) : sh.1 7 = (9, 12) := (h.2 (6, 9, 12) (by decide)).1
theorem MSh.r6 {sh : WSh} (h : MSh sh) : sh.2.1 0 6 = some 7 := (h.2 (6, 9, 12) (by decide)).2
theorem MSh.t8 {sh : WSh} (h : MSh sh) : sh.1 8 = (9, 12) := (h.2 (7, 9, 12) (by decide)).1
theorem MSh.r7 {sh : WSh} (h : MSh sh) : sh.2.1 0 7 = some 8 := (h.2 (7, 9, 12) (by decide)).2
theorem MSh.t9 {sh : WSh} (h : MSh sh) : sh.1 9 = (9, 30) := (h.2 (8, 9, 30) (by decide)).1
theorem MSh.r8 {sh : WSh} (h : MSh sh) : sh.2.1 0 8 = some 9 := (h.2 (8, 9, 30) (by decide)).2
theorem MSh.t11 {sh : WSh} (h : MSh sh) : sh.1 11 = (9, 8) := (h.2 (10, 9, 8) (by decide)).1
theorem MSh.r10 {sh : WSh} (h : MSh sh) : sh.2.1 0 10 = some 11 := (h.2 (10, 9, 8) (by decide)).2
theorem MSh.t12 {sh : WSh} (h : MSh sh) : sh.1 12 = (9, 8) := (h.2 (11, 9, 8) (by decide)).1
theorem MSh.r11 {sh : WSh} (h : MSh sh) : sh.2.1 0 11 = some 12 := (h.2 (11, 9, 8) (by decide)).2
theorem MSh.t13 {sh : WSh} (h : MSh sh) : sh.1 13 = (9, 8) := (h.2 (12, 9, 8) (by decide)).1
theorem MSh.r12 {sh : WSh} (h : MSh sh) : sh.2.1 0 12 = some 13 := (h.2 (12, 9, 8) (by decide)).2
theorem MSh.t14 {sh : WSh} (h : MSh sh) : sh.1 14 = (9, 8) := (h.2 (13, 9, 8) (by decide)).1
theorem MSh.r13 {sh : WSh} (h : MSh sh) : sh.2.1 0 13 = some 14 := (h.2 (13, 9, 8) (by decide)).2
theorem MSh.t15 {sh : WSh} (h : MSh sh) : sh.1 15 = (9, 8) := (h.2 (14, 9, 8) (by decide)).1
theorem MSh.r14 {sh : WSh} (h : MSh sh) : sh.2.1 0 14 = some 15 := (h.2 (14, 9, 8) (by decide)).2
theorem MSh.t16 {sh : WSh} (h : MSh sh) : sh.1 16 = (9, 8) := (h.2 (15, 9, 8) (by decide)).1
theorem MSh.r15 {sh : WSh} (h : MSh sh) : sh.2.1 0 15 = some 16 := (h.2 (15, 9, 8) (by decide)).2
theorem MSh.t17 {sh : WSh} (h : MSh sh) : sh.1 17 = (9, 8) := (h.2 (16, 9, 8) (by decide)).1
theorem MSh.r16 {sh : WSh} (h : MSh sh) : sh.2.1 0 16 = some 17 := (h.2 (16, 9, 8) (by decide)).2
theorem MSh.t18 {sh : WSh} (h : MSh sh) : sh.1 18 = (9, 8) := (h.2 (17, 9, 8) (by decide)).1
theorem MSh.r17 {sh : WSh} (h : MSh sh) : sh.2.1 0 17 = some 18 := (h.2 (17, 9, 8) (by decide)).2
theorem MSh.t19 {sh : WSh} (h : MSh sh) : sh.1 19 = (9, 8) := (h.2 (18, 9, 8) (by decide)).1
theorem MSh.r18 {sh : WSh} (h : MSh sh) : sh.2.1 0 18 = some 19 := (h.2 (18, 9, 8) (by decide)).2
theorem MSh.t20 {sh : WSh} (h : MSh sh) : sh.1 20 = (9, 8) := (h.2 (19, 9, 8) (by decide)).1
theorem MSh.r19 {sh : WSh} (h : MSh sh) : sh.2.1 0 19 = some 20 := (h.2 (19, 9, 8) (by decide)).2
theorem MSh.t21 {sh : WSh} (h : MSh sh) : sh.1 21 = (9, 8) := (h.2 (20, 9, 8) (by decide)).1
theorem MSh.r20 {sh : WSh} (h : MSh sh) : sh.2.1 0 20 = some 21 := (h.2 (20, 9, 8) (by decide)).2
theorem MSh.t22 {sh : WSh} (h : MSh sh) : sh.1 22 = (11, 8) := (h.2 (21, 11, 8) (by decide)).1
theorem MSh.r21 {sh : WSh} (h : MSh sh) : sh.2.1 0 21 = some 22 := (h.2 (21, 11, 8) (by decide)).2
theorem MSh.t23 {sh : WSh} (h : MSh sh) : sh.1 23 = (9, 80) := (h.2 (22, 9, 80) (by decide)).1
theorem MSh.r22 {sh : WSh} (h : MSh sh) : sh.2.1 0 22 = some 23 := (h.2 (22, 9, 80) (by decide)).2
theorem MSh.t25 {sh : WSh} (h : MSh sh) : sh.1 25 = (9, 300) := (h.2 (24, 9, 300) (by decide)).1
theorem MSh.r24 {sh : WSh} (h : MSh sh) : sh.2.1 0 24 = some 25 := (h.2 (24, 9, 300) (by decide)).2
theorem MSh.t26 {sh : WSh} (h : MSh sh) : sh.1 26 = (9, 300) := (h.2 (25, 9, 300) (by decide)).1
theorem MSh.r25 {sh : WSh} (h : MSh sh) : sh.2.1 0 25 = some 26 := (h.2 (25, 9, 300) (by decide)).2
theorem MSh.t27 {sh : WSh} (h : MSh sh) : sh.1 27 = (9, 300) := (h.2 (26, 9, 300) (by decide)).1
theorem MSh.r26 {sh : WSh} (h : MSh sh) : sh.2.1 0 26 = some 27 := (h.2 (26, 9, 300) (by decide)).2
theorem MSh.t28 {sh : WSh} (h : MSh sh) : sh.1 28 = (9, 300) := (h.2 (27, 9, 300) (by decide)).1
theorem MSh.r27 {sh : WSh} (h : MSh sh) : sh.2.1 0 27 = some 28 := (h.2 (27, 9, 300) (by decide)).2
theorem MSh.t29 {sh : WSh} (h : MSh sh) : sh.1 29 = (9, 300) := (h.2 (28, 9, 300) (by decide)).1
theorem MSh.r28 {sh : WSh} (h : MSh sh) : sh.2.1 0 28 = some 29 := (h.2 (28, 9, 300) (by decide)).2
theorem MSh.t30 {sh : WSh} (h : MSh sh) : sh.1 30 = (9, 300) := (h.2 (29, 9, 300) (by decide)).1
theorem MSh.r29 {sh : WSh} (h : MSh sh) : sh.2.1 0 29 = some 30 := (h.2 (29, 9, 300) (by decide)).2
theorem MSh.t31 {sh : WSh} (h : MSh sh) : sh.1 31 = (9, 300) := (h.2 (30, 9, 300) (by decide)).1
theorem MSh.r30 {sh : WSh} (h : MSh sh) : sh.2.1 0 30 = some 31 := (h.2 (30, 9, 300) (by decide)).2
theorem MSh.t32 {sh : WSh} (h : MSh sh) : sh.1 32 = (9, 300) := (h.2 (31, 9, 300) (by decide)).1
theorem MSh.r31 {sh : WSh} (h : MSh sh) : sh.2.1 0 31 = some 32 := (h.2 (31, 9, 300) (by decide)).2
theorem MSh.t33 {sh : WSh} (h : MSh sh) : sh.1 33 = (9, 300) := (h.2 (32, 9, 300) (by decide)).1
theorem MSh.r32 {sh : WSh} (h : MSh sh) : sh.2.1 0 32 = some 33 := (h.2 (32, 9, 300) (by decide)).2
theorem MSh.t34 {sh : WSh} (h : MSh sh) : sh.1 34 = (9, 300) := (h.2 (33, 9, 300) (by decide)).1
theorem MSh.r33 {sh : WSh} (h : MSh sh) : sh.2.1 0 33 = some 34 := (h.2 (33, 9, 300) (by decide)).2
theorem MSh.t35 {sh : WSh} (h : MSh sh) : sh.1 35 = (9, 300) := (h.2 (34, 9, 300) (by decide)).1
theorem MSh.r34 {sh : WSh} (h : MSh sh) : sh.2.1 0 34 = some 35 := (h.2 (34, 9, 300) (by decide)).2
theorem MSh.t36 {sh : WSh} (h : MSh sh) : sh.1 36 = (9, 300) := (h.2 (35, 9, 300) (by decide)).1
theorem MSh.r35 {sh : WSh} (h : MSh sh) : sh.2.1 0 35 = some 36 := (h.2 (35, 9, 300) (by decide)).2
theorem MSh.t37 {sh : WSh} (h : MSh sh) : sh.1 37 = (10, 200) := (h.2 (36, 10, 200) (by decide)).1
theorem MSh.r36 {sh : WSh} (h : MSh sh) : sh.2.1 0 36 = some 37 := (h.2 (36, 10, 200) (by decide)).2
theorem MSh.t40 {sh : WSh} (h : MSh sh) : sh.1 40 = (9, 30) := (h.2 (39, 9, 30) (by decide)).1
theorem MSh.r39 {sh : WSh} (h : MSh sh) : sh.2.1 0 39 = some 40 := (h.2 (39, 9, 30) (by decide)).2
theorem MSh.t41 {sh : WSh} (h : MSh sh) : sh.1 41 = (9, 30) := (h.2 (40, 9, 30) (by decide)).1
theorem MSh.r40 {sh : WSh} (h : MSh sh) : sh.2.1 0 40 = some 41 := (h.2 (40, 9, 30) (by decide)).2
theorem MSh.t42 {sh : WSh} (h : MSh sh) : sh.1 42 = (9, 31) := (h.2 (41, 9, 31) (by decide)).1
theorem MSh.r41 {sh : WSh} (h : MSh sh) : sh.2.1 0 41 = some 42 := (h.2 (41, 9, 31) (by decide)).2
theorem MSh.t43 {sh : WSh} (h : MSh sh) : sh.1 43 = (9, 6200) := (h.2 (42, 9, 6200) (by decide)).1
theorem MSh.r42 {sh : WSh} (h : MSh sh) : sh.2.1 0 42 = some 43 := (h.2 (42, 9, 6200) (by decide)).2
theorem MSh.t44 {sh : WSh} (h : MSh sh) : sh.1 44 = (9, 6200) := (h.2 (43, 9, 6200) (by decide)).1
theorem MSh.r43 {sh : WSh} (h : MSh sh) : sh.2.1 0 43 = some 44 := (h.2 (43, 9, 6200) (by decide)).2
theorem MSh.t51 {sh : WSh} (h : MSh sh) : sh.1 51 = (9, 300) := (h.2 (50, 9, 300) (by decide)).1
theorem MSh.r50 {sh : WSh} (h : MSh sh) : sh.2.1 0 50 = some 51 := (h.2 (50, 9, 300) (by decide)).2
theorem MSh.t53 {sh : WSh} (h : MSh sh) : sh.1 53 = (9, 200) := (h.2 (52, 9, 200) (by decide)).1
theorem MSh.r52 {sh : WSh} (h : MSh sh) : sh.2.1 0 52 = some 53 := (h.2 (52, 9, 200) (by decide)).2
theorem MSh.t54 {sh : WSh} (h : MSh sh) : sh.1 54 = (9, 300) := (h.2 (53, 9, 300) (by decide)).1
theorem MSh.r53 {sh : WSh} (h : MSh sh) : sh.2.1 0 53 = some 54 := (h.2 (53, 9, 300) (by decide)).2
theorem MSh.t55 {sh : WSh} (h : MSh sh) : sh.1 55 = (11, 300) := (h.2 (54, 11, 300) (by decide)).1
theorem MSh.r54 {sh : WSh} (h : MSh sh) : sh.2.1 0 54 = some 55 := (h.2 (54, 11, 300) (by decide)).2
/-! small words -/
def b2 (P : Prop) [Decidable P] : Int32 := if P then 1 else 0
theorem b2_t {P : Prop} [Decidable P] (h : P) : b2 P = 1 := if_pos h
theorem b2_f {P : Prop} [Decidable P] (h : ¬ P) : b2 P = 0 := if_neg h
theorem b2_nar (P : Prop) [Decidable P] : narrow .boolean (.int (b2 P)) = .int (b2 P) := by by_cases h : P <;> simp only [b2, h, if_true, if_false] <;> rfl
theorem b2_ne0 {P : Prop} [Decidable P] : ¬ b2 P = 0 ↔ P := by by_cases h : P <;> simp [b2, h]
theorem b2_eq0 {P : Prop} [Decidable P] : b2 P = 0 ↔ ¬ P := by by_cases h : P <;> simp [b2, h]
abbrev tn (x : Int32) : Nat := x.toNatClampNeg
/-- counting up to n, the rest of the count as hypothesis -/
theorem up_ind {P : Nat → Prop} {n : Nat} (h : ∀ k, k ≤ n → (k < n → P (k + 1)) → P k) : ∀ k, k ≤ n → P k := by
  intro k hk
  obtain ⟨d, hd⟩ : ∃ d, n - k = d := ⟨_, rfl⟩
  induction d generalizing k with
  | zero => exact h k hk (fun hl => by omega)
  | succ d ih => exact h k hk (fun hl => ih (k + 1) (by omega) (by omega))
/-- a measure that falls -/
theorem down_ind {α : Type} {P : α → Prop} (μ : α → Nat) (h : ∀ a, (∀ b, μ b < μ a → P b) → P a) : ∀ a, P a := by
  intro a
  obtain ⟨d, hd⟩ : ∃ d, μ a = d := ⟨_, rfl⟩
  induction d using Nat.strongRecOn generalizing a with
  | ind d ih => exact h a (fun b hb => ih (μ b) (by omega) b rfl)
def iSum (f : Nat → Int32) : Nat → Int32
  | 0 => 0
  | k + 1 => iSum f k + f k
/-- locals: fewer are said -/
def lvle : List (Option Value) → List (Option Value) → Prop
  | [], _ => True
  | none :: a, [] => lvle a []
  | none :: a, _ :: b => lvle a b
  | some v :: a, some w :: b => v = w ∧ lvle a b
  | some _ :: _, _ => False
theorem lvle_at : ∀ {a b : List (Option Value)}, lvle a b → ∀ (k : Nat) (v : Value), a[k]? = some (some v) → b[k]? = some (some v)
  | [], _, _, k, v, h => by simp at h
  | none :: a, [], hl, k, v, h => by
    cases k with
    | zero => simp at h
    | succ k => simp only [List.getElem?_cons_succ] at h; have := lvle_at (a := a) (b := []) hl k v h; simp at this
  | none :: a, x :: b, hl, k, v, h => by
    cases k with
    | zero => simp at h
    | succ k => simp only [List.getElem?_cons_succ] at h ⊢; exact lvle_at (a := a) (b := b) hl k v h
  | some w :: a, some x :: b, hl, k, v, h => by
    cases k with
    | zero => simp at h ⊢; rw [← hl.1]; exact h
    | succ k => simp only [List.getElem?_cons_succ] at h ⊢; exact lvle_at (a := a) (b := b) hl.2 k v h
  | some w :: a, none :: b, hl, k, v, h => by simp [lvle] at hl
  | some w :: a, [], hl, k, v, h => by simp [lvle] at hl
theorem vp_inN {k n : Nat} (h : k < n) (hn : n < 2147483648) : vp_in (nI k) n := vp_in_nI h (by omega)
section Rows
variable {p : Program} {l : Launch} {e : Env} {R : Room} {s : State} {m : MethodId} {args : Array Value} {below : List Frame} {meth : Method} {c : Code} {Q : State → Prop} {g : WGp} {nL : Nat} {own : String} {cc : ByteArray} {ret : Option FieldType}
variable {sh : WSh} {N : WNm} {cells slots pc : Nat} {lv : List (Option Value)} {st : List Value}
theorem J.le {lv1 : List (Option Value)} (h : lvle lv1 lv) (kk : J p l e R s m args below meth c Q g nL sh N cells slots pc lv1 st) : J p l e R s m args below meth c Q g nL sh N cells slots pc lv st := J.sub (lvle_at h) kk
theorem j_ialdN (C : Cx p s m args meth c g nL own cc ret) {i n k : Nat} (ht : sh.1 i = (9, n)) (hk : k < n ∧ n < 2147483648) (hd : decode cc pc = .ok (.iaload, 1)) (kk : J p l e R s m args below meth c Q g nL sh N cells slots (pc + 1) lv (.int (N i k) :: st)) : J p l e R s m args below meth c Q g nL sh N cells slots pc lv (.int (nI k) :: .ref (sh.2.2 i) :: st) := j_iald C ht (vp_inN hk.1 hk.2) hd (by rw [nI_clamp (by omega)]; exact kk)
theorem j_baldN (C : Cx p s m args meth c g nL own cc ret) {i n k : Nat} (ht : sh.1 i = (10, n)) (hk : k < n ∧ n < 2147483648) (hd : decode cc pc = .ok (.baload, 1)) (kk : J p l e R s m args below meth c Q g nL sh N cells slots (pc + 1) lv (.int (N i k) :: st)) : J p l e R s m args below meth c Q g nL sh N cells slots pc lv (.int (nI k) :: .ref (sh.2.2 i) :: st) := j_bald C ht (vp_inN hk.1 hk.2) hd (by rw [nI_clamp (by omega)]; exact kk)
theorem j_zaldN (C : Cx p s m args meth c g nL own cc ret) {i n k : Nat} (ht : sh.1 i = (11, n)) (hk : k < n ∧ n < 2147483648) (hd : decode cc pc = .ok (.baload, 1)) (kk : J p l e R s m args below meth c Q g nL sh N cells slots (pc + 1) lv (.int (N i k) :: st)) : J p l e R s m args below meth c Q g nL sh N cells slots pc lv (.int (nI k) :: .ref (sh.2.2 i) :: st) := j_zald C ht (vp_inN hk.1 hk.2) hd (by rw [nI_clamp (by omega)]; exact kk)
theorem j_iastN (C : Cx p s m args meth c g nL own cc ret) {i n k : Nat} {v : Int32} (ht : sh.1 i = (9, n)) (hk : k < n ∧ n < 2147483648)  (hd : decode cc pc = .ok (.iastore, 1)) (kk : J p l e R s m args below meth c Q g nL sh (u2 N i k (v)) cells slots (pc + 1) lv st) : J p l e R s m args below meth c Q g nL sh N cells slots pc lv (.int v :: .int (nI k) :: .ref (sh.2.2 i) :: st) := j_iast C ht (vp_inN hk.1 hk.2)  hd (by rw [nI_clamp (by omega)]; exact kk)
theorem j_bastN (C : Cx p s m args meth c g nL own cc ret) {i n k : Nat} {v : Int32} (ht : sh.1 i = (10, n)) (hk : k < n ∧ n < 2147483648)  (hd : decode cc pc = .ok (.bastore, 1)) (kk : J p l e R s m args below meth c Q g nL sh (u2 N i k (v.toInt8.toInt32)) cells slots (pc + 1) lv st) : J p l e R s m args below meth c Q g nL sh N cells slots pc lv (.int v :: .int (nI k) :: .ref (sh.2.2 i) :: st) := j_bast C ht (vp_inN hk.1 hk.2)  hd (by rw [nI_clamp (by omega)]; exact kk)
theorem j_zastN (C : Cx p s m args meth c g nL own cc ret) {i n k : Nat} {v : Int32} (ht : sh.1 i = (11, n)) (hk : k < n ∧ n < 2147483648) (hz : narrow .boolean (.int v) = .int v) (hd : decode cc pc = .ok (.bastore, 1)) (kk : J p l e R s m args below meth c Q g nL sh (u2 N i k (v)) cells slots (pc + 1) lv st) : J p l e R s m args below meth c Q g nL sh N cells slots pc lv (.int v :: .int (nI k) :: .ref (sh.2.2 i) :: st) := j_zast C ht (vp_inN hk.1 hk.2) hz hd (by rw [nI_clamp (by omega)]; exact kk)
theorem j_iincN (C : Cx p s m args meth c g nL own cc ret) {k a : Nat} (hd : decode cc pc = .ok (.iinc k 1, 3)) (hk : lv[k]? = some (some (.int (nI a)))) (hn : k < nL) (hok : lvok lv k = true) (kk : J p l e R s m args below meth c Q g nL sh N cells slots (pc + 3) (lv.set k (some (.int (nI (a + 1))))) st) : J p l e R s m args below meth c Q g nL sh N cells slots pc lv st := j_iinc C hd hk (v := nI (a + 1)) (by rw [← nI_1]; rfl) hn hok kk
end Rows
end
section
/-! ===== THE REFERENCE, method by method: leaves ===== -/
theorem i_nlt {a b : Int32} : ¬ a < b ↔ b ≤ a := by rw [Int32.lt_iff_toInt_lt, Int32.le_iff_toInt_le]; omega
theorem i_nle {a b : Int32} : ¬ a ≤ b ↔ b < a := by rw [Int32.lt_iff_toInt_lt, Int32.le_iff_toInt_le]; omega
theorem n_nle {a b : Nat} (ha : a < 2147483648) (hb : b < 2147483648) : nI a ≤ nI b ↔ a ≤ b := nI_leI (by omega) (by omega)
theorem n_nlt {a b : Nat} (ha : a < 2147483648) (hb : b < 2147483648) : nI a < nI b ↔ a < b := nI_ltI (by omega) (by omega)
theorem i_le {a b : Int32} : a ≤ b ↔ a.toInt ≤ b.toInt := Int32.le_iff_toInt_le
theorem i_lt {a b : Int32} : a < b ↔ a.toInt < b.toInt := Int32.lt_iff_toInt_lt
theorem n_int {k : Nat} (h : k < 2147483648) : (nI k).toInt = (k : Int) := nI_toInt (by omega)
theorem rngN {x : Int32} {n : Nat} (h : 0 ≤ x ∧ x ≤ nI n - 1) (hn : n < 1073741824) : ∃ k, k < n ∧ x = nI k ∧ tn x = k := by
  have h1 : (0 : Int32).toInt ≤ x.toInt := i_le.mp h.1
  have h2 := i_le.mp h.2
  have e1 : (nI n - 1).toInt = (n : Int) - 1 := pk_sub_toInt (b := 1) (by omega) (by omega)
  have h0 : (0 : Int32).toInt = 0 := by decide
  obtain ⟨k, hk, rfl⟩ := vp_in_of (n := n) ((vp_in_iff (x := x)).mpr ⟨by omega, by omega⟩) (by omega)
  exact ⟨k, hk, rfl, nI_clamp (by omega)⟩
theorem rngC {x h : Int32} {n : Nat} (hx : 0 ≤ x ∧ x ≤ h) (hh : h = nI n - 1) (hn : n < 1073741824) : ∃ k, k < n ∧ x = nI k ∧ tn x = k := rngN (by rw [← hh]; exact hx) hn
theorem ix10 (a b : Nat) : (10 : Int32) * nI a + nI b = nI (10 * a + b) := by
  rw [show (10 : Int32) = nI 10 from rfl, pk_mul, nI_add]

theorem cM_in {l : Launch} {g : WGp} (hg : GOK g) {sh : WSh} {N : WNm} (v lo hi : Int32) : CT l g yX7_in cX7_in 3 (some .boolean) (RM 1 0 0) [.int v, .int lo, .int hi] sh N (QF g sh N (b2 (lo ≤ v ∧ v ≤ hi))) := by
  refine ent hg (by decide +kernel) (Nat.le_of_ble_eq_true rfl) ?_
  intro p e s m args below meth c C hname
  refine j_iload_n C dX7_in_0 rfl ?_
  refine j_iload_n C dX7_in_1 rfl ?_
  refine j_icmp_lt (tgt := 14) C dX7_in_2 (by decide) (fun h2 => ?_) (fun h2 => ?_)
  · skip
    refine j_iconst C dX7_in_14 (v := 0) (by decide) ?_
    refine j_iret C dX7_in_15 rfl ⟨rfl, rfl, ?_⟩
    first | exact (b2_t ⟨h2, h7⟩).symm | exact (b2_f (fun z => absurd z.1 (i_nle.mpr h2))).symm | exact (b2_f (fun z => absurd z.2 (i_nle.mpr h7))).symm
  · replace h2 := i_nlt.mp h2
    refine j_iload_n C dX7_in_5 rfl ?_
    refine j_iload_n C dX7_in_6 rfl ?_
    refine j_icmp_gt (tgt := 14) C dX7_in_7 (by decide) (fun h7 => ?_) (fun h7 => ?_)
    · skip
      refine j_iconst C dX7_in_14 (v := 0) (by decide) ?_
      refine j_iret C dX7_in_15 rfl ⟨rfl, rfl, ?_⟩
      first | exact (b2_t ⟨h2, h7⟩).symm | exact (b2_f (fun z => absurd z.1 (i_nle.mpr h2))).symm | exact (b2_f (fun z => absurd z.2 (i_nle.mpr h7))).symm
    · replace h7 := i_nlt.mp h7
      refine j_iconst C dX7_in_10 (v := 1) (by decide) ?_
      refine j_goto (tgt := 15) C dX7_in_11 (by decide) ?_
      refine j_iret C dX7_in_15 rfl ⟨rfl, rfl, ?_⟩
      first | exact (b2_t ⟨h2, h7⟩).symm | exact (b2_f (fun z => absurd z.1 (i_nle.mpr h2))).symm | exact (b2_f (fun z => absurd z.2 (i_nle.mpr h7))).symm

theorem cM_isPerson {l : Launch} {g : WGp} (hg : GOK g) {sh : WSh} {N : WNm} (v : Int32) : CT l g yX7_isPerson cX7_isPerson 1 (some .boolean) (RM 2 0 0) [.int v] sh N (QF g sh N (b2 (0 ≤ v ∧ v ≤ 9))) := by
  refine ent hg (by decide +kernel) (Nat.le_of_ble_eq_true rfl) ?_
  intro p e s m args below meth c C hname
  refine j_iload_n C dX7_isPerson_0 rfl ?_
  refine j_iconst C dX7_isPerson_1 (v := 0) (by decide) ?_
  refine j_bipush C dX7_isPerson_2 (v := 9) (by decide) ?_
  refine j_callS3I C ml_X7_133 dX7_isPerson_4 (cM_in hg _ _ _) ⟨Nat.le_of_ble_eq_true rfl, Nat.le_of_ble_eq_true rfl⟩ (Nat.le_of_ble_eq_true rfl) ⟨rfl, rfl⟩ ⟨Nat.zero_le _, Nat.zero_le _⟩ ?_
  exact j_iret C dX7_isPerson_7 (b2_nar _) ⟨rfl, rfl, rfl⟩

theorem cM_isPort {l : Launch} {g : WGp} (hg : GOK g) {sh : WSh} {N : WNm} (M : MSh sh) (v : Int32) : CT l g yX7_isPort cX7_isPort 2 (some .boolean) (RM 2 0 0) [.ref (sh.2.2 0), .int v] sh N (QF g sh N (b2 (0 ≤ v ∧ v ≤ N 0 5 - 1))) := by
  refine ent hg (by decide +kernel) (Nat.le_of_ble_eq_true rfl) ?_
  intro p e s m args below meth c C hname
  refine j_iload_n C dX7_isPort_0 rfl ?_
  refine j_iconst C dX7_isPort_1 (v := 0) (by decide) ?_
  refine j_aload_n C dX7_isPort_2 rfl ?_
  refine j_getI C fl_X7_137 dX7_isPort_3 (M.c) rfl ?_
  refine j_iconst C dX7_isPort_6 (v := 1) (by decide) ?_
  refine j_isub C dX7_isPort_7 ?_
  refine j_callS3I C ml_X7_133 dX7_isPort_8 (cM_in hg _ _ _) ⟨Nat.le_of_ble_eq_true rfl, Nat.le_of_ble_eq_true rfl⟩ (Nat.le_of_ble_eq_true rfl) ⟨rfl, rfl⟩ ⟨Nat.zero_le _, Nat.zero_le _⟩ ?_
  exact j_iret C dX7_isPort_11 (b2_nar _) ⟨rfl, rfl, rfl⟩

theorem cM_isGalley {l : Launch} {g : WGp} (hg : GOK g) {sh : WSh} {N : WNm} (M : MSh sh) (v : Int32) : CT l g yX7_isGalley cX7_isGalley 2 (some .boolean) (RM 2 0 0) [.ref (sh.2.2 0), .int v] sh N (QF g sh N (b2 (0 ≤ v ∧ v ≤ N 0 9 - 1))) := by
  refine ent hg (by decide +kernel) (Nat.le_of_ble_eq_true rfl) ?_
  intro p e s m args below meth c C hname
  refine j_iload_n C dX7_isGalley_0 rfl ?_
  refine j_iconst C dX7_isGalley_1 (v := 0) (by decide) ?_
  refine j_aload_n C dX7_isGalley_2 rfl ?_
  refine j_getI C fl_X7_140 dX7_isGalley_3 (M.c) rfl ?_
  refine j_iconst C dX7_isGalley_6 (v := 1) (by decide) ?_
  refine j_isub C dX7_isGalley_7 ?_
  refine j_callS3I C ml_X7_133 dX7_isGalley_8 (cM_in hg _ _ _) ⟨Nat.le_of_ble_eq_true rfl, Nat.le_of_ble_eq_true rfl⟩ (Nat.le_of_ble_eq_true rfl) ⟨rfl, rfl⟩ ⟨Nat.zero_le _, Nat.zero_le _⟩ ?_
  exact j_iret C dX7_isGalley_11 (b2_nar _) ⟨rfl, rfl, rfl⟩

theorem cM_isBale {l : Launch} {g : WGp} (hg : GOK g) {sh : WSh} {N : WNm} (M : MSh sh) (v : Int32) : CT l g yX7_isBale cX7_isBale 2 (some .boolean) (RM 2 0 0) [.ref (sh.2.2 0), .int v] sh N (QF g sh N (b2 (0 ≤ v ∧ v ≤ N 0 23 - 1))) := by
  refine ent hg (by decide +kernel) (Nat.le_of_ble_eq_true rfl) ?_
  intro p e s m args below meth c C hname
  refine j_iload_n C dX7_isBale_0 rfl ?_
  refine j_iconst C dX7_isBale_1 (v := 0) (by decide) ?_
  refine j_aload_n C dX7_isBale_2 rfl ?_
  refine j_getI C fl_X7_143 dX7_isBale_3 (M.c) rfl ?_
  refine j_iconst C dX7_isBale_6 (v := 1) (by decide) ?_
  refine j_isub C dX7_isBale_7 ?_
  refine j_callS3I C ml_X7_133 dX7_isBale_8 (cM_in hg _ _ _) ⟨Nat.le_of_ble_eq_true rfl, Nat.le_of_ble_eq_true rfl⟩ (Nat.le_of_ble_eq_true rfl) ⟨rfl, rfl⟩ ⟨Nat.zero_le _, Nat.zero_le _⟩ ?_
  exact j_iret C dX7_isBale_11 (b2_nar _) ⟨rfl, rfl, rfl⟩

theorem cM_isOn {l : Launch} {g : WGp} (hg : GOK g) {sh : WSh} {N : WNm} (M : MSh sh) {k : Nat} (hk : k < 300) (x : Int32) : CT l g yX7_isOn cX7_isOn 3 (some .boolean) (RM 1 0 0) [.ref (sh.2.2 0), .int (nI k), .int x] sh N (QF g sh N (b2 (N 34 k = 1 ∧ N 35 k = x))) := by
  refine ent hg (by decide +kernel) (Nat.le_of_ble_eq_true rfl) ?_
  intro p e s m args below meth c C hname
  refine j_aload_n C dX7_isOn_0 rfl ?_
  refine j_getR (j := 34) C fl_X7_89 dX7_isOn_1 (M.c) rfl (M.r33) ?_
  refine j_iload_n C dX7_isOn_4 rfl ?_
  refine j_ialdN C (M.t34) (⟨hk, by decide⟩) dX7_isOn_5 ?_
  refine j_iconst C dX7_isOn_6 (v := 1) (by decide) ?_
  refine j_icmp_ne (tgt := 24) C dX7_isOn_7 (by decide) (fun h7 => ?_) (fun h7 => ?_)
  · skip
    refine j_iconst C dX7_isOn_24 (v := 0) (by decide) ?_
    refine j_iret C dX7_isOn_25 rfl ⟨rfl, rfl, ?_⟩
    simp_all [b2]
  · replace h7 := Decidable.not_not.mp h7
    refine j_aload_n C dX7_isOn_10 rfl ?_
    refine j_getR (j := 35) C fl_X7_92 dX7_isOn_11 (M.c) rfl (M.r34) ?_
    refine j_iload_n C dX7_isOn_14 rfl ?_
    refine j_ialdN C (M.t35) (⟨hk, by decide⟩) dX7_isOn_15 ?_
    refine j_iload_n C dX7_isOn_16 rfl ?_
    refine j_icmp_ne (tgt := 24) C dX7_isOn_17 (by decide) (fun h17 => ?_) (fun h17 => ?_)
    · skip
      refine j_iconst C dX7_isOn_24 (v := 0) (by decide) ?_
      refine j_iret C dX7_isOn_25 rfl ⟨rfl, rfl, ?_⟩
      simp_all [b2]
    · replace h17 := Decidable.not_not.mp h17
      refine j_iconst C dX7_isOn_20 (v := 1) (by decide) ?_
      refine j_goto (tgt := 25) C dX7_isOn_21 (by decide) ?_
      refine j_iret C dX7_isOn_25 rfl ⟨rfl, rfl, ?_⟩
      simp_all [b2]

def mRoomOn (N : WNm) (x : Int32) (n : Nat) : Int32 := iSum (fun b => if N 34 b = 1 ∧ N 35 b = x then N 29 b else 0) n
theorem cM_roomOn {l : Launch} {g : WGp} (hg : GOK g) {sh : WSh} {N : WNm} (M : MSh sh) {n : Nat} (hn : N 0 23 = nI n) (hn3 : n ≤ 300) (x : Int32) : CT l g yX7_roomOn cX7_roomOn 4 (some .int) (RM 2 0 0) [.ref (sh.2.2 0), .int x] sh N (QF g sh N (mRoomOn N x n)) := by
  refine ent hg (by decide +kernel) (Nat.le_of_ble_eq_true rfl) ?_
  intro p e s m args below meth c C hname
  refine j_iconst C dX7_roomOn_0 (v := 0) (by decide) ?_
  refine j_istore_n C dX7_roomOn_1 (by decide) rfl ?_
  refine j_iconst C dX7_roomOn_2 (v := 0) (by decide) ?_
  refine j_istore_n C dX7_roomOn_3 (by decide) rfl ?_
  refine up_ind (P := fun k => J p l e (RM 2 0 0) s m args below meth c _ g _ sh N 0 0 4 [some (.ref (sh.2.2 0)), some (.int x), some (.int (mRoomOn N x k)), some (.int (nI k))] []) (n := n) ?_ 0 (Nat.zero_le _)
  intro k hk ih
  refine j_iload_n C dX7_roomOn_4 rfl ?_
  refine j_aload_n C dX7_roomOn_5 rfl ?_
  refine j_getI C fl_X7_143 dX7_roomOn_6 (M.c) rfl ?_
  refine j_icmp_ge (tgt := 40) C dX7_roomOn_9 (by decide) (fun h9 => ?_) (fun h9 => ?_)
  · skip
    rw [hn, n_nle (by omega) (by omega)] at h9
    obtain rfl : k = n := by omega
    refine j_iload_n C dX7_roomOn_40 rfl ?_
    exact j_iret C dX7_roomOn_41 rfl ⟨rfl, rfl, rfl⟩
  · replace h9 := i_nle.mp h9
    rw [hn, n_nlt (by omega) (by omega)] at h9
    refine j_iload_n C dX7_roomOn_12 rfl ?_
    refine j_aload_n C dX7_roomOn_13 rfl ?_
    refine j_iload_n C dX7_roomOn_14 rfl ?_
    refine j_iload_n C dX7_roomOn_15 rfl ?_
    refine j_callV2I C ml_X7_171 dX7_roomOn_16 (cM_isOn hg M (k := k) (by omega) x) ⟨by rw [M.c]; decide, by rw [M.c]; rfl⟩ ⟨Nat.le_of_ble_eq_true rfl, Nat.le_of_ble_eq_true rfl⟩ (Nat.le_of_ble_eq_true rfl) ⟨rfl, rfl⟩ ⟨Nat.zero_le _, Nat.zero_le _⟩ ?_
    refine j_if_eq (tgt := 31) C dX7_roomOn_19 (by decide) (fun h19 => ?_) (fun h19 => ?_)
    · replace h19 := b2_eq0.mp h19
      refine j_iconst C dX7_roomOn_31 (v := 0) (by decide) ?_
      refine j_iadd C dX7_roomOn_32 ?_
      refine j_istore_n C dX7_roomOn_33 (by decide) rfl ?_
      refine j_iincN C dX7_roomOn_34 rfl (by decide) rfl ?_
      refine j_goto (tgt := 4) C dX7_roomOn_37 (by decide) ?_
      rw [show mRoomOn N x k + _ = mRoomOn N x (k + 1) by simp [mRoomOn, iSum, *]]
      exact ih (by omega)
    · replace h19 := b2_ne0.mp h19
      refine j_aload_n C dX7_roomOn_22 rfl ?_
      refine j_getR (j := 29) C fl_X7_74 dX7_roomOn_23 (M.c) rfl (M.r28) ?_
      refine j_iload_n C dX7_roomOn_26 rfl ?_
      refine j_ialdN C (M.t29) (⟨by omega, by decide⟩) dX7_roomOn_27 ?_
      refine j_goto (tgt := 32) C dX7_roomOn_28 (by decide) ?_
      refine j_iadd C dX7_roomOn_32 ?_
      refine j_istore_n C dX7_roomOn_33 (by decide) rfl ?_
      refine j_iincN C dX7_roomOn_34 rfl (by decide) rfl ?_
      refine j_goto (tgt := 4) C dX7_roomOn_37 (by decide) ?_
      rw [show mRoomOn N x k + _ = mRoomOn N x (k + 1) by simp [mRoomOn, iSum, *]]
      exact ih (by omega)

def mBalesOn (N : WNm) (x : Int32) (n : Nat) : Int32 := iSum (fun b => if N 34 b = 1 ∧ N 35 b = x then 1 else 0) n
theorem cM_balesOn {l : Launch} {g : WGp} (hg : GOK g) {sh : WSh} {N : WNm} (M : MSh sh) {n : Nat} (hn : N 0 23 = nI n) (hn3 : n ≤ 300) (x : Int32) : CT l g yX7_balesOn cX7_balesOn 4 (some .int) (RM 2 0 0) [.ref (sh.2.2 0), .int x] sh N (QF g sh N (mBalesOn N x n)) := by
  refine ent hg (by decide +kernel) (Nat.le_of_ble_eq_true rfl) ?_
  intro p e s m args below meth c C hname
  refine j_iconst C dX7_balesOn_0 (v := 0) (by decide) ?_
  refine j_istore_n C dX7_balesOn_1 (by decide) rfl ?_
  refine j_iconst C dX7_balesOn_2 (v := 0) (by decide) ?_
  refine j_istore_n C dX7_balesOn_3 (by decide) rfl ?_
  refine up_ind (P := fun k => J p l e (RM 2 0 0) s m args below meth c _ g _ sh N 0 0 4 [some (.ref (sh.2.2 0)), some (.int x), some (.int (mBalesOn N x k)), some (.int (nI k))] []) (n := n) ?_ 0 (Nat.zero_le _)
  intro k hk ih
  refine j_iload_n C dX7_balesOn_4 rfl ?_
  refine j_aload_n C dX7_balesOn_5 rfl ?_
  refine j_getI C fl_X7_143 dX7_balesOn_6 (M.c) rfl ?_
  refine j_icmp_ge (tgt := 35) C dX7_balesOn_9 (by decide) (fun h9 => ?_) (fun h9 => ?_)
  · skip
    refine j_iload_n C dX7_balesOn_35 rfl ?_
    rw [hn, n_nle (by omega) (by omega)] at h9
    obtain rfl : k = n := by omega
    exact j_iret C dX7_balesOn_36 rfl ⟨rfl, rfl, rfl⟩
  · replace h9 := i_nle.mp h9
    rw [hn, n_nlt (by omega) (by omega)] at h9
    refine j_iload_n C dX7_balesOn_12 rfl ?_
    refine j_aload_n C dX7_balesOn_13 rfl ?_
    refine j_iload_n C dX7_balesOn_14 rfl ?_
    refine j_iload_n C dX7_balesOn_15 rfl ?_
    refine j_callV2I C ml_X7_171 dX7_balesOn_16 (cM_isOn hg M (k := k) (by omega) x) ⟨by rw [M.c]; decide, by rw [M.c]; rfl⟩ ⟨Nat.le_of_ble_eq_true rfl, Nat.le_of_ble_eq_true rfl⟩ (Nat.le_of_ble_eq_true rfl) ⟨rfl, rfl⟩ ⟨Nat.zero_le _, Nat.zero_le _⟩ ?_
    refine j_if_eq (tgt := 26) C dX7_balesOn_19 (by decide) (fun h19 => ?_) (fun h19 => ?_)
    · replace h19 := b2_eq0.mp h19
      refine j_iconst C dX7_balesOn_26 (v := 0) (by decide) ?_
      refine j_iadd C dX7_balesOn_27 ?_
      refine j_istore_n C dX7_balesOn_28 (by decide) rfl ?_
      refine j_iincN C dX7_balesOn_29 rfl (by decide) rfl ?_
      refine j_goto (tgt := 4) C dX7_balesOn_32 (by decide) ?_
      rw [show mBalesOn N x k + _ = mBalesOn N x (k + 1) by simp [mBalesOn, iSum, *]]
      exact ih (by omega)
    · replace h19 := b2_ne0.mp h19
      refine j_iconst C dX7_balesOn_22 (v := 1) (by decide) ?_
      refine j_goto (tgt := 27) C dX7_balesOn_23 (by decide) ?_
      refine j_iadd C dX7_balesOn_27 ?_
      refine j_istore_n C dX7_balesOn_28 (by decide) rfl ?_
      refine j_iincN C dX7_balesOn_29 rfl (by decide) rfl ?_
      refine j_goto (tgt := 4) C dX7_balesOn_32 (by decide) ?_
      rw [show mBalesOn N x k + _ = mBalesOn N x (k + 1) by simp [mBalesOn, iSum, *]]
      exact ih (by omega)

def mWeightOn (N : WNm) (x : Int32) (hv : Prop) [Decidable hv] (n : Nat) : Int32 := iSum (fun b => if (N 34 b = 1 ∧ N 35 b = x) ∧ (¬ hv ∨ N 28 b = 1) then N 30 b else 0) n
theorem cM_weightOn {l : Launch} {g : WGp} (hg : GOK g) {sh : WSh} {N : WNm} (M : MSh sh) {n : Nat} (hn : N 0 23 = nI n) (hn3 : n ≤ 300) (x : Int32) (hv : Prop) [Decidable hv] : CT l g yX7_weightOn cX7_weightOn 5 (some .int) (RM 2 0 0) [.ref (sh.2.2 0), .int x, .int (b2 hv)] sh N (QF g sh N (mWeightOn N x hv n)) := by
  refine ent hg (by decide +kernel) (Nat.le_of_ble_eq_true rfl) ?_
  intro p e s m args below meth c C hname
  refine j_iconst C dX7_weightOn_0 (v := 0) (by decide) ?_
  refine j_istore_n C dX7_weightOn_1 (by decide) rfl ?_
  refine j_iconst C dX7_weightOn_2 (v := 0) (by decide) ?_
  refine j_istore C dX7_weightOn_3 (by decide) rfl ?_
  refine up_ind (P := fun k => J p l e (RM 2 0 0) s m args below meth c _ g _ sh N 0 0 5 [some (.ref (sh.2.2 0)), some (.int x), some (.int (b2 hv)), some (.int (mWeightOn N x hv k)), some (.int (nI k))] []) (n := n) ?_ 0 (Nat.zero_le _)
  intro k hk ih
  refine j_iload C dX7_weightOn_5 rfl ?_
  refine j_aload_n C dX7_weightOn_7 rfl ?_
  refine j_getI C fl_X7_143 dX7_weightOn_8 (M.c) rfl ?_
  refine j_icmp_ge (tgt := 59) C dX7_weightOn_11 (by decide) (fun h11 => ?_) (fun h11 => ?_)
  · skip
    refine j_iload_n C dX7_weightOn_59 rfl ?_
    rw [hn, n_nle (by omega) (by omega)] at h11
    obtain rfl : k = n := by omega
    exact j_iret C dX7_weightOn_60 rfl ⟨rfl, rfl, rfl⟩
  · replace h11 := i_nle.mp h11
    rw [hn, n_nlt (by omega) (by omega)] at h11
    refine j_iload_n C dX7_weightOn_14 rfl ?_
    refine j_aload_n C dX7_weightOn_15 rfl ?_
    refine j_iload C dX7_weightOn_16 rfl ?_
    refine j_iload_n C dX7_weightOn_18 rfl ?_
    refine j_callV2I C ml_X7_171 dX7_weightOn_19 (cM_isOn hg M (k := k) (by omega) x) ⟨by rw [M.c]; decide, by rw [M.c]; rfl⟩ ⟨Nat.le_of_ble_eq_true rfl, Nat.le_of_ble_eq_true rfl⟩ (Nat.le_of_ble_eq_true rfl) ⟨rfl, rfl⟩ ⟨Nat.zero_le _, Nat.zero_le _⟩ ?_
    refine j_if_eq (tgt := 50) C dX7_weightOn_22 (by decide) (fun h22 => ?_) (fun h22 => ?_)
    · replace h22 := b2_eq0.mp h22
      refine j_iconst C dX7_weightOn_50 (v := 0) (by decide) ?_
      refine j_iadd C dX7_weightOn_51 ?_
      refine j_istore_n C dX7_weightOn_52 (by decide) rfl ?_
      refine j_iincN C dX7_weightOn_53 rfl (by decide) rfl ?_
      refine j_goto (tgt := 5) C dX7_weightOn_56 (by decide) ?_
      rw [show mWeightOn N x hv k + _ = mWeightOn N x hv (k + 1) by simp_all [mWeightOn, iSum, b2_eq0, b2_ne0]]
      exact ih (by omega)
    · replace h22 := b2_ne0.mp h22
      refine j_iload_n C dX7_weightOn_25 rfl ?_
      refine j_if_eq (tgt := 40) C dX7_weightOn_26 (by decide) (fun h26 => ?_) (fun h26 => ?_)
      · skip
        refine j_aload_n C dX7_weightOn_40 rfl ?_
        refine j_getR (j := 30) C fl_X7_77 dX7_weightOn_41 (M.c) rfl (M.r29) ?_
        refine j_iload C dX7_weightOn_44 rfl ?_
        refine j_ialdN C (M.t30) (⟨by omega, by decide⟩) dX7_weightOn_46 ?_
        refine j_goto (tgt := 51) C dX7_weightOn_47 (by decide) ?_
        refine j_iadd C dX7_weightOn_51 ?_
        refine j_istore_n C dX7_weightOn_52 (by decide) rfl ?_
        refine j_iincN C dX7_weightOn_53 rfl (by decide) rfl ?_
        refine j_goto (tgt := 5) C dX7_weightOn_56 (by decide) ?_
        rw [show mWeightOn N x hv k + _ = mWeightOn N x hv (k + 1) by simp_all [mWeightOn, iSum, b2_eq0, b2_ne0]]
        exact ih (by omega)
      · skip
        refine j_aload_n C dX7_weightOn_29 rfl ?_
        refine j_getR (j := 28) C fl_X7_71 dX7_weightOn_30 (M.c) rfl (M.r27) ?_
        refine j_iload C dX7_weightOn_33 rfl ?_
        refine j_ialdN C (M.t28) (⟨by omega, by decide⟩) dX7_weightOn_35 ?_
        refine j_iconst C dX7_weightOn_36 (v := 1) (by decide) ?_
        refine j_icmp_ne (tgt := 50) C dX7_weightOn_37 (by decide) (fun h37 => ?_) (fun h37 => ?_)
        · skip
          refine j_iconst C dX7_weightOn_50 (v := 0) (by decide) ?_
          refine j_iadd C dX7_weightOn_51 ?_
          refine j_istore_n C dX7_weightOn_52 (by decide) rfl ?_
          refine j_iincN C dX7_weightOn_53 rfl (by decide) rfl ?_
          refine j_goto (tgt := 5) C dX7_weightOn_56 (by decide) ?_
          rw [show mWeightOn N x hv k + _ = mWeightOn N x hv (k + 1) by simp_all [mWeightOn, iSum, b2_eq0, b2_ne0]]
          exact ih (by omega)
        · replace h37 := Decidable.not_not.mp h37
          refine j_aload_n C dX7_weightOn_40 rfl ?_
          refine j_getR (j := 30) C fl_X7_77 dX7_weightOn_41 (M.c) rfl (M.r29) ?_
          refine j_iload C dX7_weightOn_44 rfl ?_
          refine j_ialdN C (M.t30) (⟨by omega, by decide⟩) dX7_weightOn_46 ?_
          refine j_goto (tgt := 51) C dX7_weightOn_47 (by decide) ?_
          refine j_iadd C dX7_weightOn_51 ?_
          refine j_istore_n C dX7_weightOn_52 (by decide) rfl ?_
          refine j_iincN C dX7_weightOn_53 rfl (by decide) rfl ?_
          refine j_goto (tgt := 5) C dX7_weightOn_56 (by decide) ?_
          rw [show mWeightOn N x hv k + _ = mWeightOn N x hv (k + 1) by simp_all [mWeightOn, iSum, b2_eq0, b2_ne0]]
          exact ih (by omega)

def mBalesAs (N : WNm) (x : Int32) (n : Nat) : Int32 := iSum (fun b => if N 34 b = x then 1 else 0) n
theorem cM_balesAs {l : Launch} {g : WGp} (hg : GOK g) {sh : WSh} {N : WNm} (M : MSh sh) {n : Nat} (hn : N 0 23 = nI n) (hn3 : n ≤ 300) (x : Int32) : CT l g yX7_balesAs cX7_balesAs 4 (some .int) (RM 1 0 0) [.ref (sh.2.2 0), .int x] sh N (QF g sh N (mBalesAs N x n)) := by
  refine ent hg (by decide +kernel) (Nat.le_of_ble_eq_true rfl) ?_
  intro p e s m args below meth c C hname
  refine j_iconst C dX7_balesAs_0 (v := 0) (by decide) ?_
  refine j_istore_n C dX7_balesAs_1 (by decide) rfl ?_
  refine j_iconst C dX7_balesAs_2 (v := 0) (by decide) ?_
  refine j_istore_n C dX7_balesAs_3 (by decide) rfl ?_
  refine up_ind (P := fun k => J p l e (RM 1 0 0) s m args below meth c _ g _ sh N 0 0 4 [some (.ref (sh.2.2 0)), some (.int x), some (.int (mBalesAs N x k)), some (.int (nI k))] []) (n := n) ?_ 0 (Nat.zero_le _)
  intro k hk ih
  refine j_iload_n C dX7_balesAs_4 rfl ?_
  refine j_aload_n C dX7_balesAs_5 rfl ?_
  refine j_getI C fl_X7_143 dX7_balesAs_6 (M.c) rfl ?_
  refine j_icmp_ge (tgt := 36) C dX7_balesAs_9 (by decide) (fun h9 => ?_) (fun h9 => ?_)
  · skip
    refine j_iload_n C dX7_balesAs_36 rfl ?_
    rw [hn, n_nle (by omega) (by omega)] at h9
    obtain rfl : k = n := by omega
    exact j_iret C dX7_balesAs_37 rfl ⟨rfl, rfl, rfl⟩
  · replace h9 := i_nle.mp h9
    rw [hn, n_nlt (by omega) (by omega)] at h9
    refine j_iload_n C dX7_balesAs_12 rfl ?_
    refine j_aload_n C dX7_balesAs_13 rfl ?_
    refine j_getR (j := 34) C fl_X7_89 dX7_balesAs_14 (M.c) rfl (M.r33) ?_
    refine j_iload_n C dX7_balesAs_17 rfl ?_
    refine j_ialdN C (M.t34) (⟨by omega, by decide⟩) dX7_balesAs_18 ?_
    refine j_iload_n C dX7_balesAs_19 rfl ?_
    refine j_icmp_ne (tgt := 27) C dX7_balesAs_20 (by decide) (fun h20 => ?_) (fun h20 => ?_)
    · skip
      refine j_iconst C dX7_balesAs_27 (v := 0) (by decide) ?_
      refine j_iadd C dX7_balesAs_28 ?_
      refine j_istore_n C dX7_balesAs_29 (by decide) rfl ?_
      refine j_iincN C dX7_balesAs_30 rfl (by decide) rfl ?_
      refine j_goto (tgt := 4) C dX7_balesAs_33 (by decide) ?_
      rw [show mBalesAs N x k + _ = mBalesAs N x (k + 1) by simp [mBalesAs, iSum, *]]
      exact ih (by omega)
    · replace h20 := Decidable.not_not.mp h20
      refine j_iconst C dX7_balesAs_23 (v := 1) (by decide) ?_
      refine j_goto (tgt := 28) C dX7_balesAs_24 (by decide) ?_
      refine j_iadd C dX7_balesAs_28 ?_
      refine j_istore_n C dX7_balesAs_29 (by decide) rfl ?_
      refine j_iincN C dX7_balesAs_30 rfl (by decide) rfl ?_
      refine j_goto (tgt := 4) C dX7_balesAs_33 (by decide) ?_
      rw [show mBalesAs N x k + _ = mBalesAs N x (k + 1) by simp [mBalesAs, iSum, *]]
      exact ih (by omega)

def mInPort (N : WNm) (x : Int32) (n : Nat) : Int32 := iSum (fun b => if N 15 b = 1 ∧ N 16 b = x then 1 else 0) n
theorem cM_inPort {l : Launch} {g : WGp} (hg : GOK g) {sh : WSh} {N : WNm} (M : MSh sh) {n : Nat} (hn : N 0 9 = nI n) (hn3 : n ≤ 8) (x : Int32) : CT l g yX7_inPort cX7_inPort 4 (some .int) (RM 1 0 0) [.ref (sh.2.2 0), .int x] sh N (QF g sh N (mInPort N x n)) := by
  refine ent hg (by decide +kernel) (Nat.le_of_ble_eq_true rfl) ?_
  intro p e s m args below meth c C hname
  refine j_iconst C dX7_inPort_0 (v := 0) (by decide) ?_
  refine j_istore_n C dX7_inPort_1 (by decide) rfl ?_
  refine j_iconst C dX7_inPort_2 (v := 0) (by decide) ?_
  refine j_istore_n C dX7_inPort_3 (by decide) rfl ?_
  refine up_ind (P := fun k => J p l e (RM 1 0 0) s m args below meth c _ g _ sh N 0 0 4 [some (.ref (sh.2.2 0)), some (.int x), some (.int (mInPort N x k)), some (.int (nI k))] []) (n := n) ?_ 0 (Nat.zero_le _)
  intro k hk ih
  refine j_iload_n C dX7_inPort_4 rfl ?_
  refine j_aload_n C dX7_inPort_5 rfl ?_
  refine j_getI C fl_X7_140 dX7_inPort_6 (M.c) rfl ?_
  refine j_icmp_ge (tgt := 46) C dX7_inPort_9 (by decide) (fun h9 => ?_) (fun h9 => ?_)
  · skip
    refine j_iload_n C dX7_inPort_46 rfl ?_
    rw [hn, n_nle (by omega) (by omega)] at h9
    obtain rfl : k = n := by omega
    exact j_iret C dX7_inPort_47 rfl ⟨rfl, rfl, rfl⟩
  · replace h9 := i_nle.mp h9
    rw [hn, n_nlt (by omega) (by omega)] at h9
    refine j_iload_n C dX7_inPort_12 rfl ?_
    refine j_aload_n C dX7_inPort_13 rfl ?_
    refine j_getR (j := 15) C fl_X7_34 dX7_inPort_14 (M.c) rfl (M.r14) ?_
    refine j_iload_n C dX7_inPort_17 rfl ?_
    refine j_ialdN C (M.t15) (⟨by omega, by decide⟩) dX7_inPort_18 ?_
    refine j_iconst C dX7_inPort_19 (v := 1) (by decide) ?_
    refine j_icmp_ne (tgt := 37) C dX7_inPort_20 (by decide) (fun h20 => ?_) (fun h20 => ?_)
    · skip
      refine j_iconst C dX7_inPort_37 (v := 0) (by decide) ?_
      refine j_iadd C dX7_inPort_38 ?_
      refine j_istore_n C dX7_inPort_39 (by decide) rfl ?_
      refine j_iincN C dX7_inPort_40 rfl (by decide) rfl ?_
      refine j_goto (tgt := 4) C dX7_inPort_43 (by decide) ?_
      rw [show mInPort N x k + _ = mInPort N x (k + 1) by simp [mInPort, iSum, *]]
      exact ih (by omega)
    · replace h20 := Decidable.not_not.mp h20
      refine j_aload_n C dX7_inPort_23 rfl ?_
      refine j_getR (j := 16) C fl_X7_37 dX7_inPort_24 (M.c) rfl (M.r15) ?_
      refine j_iload_n C dX7_inPort_27 rfl ?_
      refine j_ialdN C (M.t16) (⟨by omega, by decide⟩) dX7_inPort_28 ?_
      refine j_iload_n C dX7_inPort_29 rfl ?_
      refine j_icmp_ne (tgt := 37) C dX7_inPort_30 (by decide) (fun h30 => ?_) (fun h30 => ?_)
      · skip
        refine j_iconst C dX7_inPort_37 (v := 0) (by decide) ?_
        refine j_iadd C dX7_inPort_38 ?_
        refine j_istore_n C dX7_inPort_39 (by decide) rfl ?_
        refine j_iincN C dX7_inPort_40 rfl (by decide) rfl ?_
        refine j_goto (tgt := 4) C dX7_inPort_43 (by decide) ?_
        rw [show mInPort N x k + _ = mInPort N x (k + 1) by simp [mInPort, iSum, *]]
        exact ih (by omega)
      · replace h30 := Decidable.not_not.mp h30
        refine j_iconst C dX7_inPort_33 (v := 1) (by decide) ?_
        refine j_goto (tgt := 38) C dX7_inPort_34 (by decide) ?_
        refine j_iadd C dX7_inPort_38 ?_
        refine j_istore_n C dX7_inPort_39 (by decide) rfl ?_
        refine j_iincN C dX7_inPort_40 rfl (by decide) rfl ?_
        refine j_goto (tgt := 4) C dX7_inPort_43 (by decide) ?_
        rw [show mInPort N x k + _ = mInPort N x (k + 1) by simp [mInPort, iSum, *]]
        exact ih (by omega)

def mOpened (N : WNm) (n : Nat) : Int32 := iSum (fun b => if N 51 b = 5 ∨ N 51 b = 30 ∨ N 51 b = 70 then 1 else 0) n
theorem cM_opened {l : Launch} {g : WGp} (hg : GOK g) {sh : WSh} {N : WNm} (M : MSh sh) {n : Nat} (hn : N 0 51 = nI n) (hn3 : n ≤ 300)  : CT l g yX7_opened cX7_opened 3 (some .int) (RM 1 0 0) [.ref (sh.2.2 0)] sh N (QF g sh N (mOpened N  n)) := by
  refine ent hg (by decide +kernel) (Nat.le_of_ble_eq_true rfl) ?_
  intro p e s m args below meth c C hname
  refine j_iconst C dX7_opened_0 (v := 0) (by decide) ?_
  refine j_istore_n C dX7_opened_1 (by decide) rfl ?_
  refine j_iconst C dX7_opened_2 (v := 0) (by decide) ?_
  refine j_istore_n C dX7_opened_3 (by decide) rfl ?_
  refine up_ind (P := fun k => J p l e (RM 1 0 0) s m args below meth c _ g _ sh N 0 0 4 [some (.ref (sh.2.2 0)), some (.int (mOpened N k)), some (.int (nI k))] []) (n := n) ?_ 0 (Nat.zero_le _)
  intro k hk ih
  refine j_iload_n C dX7_opened_4 rfl ?_
  refine j_aload_n C dX7_opened_5 rfl ?_
  refine j_getI C fl_X7_243 dX7_opened_6 (M.c) rfl ?_
  refine j_icmp_ge (tgt := 58) C dX7_opened_9 (by decide) (fun h9 => ?_) (fun h9 => ?_)
  · skip
    refine j_iload_n C dX7_opened_58 rfl ?_
    rw [hn, n_nle (by omega) (by omega)] at h9
    obtain rfl : k = n := by omega
    exact j_iret C dX7_opened_59 rfl ⟨rfl, rfl, rfl⟩
  · replace h9 := i_nle.mp h9
    rw [hn, n_nlt (by omega) (by omega)] at h9
    refine j_iload_n C dX7_opened_12 rfl ?_
    refine j_aload_n C dX7_opened_13 rfl ?_
    refine j_getR (j := 51) C fl_X7_117 dX7_opened_14 (M.c) rfl (M.r50) ?_
    refine j_iload_n C dX7_opened_17 rfl ?_
    refine j_ialdN C (M.t51) (⟨by omega, by decide⟩) dX7_opened_18 ?_
    refine j_iconst C dX7_opened_19 (v := 5) (by decide) ?_
    refine j_icmp_eq (tgt := 45) C dX7_opened_20 (by decide) (fun h20 => ?_) (fun h20 => ?_)
    · skip
      refine j_iconst C dX7_opened_45 (v := 1) (by decide) ?_
      refine j_goto (tgt := 50) C dX7_opened_46 (by decide) ?_
      refine j_iadd C dX7_opened_50 ?_
      refine j_istore_n C dX7_opened_51 (by decide) rfl ?_
      refine j_iincN C dX7_opened_52 rfl (by decide) rfl ?_
      refine j_goto (tgt := 4) C dX7_opened_55 (by decide) ?_
      rw [show mOpened N  k + _ = mOpened N  (k + 1) by simp [mOpened, iSum, *]]
      exact ih (by omega)
    · skip
      refine j_aload_n C dX7_opened_23 rfl ?_
      refine j_getR (j := 51) C fl_X7_117 dX7_opened_24 (M.c) rfl (M.r50) ?_
      refine j_iload_n C dX7_opened_27 rfl ?_
      refine j_ialdN C (M.t51) (⟨by omega, by decide⟩) dX7_opened_28 ?_
      refine j_bipush C dX7_opened_29 (v := 30) (by decide) ?_
      refine j_icmp_eq (tgt := 45) C dX7_opened_31 (by decide) (fun h31 => ?_) (fun h31 => ?_)
      · skip
        refine j_iconst C dX7_opened_45 (v := 1) (by decide) ?_
        refine j_goto (tgt := 50) C dX7_opened_46 (by decide) ?_
        refine j_iadd C dX7_opened_50 ?_
        refine j_istore_n C dX7_opened_51 (by decide) rfl ?_
        refine j_iincN C dX7_opened_52 rfl (by decide) rfl ?_
        refine j_goto (tgt := 4) C dX7_opened_55 (by decide) ?_
        rw [show mOpened N  k + _ = mOpened N  (k + 1) by simp [mOpened, iSum, *]]
        exact ih (by omega)
      · skip
        refine j_aload_n C dX7_opened_34 rfl ?_
        refine j_getR (j := 51) C fl_X7_117 dX7_opened_35 (M.c) rfl (M.r50) ?_
        refine j_iload_n C dX7_opened_38 rfl ?_
        refine j_ialdN C (M.t51) (⟨by omega, by decide⟩) dX7_opened_39 ?_
        refine j_bipush C dX7_opened_40 (v := 70) (by decide) ?_
        refine j_icmp_ne (tgt := 49) C dX7_opened_42 (by decide) (fun h42 => ?_) (fun h42 => ?_)
        · skip
          refine j_iconst C dX7_opened_49 (v := 0) (by decide) ?_
          refine j_iadd C dX7_opened_50 ?_
          refine j_istore_n C dX7_opened_51 (by decide) rfl ?_
          refine j_iincN C dX7_opened_52 rfl (by decide) rfl ?_
          refine j_goto (tgt := 4) C dX7_opened_55 (by decide) ?_
          rw [show mOpened N  k + _ = mOpened N  (k + 1) by simp [mOpened, iSum, *]]
          exact ih (by omega)
        · replace h42 := Decidable.not_not.mp h42
          refine j_iconst C dX7_opened_45 (v := 1) (by decide) ?_
          refine j_goto (tgt := 50) C dX7_opened_46 (by decide) ?_
          refine j_iadd C dX7_opened_50 ?_
          refine j_istore_n C dX7_opened_51 (by decide) rfl ?_
          refine j_iincN C dX7_opened_52 rfl (by decide) rfl ?_
          refine j_goto (tgt := 4) C dX7_opened_55 (by decide) ?_
          rw [show mOpened N  k + _ = mOpened N  (k + 1) by simp [mOpened, iSum, *]]
          exact ih (by omega)

def mBecomes (N : WNm) (b : Nat) (w : Int32) : WNm := u2 (u2 N 34 b w) 36 b (N 0 1)

theorem cM_becomes {l : Launch} {g : WGp} (hg : GOK g) {sh : WSh} {N : WNm} (M : MSh sh) {k : Nat} (hk : k < 300) (x : Int32) : CT l g yX7_becomes cX7_becomes 3 none (RM 1 0 0) [.ref (sh.2.2 0), .int (nI k), .int x] sh N (QFv g sh (mBecomes N k x)) := by
  refine ent hg (by decide +kernel) (Nat.le_of_ble_eq_true rfl) ?_
  intro p e s m args below meth c C hname
  refine j_aload_n C dX7_becomes_0 rfl ?_
  refine j_getR (j := 34) C fl_X7_89 dX7_becomes_1 (M.c) rfl (M.r33) ?_
  refine j_iload_n C dX7_becomes_4 rfl ?_
  refine j_iload_n C dX7_becomes_5 rfl ?_
  refine j_iastN C (M.t34) (⟨hk, by decide⟩) dX7_becomes_6 ?_
  refine j_aload_n C dX7_becomes_7 rfl ?_
  refine j_getR (j := 36) C fl_X7_95 dX7_becomes_8 (M.c) rfl (M.r35) ?_
  refine j_iload_n C dX7_becomes_11 rfl ?_
  refine j_aload_n C dX7_becomes_12 rfl ?_
  refine j_getI C fl_X7_165 dX7_becomes_13 (M.c) rfl ?_
  refine j_iastN C (M.t36) (⟨hk, by decide⟩) dX7_becomes_16 ?_
  exact j_vret C dX7_becomes_17 ⟨rfl, rfl⟩

def mKnown (N : WNm) (k : Int32) (p : Nat) : Nat → Int32
  | 0 => -2
  | v + 1 => if N 40 v = k ∧ N 41 v ≤ N 0 1 - N 8 p then nI v else mKnown N k p v
theorem dec1 (x : Int32) : x + Int32.ofInt (-1) = x - 1 := by rw [Int32.sub_eq_add_neg]; rfl

theorem cM_knownAt {l : Launch} {g : WGp} (hg : GOK g) {sh : WSh} {N : WNm} (M : MSh sh) {n : Nat} (hn : N 0 38 = nI n) (hn3 : n ≤ 30) (k : Int32) {p0 : Int32} (hp : vp_in p0 12) : CT l g yX7_knownAt cX7_knownAt 4 (some .int) (RM 1 0 0) [.ref (sh.2.2 0), .int k, .int p0] sh N (QF g sh N (mKnown N k (tn p0) n)) := by
  refine ent hg (by decide +kernel) (Nat.le_of_ble_eq_true rfl) ?_
  intro p e s m args below meth c C hname
  refine j_aload_n C dX7_knownAt_0 rfl ?_
  refine j_getI C fl_X7_256 dX7_knownAt_1 (M.c) rfl ?_
  refine j_iconst C dX7_knownAt_4 (v := 1) (by decide) ?_
  refine j_isub C dX7_knownAt_5 ?_
  refine j_istore_n C dX7_knownAt_6 (by decide) rfl ?_
  rw [hn]
  suffices key : ∀ j, j ≤ n → mKnown N k (tn p0) n = mKnown N k (tn p0) j → J p l e (RM 1 0 0) s m args below meth c (MQ below (QF g sh N (mKnown N k (tn p0) n)) args s 0 0 g.A) g 4 sh N 0 0 7 [some (.ref (sh.2.2 0)), some (.int k), some (.int p0), some (.int (nI j - 1))] [] from key n (Nat.le_refl _) rfl
  intro j
  induction j with
  | zero =>
    intro _ ej
    refine j_iload_n C dX7_knownAt_7 rfl ?_
    refine j_if_lt (tgt := 49) C dX7_knownAt_8 (by decide) (fun h8 => ?_) (fun h8 => ?_)
    · skip
      refine j_bipush C dX7_knownAt_49 (v := (-2)) (by decide) ?_
      exact j_iret C dX7_knownAt_51 rfl ⟨rfl, rfl, by rw [ej]; rfl⟩
    · replace h8 := i_nlt.mp h8
      exact absurd h8 (by decide)
  | succ j ih =>
    intro hj ej
    rw [nI_pred]
    refine j_iload_n C dX7_knownAt_7 rfl ?_
    refine j_if_lt (tgt := 49) C dX7_knownAt_8 (by decide) (fun h8 => ?_) (fun h8 => ?_)
    · skip
      exact absurd h8 (by rw [i_nlt]; exact nI_pos' (by omega))
    · replace h8 := i_nlt.mp h8
      refine j_aload_n C dX7_knownAt_11 rfl ?_
      refine j_getR (j := 40) C fl_X7_102 dX7_knownAt_12 (M.c) rfl (M.r39) ?_
      refine j_iload_n C dX7_knownAt_15 rfl ?_
      refine j_ialdN C (M.t40) (⟨by omega, by decide⟩) dX7_knownAt_16 ?_
      refine j_iload_n C dX7_knownAt_17 rfl ?_
      refine j_icmp_ne (tgt := 43) C dX7_knownAt_18 (by decide) (fun h18 => ?_) (fun h18 => ?_)
      · skip
        refine j_iinc C dX7_knownAt_43 rfl (dec1 _) (by decide) rfl ?_
        refine j_goto (tgt := 7) C dX7_knownAt_46 (by decide) ?_
        exact ih (by omega) (by rw [ej, mKnown, if_neg]; intro z; first | exact h18 z.1 | exact absurd z.2 (i_nle.mpr h38))
      · replace h18 := Decidable.not_not.mp h18
        refine j_aload_n C dX7_knownAt_21 rfl ?_
        refine j_getR (j := 41) C fl_X7_105 dX7_knownAt_22 (M.c) rfl (M.r40) ?_
        refine j_iload_n C dX7_knownAt_25 rfl ?_
        refine j_ialdN C (M.t41) (⟨by omega, by decide⟩) dX7_knownAt_26 ?_
        refine j_aload_n C dX7_knownAt_27 rfl ?_
        refine j_getI C fl_X7_165 dX7_knownAt_28 (M.c) rfl ?_
        refine j_aload_n C dX7_knownAt_31 rfl ?_
        refine j_getR (j := 8) C fl_X7_16 dX7_knownAt_32 (M.c) rfl (M.r7) ?_
        refine j_iload_n C dX7_knownAt_35 rfl ?_
        refine j_iald C (M.t8) (hp) dX7_knownAt_36 ?_
        refine j_isub C dX7_knownAt_37 ?_
        refine j_icmp_gt (tgt := 43) C dX7_knownAt_38 (by decide) (fun h38 => ?_) (fun h38 => ?_)
        · skip
          refine j_iinc C dX7_knownAt_43 rfl (dec1 _) (by decide) rfl ?_
          refine j_goto (tgt := 7) C dX7_knownAt_46 (by decide) ?_
          exact ih (by omega) (by rw [ej, mKnown, if_neg]; intro z; first | exact h18 z.1 | exact absurd z.2 (i_nle.mpr h38))
        · replace h38 := i_nlt.mp h38
          refine j_iload_n C dX7_knownAt_41 rfl ?_
          exact j_iret C dX7_knownAt_42 rfl ⟨rfl, rfl, by rw [ej, mKnown, if_pos ⟨h18, h38⟩]⟩

def oI (o : Option Nat) : Int32 := match o with
  | none => -1
  | some k => nI k
/-- the first of the greatest among those that may be taken -/
def best (w : Nat → Int32) (ok : Nat → Prop) [DecidablePred ok] : Nat → Option Nat
  | 0 => none
  | b + 1 => match best w ok b with
    | none => if ok b then some b else none
    | some j => if ok b ∧ w j < w b then some b else some j
theorem best_lt (w : Nat → Int32) (ok : Nat → Prop) [DecidablePred ok] : ∀ (n j : Nat), best w ok n = some j → j < n ∧ ok j
  | 0, j, h => by cases h
  | n + 1, j, h => by
    unfold best at h
    rcases hb : best w ok n with _ | i
    · rw [hb] at h
      simp only at h
      split at h
      · cases h; exact ⟨Nat.lt_succ_self _, ‹_›⟩
      · cases h
    · rw [hb] at h
      simp only at h
      have := best_lt w ok n i hb
      split at h
      · next q => cases h; exact ⟨Nat.lt_succ_self _, q.1⟩
      · cases h; exact ⟨by omega, this.2⟩
theorem best_no {w : Nat → Int32} {ok : Nat → Prop} [DecidablePred ok] {k : Nat} (h : ¬ ok k) : best w ok (k + 1) = best w ok k := by
  rw [best]
  cases hb : best w ok k with
  | none => simp [h]
  | some j => simp [h]
theorem best_none {w : Nat → Int32} {ok : Nat → Prop} [DecidablePred ok] {k : Nat} (hb : best w ok k = none) (h : ok k) : best w ok (k + 1) = some k := by rw [best, hb]; simp [h]
theorem best_gt {w : Nat → Int32} {ok : Nat → Prop} [DecidablePred ok] {k j : Nat} (hb : best w ok k = some j) (h : ok k) (hw : w j < w k) : best w ok (k + 1) = some k := by rw [best, hb]; simp [h, hw]
theorem best_le {w : Nat → Int32} {ok : Nat → Prop} [DecidablePred ok] {k j : Nat} (hb : best w ok k = some j) (hw : ¬ w j < w k) : best w ok (k + 1) = some j := by rw [best, hb]; simp only; rw [if_neg (fun z => hw z.2)]
def mNext (N : WNm) (n : Nat) : Option Nat := best (fun b => N 54 b) (fun b => N 55 b = 0) n
def mHeavy (N : WNm) (x : Int32) (n : Nat) : Option Nat := best (fun b => N 30 b) (fun b => N 34 b = 1 ∧ N 35 b = x) n
theorem mNext_lt (N : WNm) (n j : Nat) (h : mNext N n = some j) : j < n := (best_lt _ _ n j h).1
theorem mHeavy_lt (N : WNm) (x : Int32) (n j : Nat) (h : mHeavy N x n = some j) : j < n := (best_lt _ _ n j h).1

theorem cM_nextBale {l : Launch} {g : WGp} (hg : GOK g) {sh : WSh} {N : WNm} (M : MSh sh) {n : Nat} (hn : N 0 23 = nI n) (hn3 : n ≤ 300)  : CT l g yX7_nextBale cX7_nextBale 3 (some .int) (RM 1 0 0) [.ref (sh.2.2 0)] sh N (QF g sh N (oI (mNext N n))) := by
  refine ent hg (by decide +kernel) (Nat.le_of_ble_eq_true rfl) ?_
  intro p e s m args below meth c C hname
  refine j_iconst C dX7_nextBale_0 (v := (-1)) (by decide) ?_
  refine j_istore_n C dX7_nextBale_1 (by decide) rfl ?_
  refine j_iconst C dX7_nextBale_2 (v := 0) (by decide) ?_
  refine j_istore_n C dX7_nextBale_3 (by decide) rfl ?_
  refine up_ind (P := fun k => J p l e (RM 1 0 0) s m args below meth c (MQ below (QF g sh N (oI (mNext N n))) args s 0 0 g.A) g _ sh N 0 0 4 [some (.ref (sh.2.2 0)), some (.int (oI (mNext N k))), some (.int (nI k))] []) (n := n) ?_ 0 (Nat.zero_le _)
  intro k hk ih
  refine j_iload_n C dX7_nextBale_4 rfl ?_
  refine j_aload_n C dX7_nextBale_5 rfl ?_
  refine j_getI C fl_X7_143 dX7_nextBale_6 (M.c) rfl ?_
  refine j_icmp_ge (tgt := 48) C dX7_nextBale_9 (by decide) (fun h9 => ?_) (fun h9 => ?_)
  · skip
    rw [hn, n_nle (by omega) (by omega)] at h9
    obtain rfl : k = n := by omega
    refine j_iload_n C dX7_nextBale_48 rfl ?_
    exact j_iret C dX7_nextBale_49 rfl ⟨rfl, rfl, rfl⟩
  · replace h9 := i_nle.mp h9
    rw [hn, n_nlt (by omega) (by omega)] at h9
    refine j_aload_n C dX7_nextBale_12 rfl ?_
    refine j_getR (j := 55) C fl_X7_126 dX7_nextBale_13 (M.c) rfl (M.r54) ?_
    refine j_iload_n C dX7_nextBale_16 rfl ?_
    refine j_zaldN C (M.t55) (⟨by omega, by decide⟩) dX7_nextBale_17 ?_
    refine j_if_ne (tgt := 42) C dX7_nextBale_18 (by decide) (fun h18 => ?_) (fun h18 => ?_)
    · skip
      refine j_iincN C dX7_nextBale_42 rfl (by decide) rfl ?_
      refine j_goto (tgt := 4) C dX7_nextBale_45 (by decide) ?_
      first
        | (rw [show mNext N (k + 1) = _ from best_no h18] at ih; exact ih (by omega))
        | (rw [show mNext N (k + 1) = _ from best_none hm h18] at ih; exact ih (by omega))
        | (rw [show mNext N (k + 1) = _ from best_gt hm h18 h37] at ih; exact ih (by omega))
        | (rw [show mNext N (k + 1) = _ from best_le hm (i_nlt.mpr h37)] at ih; exact ih (by omega))
        | exact absurd h22 (nI_pos (by omega))
    · replace h18 := Decidable.not_not.mp h18
      rcases hm : mNext N k with _ | j
      · skip
        refine j_iload_n C dX7_nextBale_21 rfl ?_
        refine j_if_lt (tgt := 40) C dX7_nextBale_22 (by decide) (fun h22 => ?_) (fun h22 => ?_)
        · skip
          refine j_iload_n C dX7_nextBale_40 rfl ?_
          refine j_istore_n C dX7_nextBale_41 (by decide) rfl ?_
          refine j_iincN C dX7_nextBale_42 rfl (by decide) rfl ?_
          refine j_goto (tgt := 4) C dX7_nextBale_45 (by decide) ?_
          first
            | (rw [show mNext N (k + 1) = _ from best_no h18] at ih; exact ih (by omega))
            | (rw [show mNext N (k + 1) = _ from best_none hm h18] at ih; exact ih (by omega))
            | (rw [show mNext N (k + 1) = _ from best_gt hm h18 h37] at ih; exact ih (by omega))
            | (rw [show mNext N (k + 1) = _ from best_le hm (i_nlt.mpr h37)] at ih; exact ih (by omega))
            | exact absurd h22 (nI_pos (by omega))
        · replace h22 := i_nlt.mp h22
          exact absurd h22 (by decide)
      · have hj := mNext_lt N k j hm
        rw [show oI (some j) = nI j from rfl]
        refine j_iload_n C dX7_nextBale_21 rfl ?_
        refine j_if_lt (tgt := 40) C dX7_nextBale_22 (by decide) (fun h22 => ?_) (fun h22 => ?_)
        · skip
          refine j_iload_n C dX7_nextBale_40 rfl ?_
          refine j_istore_n C dX7_nextBale_41 (by decide) rfl ?_
          refine j_iincN C dX7_nextBale_42 rfl (by decide) rfl ?_
          refine j_goto (tgt := 4) C dX7_nextBale_45 (by decide) ?_
          first
            | (rw [show mNext N (k + 1) = _ from best_no h18] at ih; exact ih (by omega))
            | (rw [show mNext N (k + 1) = _ from best_none hm h18] at ih; exact ih (by omega))
            | (rw [show mNext N (k + 1) = _ from best_gt hm h18 h37] at ih; exact ih (by omega))
            | (rw [show mNext N (k + 1) = _ from best_le hm (i_nlt.mpr h37)] at ih; exact ih (by omega))
            | exact absurd h22 (nI_pos (by omega))
        · replace h22 := i_nlt.mp h22
          refine j_aload_n C dX7_nextBale_25 rfl ?_
          refine j_getR (j := 54) C fl_X7_123 dX7_nextBale_26 (M.c) rfl (M.r53) ?_
          refine j_iload_n C dX7_nextBale_29 rfl ?_
          refine j_ialdN C (M.t54) (⟨by omega, by decide⟩) dX7_nextBale_30 ?_
          refine j_aload_n C dX7_nextBale_31 rfl ?_
          refine j_getR (j := 54) C fl_X7_123 dX7_nextBale_32 (M.c) rfl (M.r53) ?_
          refine j_iload_n C dX7_nextBale_35 rfl ?_
          refine j_ialdN C (M.t54) (⟨by omega, by decide⟩) dX7_nextBale_36 ?_
          refine j_icmp_le (tgt := 42) C dX7_nextBale_37 (by decide) (fun h37 => ?_) (fun h37 => ?_)
          · skip
            refine j_iincN C dX7_nextBale_42 rfl (by decide) rfl ?_
            refine j_goto (tgt := 4) C dX7_nextBale_45 (by decide) ?_
            first
              | (rw [show mNext N (k + 1) = _ from best_no h18] at ih; exact ih (by omega))
              | (rw [show mNext N (k + 1) = _ from best_none hm h18] at ih; exact ih (by omega))
              | (rw [show mNext N (k + 1) = _ from best_gt hm h18 h37] at ih; exact ih (by omega))
              | (rw [show mNext N (k + 1) = _ from best_le hm (i_nlt.mpr h37)] at ih; exact ih (by omega))
              | exact absurd h22 (nI_pos (by omega))
          · replace h37 := i_nle.mp h37
            refine j_iload_n C dX7_nextBale_40 rfl ?_
            refine j_istore_n C dX7_nextBale_41 (by decide) rfl ?_
            refine j_iincN C dX7_nextBale_42 rfl (by decide) rfl ?_
            refine j_goto (tgt := 4) C dX7_nextBale_45 (by decide) ?_
            first
              | (rw [show mNext N (k + 1) = _ from best_no h18] at ih; exact ih (by omega))
              | (rw [show mNext N (k + 1) = _ from best_none hm h18] at ih; exact ih (by omega))
              | (rw [show mNext N (k + 1) = _ from best_gt hm h18 h37] at ih; exact ih (by omega))
              | (rw [show mNext N (k + 1) = _ from best_le hm (i_nlt.mpr h37)] at ih; exact ih (by omega))
              | exact absurd h22 (nI_pos (by omega))

theorem cM_heaviest {l : Launch} {g : WGp} (hg : GOK g) {sh : WSh} {N : WNm} (M : MSh sh) {n : Nat} (hn : N 0 23 = nI n) (hn3 : n ≤ 300) (x : Int32) : CT l g yX7_heaviest cX7_heaviest 4 (some .int) (RM 2 0 0) [.ref (sh.2.2 0), .int x] sh N (QF g sh N (oI (mHeavy N x n))) := by
  refine ent hg (by decide +kernel) (Nat.le_of_ble_eq_true rfl) ?_
  intro p e s m args below meth c C hname
  refine j_iconst C dX7_heaviest_0 (v := (-1)) (by decide) ?_
  refine j_istore_n C dX7_heaviest_1 (by decide) rfl ?_
  refine j_iconst C dX7_heaviest_2 (v := 0) (by decide) ?_
  refine j_istore_n C dX7_heaviest_3 (by decide) rfl ?_
  refine up_ind (P := fun k => J p l e (RM 2 0 0) s m args below meth c (MQ below (QF g sh N (oI (mHeavy N x n))) args s 0 0 g.A) g _ sh N 0 0 4 [some (.ref (sh.2.2 0)), some (.int x), some (.int (oI (mHeavy N x k))), some (.int (nI k))] []) (n := n) ?_ 0 (Nat.zero_le _)
  intro k hk ih
  refine j_iload_n C dX7_heaviest_4 rfl ?_
  refine j_aload_n C dX7_heaviest_5 rfl ?_
  refine j_getI C fl_X7_143 dX7_heaviest_6 (M.c) rfl ?_
  refine j_icmp_ge (tgt := 48) C dX7_heaviest_9 (by decide) (fun h9 => ?_) (fun h9 => ?_)
  · skip
    rw [hn, n_nle (by omega) (by omega)] at h9
    obtain rfl : k = n := by omega
    refine j_iload_n C dX7_heaviest_48 rfl ?_
    exact j_iret C dX7_heaviest_49 rfl ⟨rfl, rfl, rfl⟩
  · replace h9 := i_nle.mp h9
    rw [hn, n_nlt (by omega) (by omega)] at h9
    refine j_aload_n C dX7_heaviest_12 rfl ?_
    refine j_iload_n C dX7_heaviest_13 rfl ?_
    refine j_iload_n C dX7_heaviest_14 rfl ?_
    refine j_callV2I C ml_X7_171 dX7_heaviest_15 (cM_isOn hg M (k := k) (by omega) x) ⟨by rw [M.c]; decide, by rw [M.c]; rfl⟩ ⟨Nat.le_of_ble_eq_true rfl, Nat.le_of_ble_eq_true rfl⟩ (Nat.le_of_ble_eq_true rfl) ⟨rfl, rfl⟩ ⟨Nat.zero_le _, Nat.zero_le _⟩ ?_
    refine j_if_eq (tgt := 42) C dX7_heaviest_18 (by decide) (fun h18 => ?_) (fun h18 => ?_)
    · replace h18 := b2_eq0.mp h18
      refine j_iincN C dX7_heaviest_42 rfl (by decide) rfl ?_
      refine j_goto (tgt := 4) C dX7_heaviest_45 (by decide) ?_
      first
        | (rw [show mHeavy N x (k + 1) = _ from best_no h18] at ih; exact ih (by omega))
        | (rw [show mHeavy N x (k + 1) = _ from best_none hm h18] at ih; exact ih (by omega))
        | (rw [show mHeavy N x (k + 1) = _ from best_gt hm h18 h37] at ih; exact ih (by omega))
        | (rw [show mHeavy N x (k + 1) = _ from best_le hm (i_nlt.mpr h37)] at ih; exact ih (by omega))
        | exact absurd h22 (nI_pos (by omega))
    · replace h18 := b2_ne0.mp h18
      rcases hm : mHeavy N x k with _ | j
      · skip
        refine j_iload_n C dX7_heaviest_21 rfl ?_
        refine j_if_lt (tgt := 40) C dX7_heaviest_22 (by decide) (fun h22 => ?_) (fun h22 => ?_)
        · skip
          refine j_iload_n C dX7_heaviest_40 rfl ?_
          refine j_istore_n C dX7_heaviest_41 (by decide) rfl ?_
          refine j_iincN C dX7_heaviest_42 rfl (by decide) rfl ?_
          refine j_goto (tgt := 4) C dX7_heaviest_45 (by decide) ?_
          first
            | (rw [show mHeavy N x (k + 1) = _ from best_no h18] at ih; exact ih (by omega))
            | (rw [show mHeavy N x (k + 1) = _ from best_none hm h18] at ih; exact ih (by omega))
            | (rw [show mHeavy N x (k + 1) = _ from best_gt hm h18 h37] at ih; exact ih (by omega))
            | (rw [show mHeavy N x (k + 1) = _ from best_le hm (i_nlt.mpr h37)] at ih; exact ih (by omega))
            | exact absurd h22 (nI_pos (by omega))
        · replace h22 := i_nlt.mp h22
          exact absurd h22 (by decide)
      · have hj := mHeavy_lt N x k j hm
        rw [show oI (some j) = nI j from rfl]
        refine j_iload_n C dX7_heaviest_21 rfl ?_
        refine j_if_lt (tgt := 40) C dX7_heaviest_22 (by decide) (fun h22 => ?_) (fun h22 => ?_)
        · skip
          refine j_iload_n C dX7_heaviest_40 rfl ?_
          refine j_istore_n C dX7_heaviest_41 (by decide) rfl ?_
          refine j_iincN C dX7_heaviest_42 rfl (by decide) rfl ?_
          refine j_goto (tgt := 4) C dX7_heaviest_45 (by decide) ?_
          first
            | (rw [show mHeavy N x (k + 1) = _ from best_no h18] at ih; exact ih (by omega))
            | (rw [show mHeavy N x (k + 1) = _ from best_none hm h18] at ih; exact ih (by omega))
            | (rw [show mHeavy N x (k + 1) = _ from best_gt hm h18 h37] at ih; exact ih (by omega))
            | (rw [show mHeavy N x (k + 1) = _ from best_le hm (i_nlt.mpr h37)] at ih; exact ih (by omega))
            | exact absurd h22 (nI_pos (by omega))
        · replace h22 := i_nlt.mp h22
          refine j_aload_n C dX7_heaviest_25 rfl ?_
          refine j_getR (j := 30) C fl_X7_77 dX7_heaviest_26 (M.c) rfl (M.r29) ?_
          refine j_iload_n C dX7_heaviest_29 rfl ?_
          refine j_ialdN C (M.t30) (⟨by omega, by decide⟩) dX7_heaviest_30 ?_
          refine j_aload_n C dX7_heaviest_31 rfl ?_
          refine j_getR (j := 30) C fl_X7_77 dX7_heaviest_32 (M.c) rfl (M.r29) ?_
          refine j_iload_n C dX7_heaviest_35 rfl ?_
          refine j_ialdN C (M.t30) (⟨by omega, by decide⟩) dX7_heaviest_36 ?_
          refine j_icmp_le (tgt := 42) C dX7_heaviest_37 (by decide) (fun h37 => ?_) (fun h37 => ?_)
          · skip
            refine j_iincN C dX7_heaviest_42 rfl (by decide) rfl ?_
            refine j_goto (tgt := 4) C dX7_heaviest_45 (by decide) ?_
            first
              | (rw [show mHeavy N x (k + 1) = _ from best_no h18] at ih; exact ih (by omega))
              | (rw [show mHeavy N x (k + 1) = _ from best_none hm h18] at ih; exact ih (by omega))
              | (rw [show mHeavy N x (k + 1) = _ from best_gt hm h18 h37] at ih; exact ih (by omega))
              | (rw [show mHeavy N x (k + 1) = _ from best_le hm (i_nlt.mpr h37)] at ih; exact ih (by omega))
              | exact absurd h22 (nI_pos (by omega))
          · replace h37 := i_nle.mp h37
            refine j_iload_n C dX7_heaviest_40 rfl ?_
            refine j_istore_n C dX7_heaviest_41 (by decide) rfl ?_
            refine j_iincN C dX7_heaviest_42 rfl (by decide) rfl ?_
            refine j_goto (tgt := 4) C dX7_heaviest_45 (by decide) ?_
            first
              | (rw [show mHeavy N x (k + 1) = _ from best_no h18] at ih; exact ih (by omega))
              | (rw [show mHeavy N x (k + 1) = _ from best_none hm h18] at ih; exact ih (by omega))
              | (rw [show mHeavy N x (k + 1) = _ from best_gt hm h18 h37] at ih; exact ih (by omega))
              | (rw [show mHeavy N x (k + 1) = _ from best_le hm (i_nlt.mpr h37)] at ih; exact ih (by omega))
              | exact absurd h22 (nI_pos (by omega))
end

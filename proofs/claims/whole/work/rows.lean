section
-- ===== PART A: goes FIRST, ahead of the names: the tables' words, and 'selects' of the private methods out of them =====
/-- a private method of a class that the tables say can be made, by its rows of tables_1 -/
def lw_okq (q : MethodName × Nat) : Prop := (q.1.cls ≠ "java/lang/invoke/MethodHandle" ∧ q.1.cls ≠ "java/lang/invoke/VarHandle") ∧ Cond.instantiable q.1.cls q.2 ∈ tables_1 ∧ Cond.privateMethod q.1 ∈ tables_1 ∧ Cond.instanceMethod q.1 ∈ tables_1
theorem lw_p0 : lw_okq (⟨"LeastKnown$Reader", "findTokens", "(LLeastKnown$Text;)V"⟩, 6) := ⟨⟨by decide +kernel, by decide +kernel⟩, List.mem_of_getElem? (i := 40) (by decide +kernel), List.mem_of_getElem? (i := 257) (by decide +kernel), List.mem_of_getElem? (i := 258) (by decide +kernel)⟩
theorem lw_p1 : lw_okq (⟨"LeastKnown$Reader", "readItem", "(LLeastKnown$Town;)V"⟩, 6) := ⟨⟨by decide +kernel, by decide +kernel⟩, List.mem_of_getElem? (i := 40) (by decide +kernel), List.mem_of_getElem? (i := 342) (by decide +kernel), List.mem_of_getElem? (i := 343) (by decide +kernel)⟩
theorem lw_p2 : lw_okq (⟨"LeastKnown$Reader", "mayBegin", "(LLeastKnown$Town;I)Z"⟩, 6) := ⟨⟨by decide +kernel, by decide +kernel⟩, List.mem_of_getElem? (i := 40) (by decide +kernel), List.mem_of_getElem? (i := 346) (by decide +kernel), List.mem_of_getElem? (i := 347) (by decide +kernel)⟩
theorem lw_p3 : lw_okq (⟨"LeastKnown$Reader", "take", "(Z)Z"⟩, 6) := ⟨⟨by decide +kernel, by decide +kernel⟩, List.mem_of_getElem? (i := 40) (by decide +kernel), List.mem_of_getElem? (i := 350) (by decide +kernel), List.mem_of_getElem? (i := 351) (by decide +kernel)⟩
theorem lw_p4 : lw_okq (⟨"LeastKnown$Reader", "readForgets", "(LLeastKnown$Town;)Z"⟩, 6) := ⟨⟨by decide +kernel, by decide +kernel⟩, List.mem_of_getElem? (i := 40) (by decide +kernel), List.mem_of_getElem? (i := 354) (by decide +kernel), List.mem_of_getElem? (i := 355) (by decide +kernel)⟩
theorem lw_p5 : lw_okq (⟨"LeastKnown$Reader", "number", "()I"⟩, 6) := ⟨⟨by decide +kernel, by decide +kernel⟩, List.mem_of_getElem? (i := 40) (by decide +kernel), List.mem_of_getElem? (i := 358) (by decide +kernel), List.mem_of_getElem? (i := 359) (by decide +kernel)⟩
theorem lw_p6 : lw_okq (⟨"LeastKnown$Reader", "readLaw", "(LLeastKnown$Town;)Z"⟩, 6) := ⟨⟨by decide +kernel, by decide +kernel⟩, List.mem_of_getElem? (i := 40) (by decide +kernel), List.mem_of_getElem? (i := 362) (by decide +kernel), List.mem_of_getElem? (i := 363) (by decide +kernel)⟩
theorem lw_p7 : lw_okq (⟨"LeastKnown$Reader", "readPair", "(LLeastKnown$Town;I)Z"⟩, 6) := ⟨⟨by decide +kernel, by decide +kernel⟩, List.mem_of_getElem? (i := 40) (by decide +kernel), List.mem_of_getElem? (i := 366) (by decide +kernel), List.mem_of_getElem? (i := 367) (by decide +kernel)⟩
theorem lw_p8 : lw_okq (⟨"LeastKnown", "isPair", "(II)Z"⟩, 9) := ⟨⟨by decide +kernel, by decide +kernel⟩, List.mem_of_getElem? (i := 16) (by decide +kernel), List.mem_of_getElem? (i := 381) (by decide +kernel), List.mem_of_getElem? (i := 382) (by decide +kernel)⟩
theorem lw_p9 : lw_okq (⟨"LeastKnown", "isPerson", "(I)Z"⟩, 9) := ⟨⟨by decide +kernel, by decide +kernel⟩, List.mem_of_getElem? (i := 16) (by decide +kernel), List.mem_of_getElem? (i := 385) (by decide +kernel), List.mem_of_getElem? (i := 386) (by decide +kernel)⟩
theorem lw_p10 : lw_okq (⟨"LeastKnown$Town", "firstWith", "([II)I"⟩, 6) := ⟨⟨by decide +kernel, by decide +kernel⟩, List.mem_of_getElem? (i := 139) (by decide +kernel), List.mem_of_getElem? (i := 435) (by decide +kernel), List.mem_of_getElem? (i := 436) (by decide +kernel)⟩
theorem lw_p11 : lw_okq (⟨"LeastKnown$Now", "crown", "(II)V"⟩, 7) := ⟨⟨by decide +kernel, by decide +kernel⟩, List.mem_of_getElem? (i := 65) (by decide +kernel), List.mem_of_getElem? (i := 469) (by decide +kernel), List.mem_of_getElem? (i := 470) (by decide +kernel)⟩
theorem lw_p12 : lw_okq (⟨"LeastKnown$Now", "forget", "(LLeastKnown$Town;)V"⟩, 7) := ⟨⟨by decide +kernel, by decide +kernel⟩, List.mem_of_getElem? (i := 65) (by decide +kernel), List.mem_of_getElem? (i := 473) (by decide +kernel), List.mem_of_getElem? (i := 474) (by decide +kernel)⟩
theorem lw_p13 : lw_okq (⟨"LeastKnown$Foretelling", "isRing", "(I)Z"⟩, 4) := ⟨⟨by decide +kernel, by decide +kernel⟩, List.mem_of_getElem? (i := 116) (by decide +kernel), List.mem_of_getElem? (i := 515) (by decide +kernel), List.mem_of_getElem? (i := 516) (by decide +kernel)⟩
theorem lw_p14 : lw_okq (⟨"LeastKnown$Foretelling", "bringsAbout", "(LLeastKnown$Town;IZII)Z"⟩, 4) := ⟨⟨by decide +kernel, by decide +kernel⟩, List.mem_of_getElem? (i := 116) (by decide +kernel), List.mem_of_getElem? (i := 531) (by decide +kernel), List.mem_of_getElem? (i := 532) (by decide +kernel)⟩
theorem lw_p15 : lw_okq (⟨"LeastKnown$Foretelling", "noteInFront", "(I)V"⟩, 4) := ⟨⟨by decide +kernel, by decide +kernel⟩, List.mem_of_getElem? (i := 116) (by decide +kernel), List.mem_of_getElem? (i := 537) (by decide +kernel), List.mem_of_getElem? (i := 538) (by decide +kernel)⟩
def lw_privs_1 : List (MethodName × Nat) := [(⟨"LeastKnown$Reader", "findTokens", "(LLeastKnown$Text;)V"⟩, 6), (⟨"LeastKnown$Reader", "readItem", "(LLeastKnown$Town;)V"⟩, 6), (⟨"LeastKnown$Reader", "mayBegin", "(LLeastKnown$Town;I)Z"⟩, 6), (⟨"LeastKnown$Reader", "take", "(Z)Z"⟩, 6), (⟨"LeastKnown$Reader", "readForgets", "(LLeastKnown$Town;)Z"⟩, 6), (⟨"LeastKnown$Reader", "number", "()I"⟩, 6), (⟨"LeastKnown$Reader", "readLaw", "(LLeastKnown$Town;)Z"⟩, 6), (⟨"LeastKnown$Reader", "readPair", "(LLeastKnown$Town;I)Z"⟩, 6), (⟨"LeastKnown", "isPair", "(II)Z"⟩, 9), (⟨"LeastKnown", "isPerson", "(I)Z"⟩, 9), (⟨"LeastKnown$Town", "firstWith", "([II)I"⟩, 6), (⟨"LeastKnown$Now", "crown", "(II)V"⟩, 7), (⟨"LeastKnown$Now", "forget", "(LLeastKnown$Town;)V"⟩, 7), (⟨"LeastKnown$Foretelling", "isRing", "(I)Z"⟩, 4), (⟨"LeastKnown$Foretelling", "bringsAbout", "(LLeastKnown$Town;IZII)Z"⟩, 4), (⟨"LeastKnown$Foretelling", "noteInFront", "(I)V"⟩, 4)]
theorem lw_r1 : ∀ q ∈ lw_privs_1, lw_okq q := List.forall_mem_cons.mpr ⟨lw_p0, List.forall_mem_cons.mpr ⟨lw_p1, List.forall_mem_cons.mpr ⟨lw_p2, List.forall_mem_cons.mpr ⟨lw_p3, List.forall_mem_cons.mpr ⟨lw_p4, List.forall_mem_cons.mpr ⟨lw_p5, List.forall_mem_cons.mpr ⟨lw_p6, List.forall_mem_cons.mpr ⟨lw_p7, List.forall_mem_cons.mpr ⟨lw_p8, List.forall_mem_cons.mpr ⟨lw_p9, List.forall_mem_cons.mpr ⟨lw_p10, List.forall_mem_cons.mpr ⟨lw_p11, List.forall_mem_cons.mpr ⟨lw_p12, List.forall_mem_cons.mpr ⟨lw_p13, List.forall_mem_cons.mpr ⟨lw_p14, List.forall_mem_cons.mpr ⟨lw_p15, fun _ h => absurd h List.not_mem_nil⟩⟩⟩⟩⟩⟩⟩⟩⟩⟩⟩⟩⟩⟩⟩⟩
theorem lw_p16 : lw_okq (⟨"LeastKnown$Foretelling", "outcome", "(LLeastKnown$Town;IZII)I"⟩, 4) := ⟨⟨by decide +kernel, by decide +kernel⟩, List.mem_of_getElem? (i := 116) (by decide +kernel), List.mem_of_getElem? (i := 550) (by decide +kernel), List.mem_of_getElem? (i := 551) (by decide +kernel)⟩
theorem lw_p17 : lw_okq (⟨"LeastKnown", "asPerson", "(I)I"⟩, 9) := ⟨⟨by decide +kernel, by decide +kernel⟩, List.mem_of_getElem? (i := 16) (by decide +kernel), List.mem_of_getElem? (i := 580) (by decide +kernel), List.mem_of_getElem? (i := 581) (by decide +kernel)⟩
theorem lw_p18 : lw_okq (⟨"LeastKnown", "asShy", "(I)I"⟩, 9) := ⟨⟨by decide +kernel, by decide +kernel⟩, List.mem_of_getElem? (i := 16) (by decide +kernel), List.mem_of_getElem? (i := 584) (by decide +kernel), List.mem_of_getElem? (i := 585) (by decide +kernel)⟩
theorem lw_p19 : lw_okq (⟨"LeastKnown", "asKnown", "(I)I"⟩, 9) := ⟨⟨by decide +kernel, by decide +kernel⟩, List.mem_of_getElem? (i := 16) (by decide +kernel), List.mem_of_getElem? (i := 589) (by decide +kernel), List.mem_of_getElem? (i := 590) (by decide +kernel)⟩
theorem lw_p20 : lw_okq (⟨"LeastKnown", "asMayor", "(I)I"⟩, 9) := ⟨⟨by decide +kernel, by decide +kernel⟩, List.mem_of_getElem? (i := 16) (by decide +kernel), List.mem_of_getElem? (i := 594) (by decide +kernel), List.mem_of_getElem? (i := 595) (by decide +kernel)⟩
theorem lw_p21 : lw_okq (⟨"LeastKnown", "asHermit", "(I)I"⟩, 9) := ⟨⟨by decide +kernel, by decide +kernel⟩, List.mem_of_getElem? (i := 16) (by decide +kernel), List.mem_of_getElem? (i := 599) (by decide +kernel), List.mem_of_getElem? (i := 600) (by decide +kernel)⟩
theorem lw_p22 : lw_okq (⟨"LeastKnown", "asStranger", "(I)I"⟩, 9) := ⟨⟨by decide +kernel, by decide +kernel⟩, List.mem_of_getElem? (i := 16) (by decide +kernel), List.mem_of_getElem? (i := 604) (by decide +kernel), List.mem_of_getElem? (i := 605) (by decide +kernel)⟩
theorem lw_p23 : lw_okq (⟨"LeastKnown", "imageOf", "(I)LLeastKnown$Image;"⟩, 9) := ⟨⟨by decide +kernel, by decide +kernel⟩, List.mem_of_getElem? (i := 16) (by decide +kernel), List.mem_of_getElem? (i := 613) (by decide +kernel), List.mem_of_getElem? (i := 614) (by decide +kernel)⟩
theorem lw_p24 : lw_okq (⟨"LeastKnownModel", "begins", "()V"⟩, 29) := ⟨⟨by decide +kernel, by decide +kernel⟩, List.mem_of_getElem? (i := 634) (by decide +kernel), List.mem_of_getElem? (i := 640) (by decide +kernel), List.mem_of_getElem? (i := 641) (by decide +kernel)⟩
theorem lw_p25 : lw_okq (⟨"LeastKnownModel", "advances", "()V"⟩, 29) := ⟨⟨by decide +kernel, by decide +kernel⟩, List.mem_of_getElem? (i := 634) (by decide +kernel), List.mem_of_getElem? (i := 749) (by decide +kernel), List.mem_of_getElem? (i := 750) (by decide +kernel)⟩
theorem lw_p26 : lw_okq (⟨"LeastKnownModel", "byteAt", "(I)I"⟩, 29) := ⟨⟨by decide +kernel, by decide +kernel⟩, List.mem_of_getElem? (i := 634) (by decide +kernel), List.mem_of_getElem? (i := 753) (by decide +kernel), List.mem_of_getElem? (i := 754) (by decide +kernel)⟩
theorem lw_p27 : lw_okq (⟨"LeastKnownModel", "isWell", "()Z"⟩, 29) := ⟨⟨by decide +kernel, by decide +kernel⟩, List.mem_of_getElem? (i := 634) (by decide +kernel), List.mem_of_getElem? (i := 767) (by decide +kernel), List.mem_of_getElem? (i := 768) (by decide +kernel)⟩
theorem lw_p28 : lw_okq (⟨"LeastKnownModel", "takes", "(Z)I"⟩, 29) := ⟨⟨by decide +kernel, by decide +kernel⟩, List.mem_of_getElem? (i := 634) (by decide +kernel), List.mem_of_getElem? (i := 771) (by decide +kernel), List.mem_of_getElem? (i := 772) (by decide +kernel)⟩
theorem lw_p29 : lw_okq (⟨"LeastKnownModel", "readsItem", "(I)V"⟩, 29) := ⟨⟨by decide +kernel, by decide +kernel⟩, List.mem_of_getElem? (i := 634) (by decide +kernel), List.mem_of_getElem? (i := 775) (by decide +kernel), List.mem_of_getElem? (i := 776) (by decide +kernel)⟩
theorem lw_p30 : lw_okq (⟨"LeastKnownModel", "number", "(II)I"⟩, 29) := ⟨⟨by decide +kernel, by decide +kernel⟩, List.mem_of_getElem? (i := 634) (by decide +kernel), List.mem_of_getElem? (i := 779) (by decide +kernel), List.mem_of_getElem? (i := 780) (by decide +kernel)⟩
theorem lw_p31 : lw_okq (⟨"LeastKnownModel", "readsTwo", "(I)V"⟩, 29) := ⟨⟨by decide +kernel, by decide +kernel⟩, List.mem_of_getElem? (i := 634) (by decide +kernel), List.mem_of_getElem? (i := 783) (by decide +kernel), List.mem_of_getElem? (i := 784) (by decide +kernel)⟩
def lw_privs_2 : List (MethodName × Nat) := [(⟨"LeastKnown$Foretelling", "outcome", "(LLeastKnown$Town;IZII)I"⟩, 4), (⟨"LeastKnown", "asPerson", "(I)I"⟩, 9), (⟨"LeastKnown", "asShy", "(I)I"⟩, 9), (⟨"LeastKnown", "asKnown", "(I)I"⟩, 9), (⟨"LeastKnown", "asMayor", "(I)I"⟩, 9), (⟨"LeastKnown", "asHermit", "(I)I"⟩, 9), (⟨"LeastKnown", "asStranger", "(I)I"⟩, 9), (⟨"LeastKnown", "imageOf", "(I)LLeastKnown$Image;"⟩, 9), (⟨"LeastKnownModel", "begins", "()V"⟩, 29), (⟨"LeastKnownModel", "advances", "()V"⟩, 29), (⟨"LeastKnownModel", "byteAt", "(I)I"⟩, 29), (⟨"LeastKnownModel", "isWell", "()Z"⟩, 29), (⟨"LeastKnownModel", "takes", "(Z)I"⟩, 29), (⟨"LeastKnownModel", "readsItem", "(I)V"⟩, 29), (⟨"LeastKnownModel", "number", "(II)I"⟩, 29), (⟨"LeastKnownModel", "readsTwo", "(I)V"⟩, 29)]
theorem lw_r2 : ∀ q ∈ lw_privs_2, lw_okq q := List.forall_mem_cons.mpr ⟨lw_p16, List.forall_mem_cons.mpr ⟨lw_p17, List.forall_mem_cons.mpr ⟨lw_p18, List.forall_mem_cons.mpr ⟨lw_p19, List.forall_mem_cons.mpr ⟨lw_p20, List.forall_mem_cons.mpr ⟨lw_p21, List.forall_mem_cons.mpr ⟨lw_p22, List.forall_mem_cons.mpr ⟨lw_p23, List.forall_mem_cons.mpr ⟨lw_p24, List.forall_mem_cons.mpr ⟨lw_p25, List.forall_mem_cons.mpr ⟨lw_p26, List.forall_mem_cons.mpr ⟨lw_p27, List.forall_mem_cons.mpr ⟨lw_p28, List.forall_mem_cons.mpr ⟨lw_p29, List.forall_mem_cons.mpr ⟨lw_p30, List.forall_mem_cons.mpr ⟨lw_p31, fun _ h => absurd h List.not_mem_nil⟩⟩⟩⟩⟩⟩⟩⟩⟩⟩⟩⟩⟩⟩⟩⟩
theorem lw_p32 : lw_okq (⟨"LeastKnownModel", "areTwo", "(II)Z"⟩, 29) := ⟨⟨by decide +kernel, by decide +kernel⟩, List.mem_of_getElem? (i := 634) (by decide +kernel), List.mem_of_getElem? (i := 791) (by decide +kernel), List.mem_of_getElem? (i := 792) (by decide +kernel)⟩
theorem lw_p33 : lw_okq (⟨"LeastKnownModel", "isPerson", "(I)Z"⟩, 29) := ⟨⟨by decide +kernel, by decide +kernel⟩, List.mem_of_getElem? (i := 634) (by decide +kernel), List.mem_of_getElem? (i := 795) (by decide +kernel), List.mem_of_getElem? (i := 796) (by decide +kernel)⟩
theorem lw_p34 : lw_okq (⟨"LeastKnownModel", "isKnown", "(II)Z"⟩, 29) := ⟨⟨by decide +kernel, by decide +kernel⟩, List.mem_of_getElem? (i := 634) (by decide +kernel), List.mem_of_getElem? (i := 799) (by decide +kernel), List.mem_of_getElem? (i := 800) (by decide +kernel)⟩
theorem lw_p35 : lw_okq (⟨"LeastKnownModel", "countOf", "(I)I"⟩, 29) := ⟨⟨by decide +kernel, by decide +kernel⟩, List.mem_of_getElem? (i := 634) (by decide +kernel), List.mem_of_getElem? (i := 812) (by decide +kernel), List.mem_of_getElem? (i := 813) (by decide +kernel)⟩
theorem lw_p36 : lw_okq (⟨"LeastKnownModel", "chosenNow", "()I"⟩, 29) := ⟨⟨by decide +kernel, by decide +kernel⟩, List.mem_of_getElem? (i := 634) (by decide +kernel), List.mem_of_getElem? (i := 831) (by decide +kernel), List.mem_of_getElem? (i := 832) (by decide +kernel)⟩
theorem lw_p37 : lw_okq (⟨"LeastKnownModel", "leastOf", "(I)I"⟩, 29) := ⟨⟨by decide +kernel, by decide +kernel⟩, List.mem_of_getElem? (i := 634) (by decide +kernel), List.mem_of_getElem? (i := 835) (by decide +kernel), List.mem_of_getElem? (i := 836) (by decide +kernel)⟩
theorem lw_p38 : lw_okq (⟨"LeastKnownModel", "learns", "(II)I"⟩, 29) := ⟨⟨by decide +kernel, by decide +kernel⟩, List.mem_of_getElem? (i := 634) (by decide +kernel), List.mem_of_getElem? (i := 843) (by decide +kernel), List.mem_of_getElem? (i := 844) (by decide +kernel)⟩
theorem lw_p39 : lw_okq (⟨"LeastKnownModel", "springs", "()I"⟩, 29) := ⟨⟨by decide +kernel, by decide +kernel⟩, List.mem_of_getElem? (i := 634) (by decide +kernel), List.mem_of_getElem? (i := 859) (by decide +kernel), List.mem_of_getElem? (i := 860) (by decide +kernel)⟩
theorem lw_p40 : lw_okq (⟨"LeastKnownModel", "countAll", "()I"⟩, 29) := ⟨⟨by decide +kernel, by decide +kernel⟩, List.mem_of_getElem? (i := 634) (by decide +kernel), List.mem_of_getElem? (i := 867) (by decide +kernel), List.mem_of_getElem? (i := 868) (by decide +kernel)⟩
theorem lw_p41 : lw_okq (⟨"LeastKnownModel", "aside", "(Z)V"⟩, 29) := ⟨⟨by decide +kernel, by decide +kernel⟩, List.mem_of_getElem? (i := 634) (by decide +kernel), List.mem_of_getElem? (i := 879) (by decide +kernel), List.mem_of_getElem? (i := 880) (by decide +kernel)⟩
theorem lw_p42 : lw_okq (⟨"LeastKnownModel", "bringsBy", "(III)I"⟩, 29) := ⟨⟨by decide +kernel, by decide +kernel⟩, List.mem_of_getElem? (i := 634) (by decide +kernel), List.mem_of_getElem? (i := 891) (by decide +kernel), List.mem_of_getElem? (i := 892) (by decide +kernel)⟩
theorem lw_p43 : lw_okq (⟨"LeastKnownModel", "nextPair", "(I)I"⟩, 29) := ⟨⟨by decide +kernel, by decide +kernel⟩, List.mem_of_getElem? (i := 634) (by decide +kernel), List.mem_of_getElem? (i := 895) (by decide +kernel), List.mem_of_getElem? (i := 896) (by decide +kernel)⟩
theorem lw_p44 : lw_okq (⟨"LeastKnownModel", "meets", "(I)V"⟩, 29) := ⟨⟨by decide +kernel, by decide +kernel⟩, List.mem_of_getElem? (i := 634) (by decide +kernel), List.mem_of_getElem? (i := 899) (by decide +kernel), List.mem_of_getElem? (i := 900) (by decide +kernel)⟩
theorem lw_p45 : lw_okq (⟨"LeastKnownModel", "isSo", "(II)Z"⟩, 29) := ⟨⟨by decide +kernel, by decide +kernel⟩, List.mem_of_getElem? (i := 634) (by decide +kernel), List.mem_of_getElem? (i := 903) (by decide +kernel), List.mem_of_getElem? (i := 904) (by decide +kernel)⟩
theorem lw_p46 : lw_okq (⟨"LeastKnownModel", "firstDay", "(III)I"⟩, 29) := ⟨⟨by decide +kernel, by decide +kernel⟩, List.mem_of_getElem? (i := 634) (by decide +kernel), List.mem_of_getElem? (i := 911) (by decide +kernel), List.mem_of_getElem? (i := 912) (by decide +kernel)⟩
theorem lw_p47 : lw_okq (⟨"LeastKnownModel", "lastButOne", "(IIII)I"⟩, 29) := ⟨⟨by decide +kernel, by decide +kernel⟩, List.mem_of_getElem? (i := 634) (by decide +kernel), List.mem_of_getElem? (i := 915) (by decide +kernel), List.mem_of_getElem? (i := 916) (by decide +kernel)⟩
def lw_privs_3 : List (MethodName × Nat) := [(⟨"LeastKnownModel", "areTwo", "(II)Z"⟩, 29), (⟨"LeastKnownModel", "isPerson", "(I)Z"⟩, 29), (⟨"LeastKnownModel", "isKnown", "(II)Z"⟩, 29), (⟨"LeastKnownModel", "countOf", "(I)I"⟩, 29), (⟨"LeastKnownModel", "chosenNow", "()I"⟩, 29), (⟨"LeastKnownModel", "leastOf", "(I)I"⟩, 29), (⟨"LeastKnownModel", "learns", "(II)I"⟩, 29), (⟨"LeastKnownModel", "springs", "()I"⟩, 29), (⟨"LeastKnownModel", "countAll", "()I"⟩, 29), (⟨"LeastKnownModel", "aside", "(Z)V"⟩, 29), (⟨"LeastKnownModel", "bringsBy", "(III)I"⟩, 29), (⟨"LeastKnownModel", "nextPair", "(I)I"⟩, 29), (⟨"LeastKnownModel", "meets", "(I)V"⟩, 29), (⟨"LeastKnownModel", "isSo", "(II)Z"⟩, 29), (⟨"LeastKnownModel", "firstDay", "(III)I"⟩, 29), (⟨"LeastKnownModel", "lastButOne", "(IIII)I"⟩, 29)]
theorem lw_r3 : ∀ q ∈ lw_privs_3, lw_okq q := List.forall_mem_cons.mpr ⟨lw_p32, List.forall_mem_cons.mpr ⟨lw_p33, List.forall_mem_cons.mpr ⟨lw_p34, List.forall_mem_cons.mpr ⟨lw_p35, List.forall_mem_cons.mpr ⟨lw_p36, List.forall_mem_cons.mpr ⟨lw_p37, List.forall_mem_cons.mpr ⟨lw_p38, List.forall_mem_cons.mpr ⟨lw_p39, List.forall_mem_cons.mpr ⟨lw_p40, List.forall_mem_cons.mpr ⟨lw_p41, List.forall_mem_cons.mpr ⟨lw_p42, List.forall_mem_cons.mpr ⟨lw_p43, List.forall_mem_cons.mpr ⟨lw_p44, List.forall_mem_cons.mpr ⟨lw_p45, List.forall_mem_cons.mpr ⟨lw_p46, List.forall_mem_cons.mpr ⟨lw_p47, fun _ h => absurd h List.not_mem_nil⟩⟩⟩⟩⟩⟩⟩⟩⟩⟩⟩⟩⟩⟩⟩⟩
theorem lw_p48 : lw_okq (⟨"LeastKnownModel", "lastDay", "(III)I"⟩, 29) := ⟨⟨by decide +kernel, by decide +kernel⟩, List.mem_of_getElem? (i := 634) (by decide +kernel), List.mem_of_getElem? (i := 919) (by decide +kernel), List.mem_of_getElem? (i := 920) (by decide +kernel)⟩
theorem lw_p49 : lw_okq (⟨"LeastKnownModel", "asideOf", "(IZ)V"⟩, 29) := ⟨⟨by decide +kernel, by decide +kernel⟩, List.mem_of_getElem? (i := 634) (by decide +kernel), List.mem_of_getElem? (i := 923) (by decide +kernel), List.mem_of_getElem? (i := 924) (by decide +kernel)⟩
theorem lw_p50 : lw_okq (⟨"LeastKnownModel", "whoOf", "(II)I"⟩, 29) := ⟨⟨by decide +kernel, by decide +kernel⟩, List.mem_of_getElem? (i := 634) (by decide +kernel), List.mem_of_getElem? (i := 927) (by decide +kernel), List.mem_of_getElem? (i := 928) (by decide +kernel)⟩
theorem lw_p51 : lw_okq (⟨"LeastKnownModel", "acts", "(III)Z"⟩, 29) := ⟨⟨by decide +kernel, by decide +kernel⟩, List.mem_of_getElem? (i := 634) (by decide +kernel), List.mem_of_getElem? (i := 931) (by decide +kernel), List.mem_of_getElem? (i := 932) (by decide +kernel)⟩
theorem lw_p52 : lw_okq (⟨"LeastKnownModel", "isParty", "(I)Z"⟩, 29) := ⟨⟨by decide +kernel, by decide +kernel⟩, List.mem_of_getElem? (i := 634) (by decide +kernel), List.mem_of_getElem? (i := 943) (by decide +kernel), List.mem_of_getElem? (i := 944) (by decide +kernel)⟩
def lw_privs_4 : List (MethodName × Nat) := [(⟨"LeastKnownModel", "lastDay", "(III)I"⟩, 29), (⟨"LeastKnownModel", "asideOf", "(IZ)V"⟩, 29), (⟨"LeastKnownModel", "whoOf", "(II)I"⟩, 29), (⟨"LeastKnownModel", "acts", "(III)Z"⟩, 29), (⟨"LeastKnownModel", "isParty", "(I)Z"⟩, 29)]
theorem lw_r4 : ∀ q ∈ lw_privs_4, lw_okq q := List.forall_mem_cons.mpr ⟨lw_p48, List.forall_mem_cons.mpr ⟨lw_p49, List.forall_mem_cons.mpr ⟨lw_p50, List.forall_mem_cons.mpr ⟨lw_p51, List.forall_mem_cons.mpr ⟨lw_p52, fun _ h => absurd h List.not_mem_nil⟩⟩⟩⟩⟩
def lw_privs : List (MethodName × Nat) := lw_privs_1 ++ (lw_privs_2 ++ (lw_privs_3 ++ (lw_privs_4)))
def lw_tbl : List Cond := k2_sels lw_privs ++ tables_1
theorem lw_privs_ok : ∀ q ∈ lw_privs, lw_okq q := by
  show ∀ q ∈ lw_privs_1 ++ (lw_privs_2 ++ (lw_privs_3 ++ (lw_privs_4))), lw_okq q
  exact List.forall_mem_append.mpr ⟨lw_r1, List.forall_mem_append.mpr ⟨lw_r2, List.forall_mem_append.mpr ⟨lw_r3, lw_r4⟩⟩⟩
end
section
def RX0 : String := "LeastKnown$Foretelling"
def TX0 : u_T := fun k => match k with
  | 0 => ("LeastKnown$Foretelling", "row", "[I", true)
  | 1 => ("LeastKnown$Foretelling", "firstAct", "I", false)
  | 2 => ("LeastKnown$Foretelling", "mind", "LLeastKnown$Now;", true)
  | _ => ("LeastKnown$Foretelling", "rulers", "[I", true)
def tyX0 : Nat → FieldType := fun k => match k with
  | 0 => .array .int
  | 1 => .int
  | 2 => .object "LeastKnown$Now"
  | _ => .array .int
abbrev wsX00 : List Cond := u_ws RX0 TX0 4
theorem nmX0 : ∀ a, a < 4 → ∀ b, b < 4 → a ≠ b → (TX0 a).2.1 ≠ (TX0 b).2.1 := by decide +kernel
theorem tyX0_ok : ∀ k, k < 4 → parseFieldDescriptor (TX0 k).2.2.1 = some (tyX0 k) := by decide +kernel
abbrev cX0_init : ByteArray := prog_2_method_1_code
def yX0_init : MethodName := ⟨RX0, "<init>", "()V"⟩
abbrev cX0_rulerAhead : ByteArray := prog_2_method_2_code
def yX0_rulerAhead : MethodName := ⟨RX0, "rulerAhead", "(LLeastKnown$Town;LLeastKnown$Now;I)I"⟩
abbrev cX0_leastRing : ByteArray := prog_2_method_3_code
def yX0_leastRing : MethodName := ⟨RX0, "leastRing", "(LLeastKnown$Town;LLeastKnown$Now;)I"⟩
abbrev cX0_isRing : ByteArray := prog_2_method_4_code
def yX0_isRing : MethodName := ⟨RX0, "isRing", "(I)Z"⟩
abbrev cX0_fewestPairs : ByteArray := prog_2_method_5_code
def yX0_fewestPairs : MethodName := ⟨RX0, "fewestPairs", "(LLeastKnown$Town;LLeastKnown$Now;IZ)I"⟩
abbrev cX0_bringsAbout : ByteArray := prog_2_method_6_code
def yX0_bringsAbout : MethodName := ⟨RX0, "bringsAbout", "(LLeastKnown$Town;IZII)Z"⟩
abbrev cX0_noteInFront : ByteArray := prog_2_method_7_code
def yX0_noteInFront : MethodName := ⟨RX0, "noteInFront", "(I)V"⟩
abbrev cX0_lastDays : ByteArray := prog_2_method_8_code
def yX0_lastDays : MethodName := ⟨RX0, "lastDays", "(LLeastKnown$Town;LLeastKnown$Now;IIZ)I"⟩
abbrev cX0_outcome : ByteArray := prog_2_method_9_code
def yX0_outcome : MethodName := ⟨RX0, "outcome", "(LLeastKnown$Town;IZII)I"⟩
def RX1 : String := "LeastKnown$Image"
def TX1 : u_T := fun k => match k with
  | 0 => ("LeastKnown$Image", "now", "LLeastKnown$Now;", true)
  | _ => ("LeastKnown$Image", "kept", "Z", false)
def tyX1 : Nat → FieldType := fun k => match k with
  | 0 => .object "LeastKnown$Now"
  | _ => .boolean
abbrev wsX10 : List Cond := u_ws RX1 TX1 2
theorem nmX1 : ∀ a, a < 2 → ∀ b, b < 2 → a ≠ b → (TX1 a).2.1 ≠ (TX1 b).2.1 := by decide +kernel
theorem tyX1_ok : ∀ k, k < 2 → parseFieldDescriptor (TX1 k).2.2.1 = some (tyX1 k) := by decide +kernel
abbrev cX1_init : ByteArray := prog_3_method_1_code
def yX1_init : MethodName := ⟨RX1, "<init>", "()V"⟩
def RX2 : String := "LeastKnown$Now"
def TX2 : u_T := fun k => match k with
  | 0 => ("LeastKnown$Now", "knowers", "[I", true)
  | 1 => ("LeastKnown$Now", "counts", "[I", true)
  | 2 => ("LeastKnown$Now", "sights", "[I", true)
  | 3 => ("LeastKnown$Now", "crowns", "[I", true)
  | 4 => ("LeastKnown$Now", "reigned", "I", false)
  | 5 => ("LeastKnown$Now", "year", "I", false)
  | _ => ("LeastKnown$Now", "last", "I", false)
def tyX2 : Nat → FieldType := fun k => match k with
  | 0 => .array .int
  | 1 => .array .int
  | 2 => .array .int
  | 3 => .array .int
  | 4 => .int
  | 5 => .int
  | _ => .int
abbrev wsX20 : List Cond := u_ws RX2 TX2 7
theorem nmX2 : ∀ a, a < 7 → ∀ b, b < 7 → a ≠ b → (TX2 a).2.1 ≠ (TX2 b).2.1 := by decide +kernel
theorem tyX2_ok : ∀ k, k < 7 → parseFieldDescriptor (TX2 k).2.2.1 = some (tyX2 k) := by decide +kernel
abbrev cX2_init : ByteArray := prog_4_method_1_code
def yX2_init : MethodName := ⟨RX2, "<init>", "()V"⟩
abbrev cX2_begin : ByteArray := prog_4_method_2_code
def yX2_begin : MethodName := ⟨RX2, "begin", "(LLeastKnown$Town;)V"⟩
abbrev cX2_copyFrom : ByteArray := prog_4_method_3_code
def yX2_copyFrom : MethodName := ⟨RX2, "copyFrom", "(LLeastKnown$Now;)V"⟩
abbrev cX2_setKnowers : ByteArray := prog_4_method_4_code
def yX2_setKnowers : MethodName := ⟨RX2, "setKnowers", "(II)V"⟩
abbrev cX2_isAware : ByteArray := prog_4_method_5_code
def yX2_isAware : MethodName := ⟨RX2, "isAware", "(II)Z"⟩
abbrev cX2_sight : ByteArray := prog_4_method_6_code
def yX2_sight : MethodName := ⟨RX2, "sight", "(II)I"⟩
abbrev cX2_learn : ByteArray := prog_4_method_7_code
def yX2_learn : MethodName := ⟨RX2, "learn", "(II)I"⟩
abbrev cX2_acquaintances : ByteArray := prog_4_method_8_code
def yX2_acquaintances : MethodName := ⟨RX2, "acquaintances", "(I)I"⟩
abbrev cX2_allCounts : ByteArray := prog_4_method_9_code
def yX2_allCounts : MethodName := ⟨RX2, "allCounts", "()I"⟩
abbrev cX2_spring : ByteArray := prog_4_method_10_code
def yX2_spring : MethodName := ⟨RX2, "spring", "(LLeastKnown$Town;)I"⟩
abbrev cX2_crown : ByteArray := prog_4_method_11_code
def yX2_crown : MethodName := ⟨RX2, "crown", "(II)V"⟩
abbrev cX2_forget : ByteArray := prog_4_method_12_code
def yX2_forget : MethodName := ⟨RX2, "forget", "(LLeastKnown$Town;)V"⟩
abbrev cX2_fewestAsks : ByteArray := prog_4_method_13_code
def yX2_fewestAsks : MethodName := ⟨RX2, "fewestAsks", "(III)I"⟩
abbrev cX2_isParty : ByteArray := prog_4_method_14_code
def yX2_isParty : MethodName := ⟨RX2, "isParty", "(I)Z"⟩
def RX3 : String := "LeastKnown$Reader"
def TX3 : u_T := fun k => match k with
  | 0 => ("LeastKnown$Reader", "tokens", "[I", true)
  | 1 => ("LeastKnown$Reader", "places", "[I", true)
  | 2 => ("LeastKnown$Reader", "cursor", "I", false)
  | 3 => ("LeastKnown$Reader", "fault", "I", false)
  | 4 => ("LeastKnown$Reader", "lawTold", "Z", false)
  | _ => ("LeastKnown$Reader", "forgetsTold", "Z", false)
def tyX3 : Nat → FieldType := fun k => match k with
  | 0 => .array .int
  | 1 => .array .int
  | 2 => .int
  | 3 => .int
  | 4 => .boolean
  | _ => .boolean
abbrev wsX30 : List Cond := u_ws RX3 TX3 6
theorem nmX3 : ∀ a, a < 6 → ∀ b, b < 6 → a ≠ b → (TX3 a).2.1 ≠ (TX3 b).2.1 := by decide +kernel
theorem tyX3_ok : ∀ k, k < 6 → parseFieldDescriptor (TX3 k).2.2.1 = some (tyX3 k) := by decide +kernel
abbrev cX3_init : ByteArray := prog_5_method_1_code
def yX3_init : MethodName := ⟨RX3, "<init>", "()V"⟩
abbrev cX3_read : ByteArray := prog_5_method_2_code
def yX3_read : MethodName := ⟨RX3, "read", "(LLeastKnown$Text;LLeastKnown$Town;)I"⟩
abbrev cX3_findTokens : ByteArray := prog_5_method_3_code
def yX3_findTokens : MethodName := ⟨RX3, "findTokens", "(LLeastKnown$Text;)V"⟩
abbrev cX3_tokenAt : ByteArray := prog_5_method_4_code
def yX3_tokenAt : MethodName := ⟨RX3, "tokenAt", "(LLeastKnown$Text;I)I"⟩
abbrev cX3_wordAt : ByteArray := prog_5_method_5_code
def yX3_wordAt : MethodName := ⟨RX3, "wordAt", "(LLeastKnown$Text;I)I"⟩
abbrev cX3_isWord : ByteArray := prog_5_method_6_code
def yX3_isWord : MethodName := ⟨RX3, "isWord", "(LLeastKnown$Text;II)Z"⟩
abbrev cX3_numberAt : ByteArray := prog_5_method_7_code
def yX3_numberAt : MethodName := ⟨RX3, "numberAt", "(LLeastKnown$Text;I)I"⟩
abbrev cX3_readItem : ByteArray := prog_5_method_8_code
def yX3_readItem : MethodName := ⟨RX3, "readItem", "(LLeastKnown$Town;)V"⟩
abbrev cX3_mayBegin : ByteArray := prog_5_method_9_code
def yX3_mayBegin : MethodName := ⟨RX3, "mayBegin", "(LLeastKnown$Town;I)Z"⟩
abbrev cX3_readForgets : ByteArray := prog_5_method_10_code
def yX3_readForgets : MethodName := ⟨RX3, "readForgets", "(LLeastKnown$Town;)Z"⟩
abbrev cX3_readLaw : ByteArray := prog_5_method_11_code
def yX3_readLaw : MethodName := ⟨RX3, "readLaw", "(LLeastKnown$Town;)Z"⟩
abbrev cX3_readPair : ByteArray := prog_5_method_12_code
def yX3_readPair : MethodName := ⟨RX3, "readPair", "(LLeastKnown$Town;I)Z"⟩
abbrev cX3_number : ByteArray := prog_5_method_13_code
def yX3_number : MethodName := ⟨RX3, "number", "()I"⟩
abbrev cX3_take : ByteArray := prog_5_method_14_code
def yX3_take : MethodName := ⟨RX3, "take", "(Z)Z"⟩
def RX4 : String := "LeastKnown$Text"
def TX4 : u_T := fun k => match k with
  | 0 => ("LeastKnown$Text", "bytes", "[I", true)
  | _ => ("LeastKnown$Text", "size", "I", false)
def tyX4 : Nat → FieldType := fun k => match k with
  | 0 => .array .int
  | _ => .int
abbrev wsX40 : List Cond := u_ws RX4 TX4 2
theorem nmX4 : ∀ a, a < 2 → ∀ b, b < 2 → a ≠ b → (TX4 a).2.1 ≠ (TX4 b).2.1 := by decide +kernel
theorem tyX4_ok : ∀ k, k < 2 → parseFieldDescriptor (TX4 k).2.2.1 = some (tyX4 k) := by decide +kernel
abbrev cX4_init : ByteArray := prog_6_method_1_code
def yX4_init : MethodName := ⟨RX4, "<init>", "()V"⟩
abbrev cX4_add : ByteArray := prog_6_method_2_code
def yX4_add : MethodName := ⟨RX4, "add", "(I)V"⟩
abbrev cX4_byteAt : ByteArray := prog_6_method_3_code
def yX4_byteAt : MethodName := ⟨RX4, "byteAt", "(I)I"⟩
abbrev cX4_begins : ByteArray := prog_6_method_4_code
def yX4_begins : MethodName := ⟨RX4, "begins", "(I)Z"⟩
abbrev cX4_isLetter : ByteArray := prog_6_method_5_code
def yX4_isLetter : MethodName := ⟨RX4, "isLetter", "(I)Z"⟩
abbrev cX4_isDigit : ByteArray := prog_6_method_6_code
def yX4_isDigit : MethodName := ⟨RX4, "isDigit", "(I)Z"⟩
def RX5 : String := "LeastKnown$Town"
def TX5 : u_T := fun k => match k with
  | 0 => ("LeastKnown$Town", "knowers", "[I", true)
  | 1 => ("LeastKnown$Town", "calls", "[I", true)
  | 2 => ("LeastKnown$Town", "people", "I", false)
  | 3 => ("LeastKnown$Town", "forgets", "I", false)
  | 4 => ("LeastKnown$Town", "law", "I", false)
  | _ => ("LeastKnown$Town", "just", "I", false)
def tyX5 : Nat → FieldType := fun k => match k with
  | 0 => .array .int
  | 1 => .array .int
  | 2 => .int
  | 3 => .int
  | 4 => .int
  | _ => .int
abbrev wsX50 : List Cond := u_ws RX5 TX5 6
theorem nmX5 : ∀ a, a < 6 → ∀ b, b < 6 → a ≠ b → (TX5 a).2.1 ≠ (TX5 b).2.1 := by decide +kernel
theorem tyX5_ok : ∀ k, k < 6 → parseFieldDescriptor (TX5 k).2.2.1 = some (tyX5 k) := by decide +kernel
abbrev cX5_init : ByteArray := prog_7_method_1_code
def yX5_init : MethodName := ⟨RX5, "<init>", "()V"⟩
abbrev cX5_empty : ByteArray := prog_7_method_2_code
def yX5_empty : MethodName := ⟨RX5, "empty", "()V"⟩
abbrev cX5_tell : ByteArray := prog_7_method_3_code
def yX5_tell : MethodName := ⟨RX5, "tell", "(II)V"⟩
abbrev cX5_everyone : ByteArray := prog_7_method_4_code
def yX5_everyone : MethodName := ⟨RX5, "everyone", "()I"⟩
abbrev cX5_habits : ByteArray := prog_7_method_5_code
def yX5_habits : MethodName := ⟨RX5, "habits", "()I"⟩
abbrev cX5_choose : ByteArray := prog_7_method_6_code
def yX5_choose : MethodName := ⟨RX5, "choose", "(LLeastKnown$Now;)I"⟩
abbrev cX5_leastOf : ByteArray := prog_7_method_7_code
def yX5_leastOf : MethodName := ⟨RX5, "leastOf", "([II)I"⟩
abbrev cX5_firstWith : ByteArray := prog_7_method_8_code
def yX5_firstWith : MethodName := ⟨RX5, "firstWith", "([II)I"⟩
def RX6 : String := "LeastKnown"
def TX6 : u_T := fun k => match k with
  | 0 => ("LeastKnown", "text", "LLeastKnown$Text;", true)
  | 1 => ("LeastKnown", "reader", "LLeastKnown$Reader;", true)
  | 2 => ("LeastKnown", "present", "LLeastKnown$Now;", true)
  | 3 => ("LeastKnown", "imageZero", "LLeastKnown$Image;", true)
  | 4 => ("LeastKnown", "imageOne", "LLeastKnown$Image;", true)
  | 5 => ("LeastKnown", "foretelling", "LLeastKnown$Foretelling;", true)
  | 6 => ("LeastKnown", "told", "LLeastKnown$Town;", false)
  | 7 => ("LeastKnown", "draft", "LLeastKnown$Town;", false)
  | _ => ("LeastKnown", "traced", "J", false)
def tyX6 : Nat → FieldType := fun k => match k with
  | 0 => .object "LeastKnown$Text"
  | 1 => .object "LeastKnown$Reader"
  | 2 => .object "LeastKnown$Now"
  | 3 => .object "LeastKnown$Image"
  | 4 => .object "LeastKnown$Image"
  | 5 => .object "LeastKnown$Foretelling"
  | 6 => .object "LeastKnown$Town"
  | 7 => .object "LeastKnown$Town"
  | _ => .long
abbrev wsX60 : List Cond := u_ws RX6 TX6 9
theorem nmX6 : ∀ a, a < 9 → ∀ b, b < 9 → a ≠ b → (TX6 a).2.1 ≠ (TX6 b).2.1 := by decide +kernel
theorem tyX6_ok : ∀ k, k < 9 → parseFieldDescriptor (TX6 k).2.2.1 = some (tyX6 k) := by decide +kernel
abbrev cX6_init : ByteArray := prog_1_method_1_code
def yX6_init : MethodName := ⟨RX6, "<init>", "()V"⟩
abbrev cX6_type : ByteArray := prog_1_method_2_code
def yX6_type : MethodName := ⟨RX6, "type", "(JI)I"⟩
abbrev cX6_clear : ByteArray := prog_1_method_3_code
def yX6_clear : MethodName := ⟨RX6, "clear", "()I"⟩
abbrev cX6_town : ByteArray := prog_1_method_4_code
def yX6_town : MethodName := ⟨RX6, "town", "()I"⟩
abbrev cX6_knows : ByteArray := prog_1_method_5_code
def yX6_knows : MethodName := ⟨RX6, "knows", "(II)I"⟩
abbrev cX6_seen : ByteArray := prog_1_method_6_code
def yX6_seen : MethodName := ⟨RX6, "seen", "(II)I"⟩
abbrev cX6_person : ByteArray := prog_1_method_7_code
def yX6_person : MethodName := ⟨RX6, "person", "(II)I"⟩
abbrev cX6_law : ByteArray := prog_1_method_8_code
def yX6_law : MethodName := ⟨RX6, "law", "(I)I"⟩
abbrev cX6_rules : ByteArray := prog_1_method_9_code
def yX6_rules : MethodName := ⟨RX6, "rules", "(II)I"⟩
abbrev cX6_chosen : ByteArray := prog_1_method_10_code
def yX6_chosen : MethodName := ⟨RX6, "chosen", "()I"⟩
abbrev cX6_meet : ByteArray := prog_1_method_11_code
def yX6_meet : MethodName := ⟨RX6, "meet", "(II)I"⟩
abbrev cX6_introduce : ByteArray := prog_1_method_12_code
def yX6_introduce : MethodName := ⟨RX6, "introduce", "(III)I"⟩
abbrev cX6_moves : ByteArray := prog_1_method_13_code
def yX6_moves : MethodName := ⟨RX6, "moves", "(I)I"⟩
abbrev cX6_go : ByteArray := prog_1_method_14_code
def yX6_go : MethodName := ⟨RX6, "go", "(I)I"⟩
abbrev cX6_now : ByteArray := prog_1_method_15_code
def yX6_now : MethodName := ⟨RX6, "now", "(I)I"⟩
abbrev cX6_anew : ByteArray := prog_1_method_16_code
def yX6_anew : MethodName := ⟨RX6, "anew", "()I"⟩
abbrev cX6_reigns : ByteArray := prog_1_method_17_code
def yX6_reigns : MethodName := ⟨RX6, "reigns", "(I)I"⟩
abbrev cX6_ring : ByteArray := prog_1_method_18_code
def yX6_ring : MethodName := ⟨RX6, "ring", "()I"⟩
abbrev cX6_brings : ByteArray := prog_1_method_19_code
def yX6_brings : MethodName := ⟨RX6, "brings", "(III)I"⟩
abbrev cX6_days : ByteArray := prog_1_method_20_code
def yX6_days : MethodName := ⟨RX6, "days", "(IIII)I"⟩
abbrev cX6_asks : ByteArray := prog_1_method_21_code
def yX6_asks : MethodName := ⟨RX6, "asks", "(II)I"⟩
abbrev cX6_party : ByteArray := prog_1_method_22_code
def yX6_party : MethodName := ⟨RX6, "party", "(I)I"⟩
abbrev cX6_parties : ByteArray := prog_1_method_23_code
def yX6_parties : MethodName := ⟨RX6, "parties", "(I)I"⟩
abbrev cX6_rate : ByteArray := prog_1_method_24_code
def yX6_rate : MethodName := ⟨RX6, "rate", "(II)I"⟩
abbrev cX6_keep : ByteArray := prog_1_method_25_code
def yX6_keep : MethodName := ⟨RX6, "keep", "(I)I"⟩
abbrev cX6_back : ByteArray := prog_1_method_26_code
def yX6_back : MethodName := ⟨RX6, "back", "(I)I"⟩
abbrev cX6_count : ByteArray := prog_1_method_27_code
def yX6_count : MethodName := ⟨RX6, "count", "(I)I"⟩
abbrev cX6_trace : ByteArray := prog_1_method_28_code
def yX6_trace : MethodName := ⟨RX6, "trace", "()J"⟩
abbrev cX6_asPerson : ByteArray := prog_1_method_29_code
def yX6_asPerson : MethodName := ⟨RX6, "asPerson", "(I)I"⟩
abbrev cX6_asShy : ByteArray := prog_1_method_30_code
def yX6_asShy : MethodName := ⟨RX6, "asShy", "(I)I"⟩
abbrev cX6_asKnown : ByteArray := prog_1_method_31_code
def yX6_asKnown : MethodName := ⟨RX6, "asKnown", "(I)I"⟩
abbrev cX6_asMayor : ByteArray := prog_1_method_32_code
def yX6_asMayor : MethodName := ⟨RX6, "asMayor", "(I)I"⟩
abbrev cX6_asHermit : ByteArray := prog_1_method_33_code
def yX6_asHermit : MethodName := ⟨RX6, "asHermit", "(I)I"⟩
abbrev cX6_asStranger : ByteArray := prog_1_method_34_code
def yX6_asStranger : MethodName := ⟨RX6, "asStranger", "(I)I"⟩
abbrev cX6_isPerson : ByteArray := prog_1_method_35_code
def yX6_isPerson : MethodName := ⟨RX6, "isPerson", "(I)Z"⟩
abbrev cX6_isPair : ByteArray := prog_1_method_36_code
def yX6_isPair : MethodName := ⟨RX6, "isPair", "(II)Z"⟩
abbrev cX6_isChoice : ByteArray := prog_1_method_37_code
def yX6_isChoice : MethodName := ⟨RX6, "isChoice", "(I)Z"⟩
abbrev cX6_imageOf : ByteArray := prog_1_method_38_code
def yX6_imageOf : MethodName := ⟨RX6, "imageOf", "(I)LLeastKnown$Image;"⟩
abbrev cX6_at : ByteArray := prog_1_method_39_code
def yX6_at : MethodName := ⟨RX6, "at", "([II)I"⟩
abbrev cX6_put : ByteArray := prog_1_method_40_code
def yX6_put : MethodName := ⟨RX6, "put", "([III)V"⟩
abbrev cX6_copy : ByteArray := prog_1_method_41_code
def yX6_copy : MethodName := ⟨RX6, "copy", "([I[I)V"⟩
abbrev cX6_fill : ByteArray := prog_1_method_42_code
def yX6_fill : MethodName := ⟨RX6, "fill", "([II)V"⟩
def RX7 : String := "LeastKnownModel"
def TX7 : u_T := fun k => match k with
  | 0 => ("LeastKnownModel", "thrown", "I", false)
  | 1 => ("LeastKnownModel", "trace", "J", false)
  | 2 => ("LeastKnownModel", "text", "[I", true)
  | 3 => ("LeastKnownModel", "typed", "I", false)
  | 4 => ("LeastKnownModel", "next", "I", false)
  | 5 => ("LeastKnownModel", "token", "I", false)
  | 6 => ("LeastKnownModel", "place", "I", false)
  | 7 => ("LeastKnownModel", "value", "I", false)
  | 8 => ("LeastKnownModel", "fault", "I", false)
  | 9 => ("LeastKnownModel", "knowsTold", "[I", true)
  | 10 => ("LeastKnownModel", "habits", "[I", true)
  | 11 => ("LeastKnownModel", "people", "I", false)
  | 12 => ("LeastKnownModel", "draftPeople", "I", false)
  | 13 => ("LeastKnownModel", "forgets", "I", false)
  | 14 => ("LeastKnownModel", "draftForgets", "I", false)
  | 15 => ("LeastKnownModel", "law", "I", false)
  | 16 => ("LeastKnownModel", "draftLaw", "I", false)
  | 17 => ("LeastKnownModel", "just", "I", false)
  | 18 => ("LeastKnownModel", "draftJust", "I", false)
  | 19 => ("LeastKnownModel", "wasForgets", "Z", false)
  | 20 => ("LeastKnownModel", "wasLaw", "Z", false)
  | 21 => ("LeastKnownModel", "s", "[I", true)
  | 22 => ("LeastKnownModel", "spare", "[I", true)
  | 23 => ("LeastKnownModel", "kept", "[I", true)
  | 24 => ("LeastKnownModel", "isKept", "[Z", true)
  | 25 => ("LeastKnownModel", "ring", "[I", true)
  | 26 => ("LeastKnownModel", "pair", "[I", true)
  | 27 => ("LeastKnownModel", "ahead", "[I", true)
  | _ => ("LeastKnownModel", "does", "[I", true)
def tyX7 : Nat → FieldType := fun k => match k with
  | 0 => .int
  | 1 => .long
  | 2 => .array .int
  | 3 => .int
  | 4 => .int
  | 5 => .int
  | 6 => .int
  | 7 => .int
  | 8 => .int
  | 9 => .array .int
  | 10 => .array .int
  | 11 => .int
  | 12 => .int
  | 13 => .int
  | 14 => .int
  | 15 => .int
  | 16 => .int
  | 17 => .int
  | 18 => .int
  | 19 => .boolean
  | 20 => .boolean
  | 21 => .array .int
  | 22 => .array .int
  | 23 => .array .int
  | 24 => .array .boolean
  | 25 => .array .int
  | 26 => .array .int
  | 27 => .array .int
  | _ => .array .int
abbrev wsX70 : List Cond := u_ws RX7 TX7 29
theorem nmX7 : ∀ a, a < 29 → ∀ b, b < 29 → a ≠ b → (TX7 a).2.1 ≠ (TX7 b).2.1 := by decide +kernel
theorem tyX7_ok : ∀ k, k < 29 → parseFieldDescriptor (TX7 k).2.2.1 = some (tyX7 k) := by decide +kernel
abbrev cX7_init : ByteArray := prog_9_method_1_code
def yX7_init : MethodName := ⟨RX7, "<init>", "()V"⟩
abbrev cX7_in : ByteArray := prog_9_method_3_code
def yX7_in : MethodName := ⟨RX7, "in", "(III)Z"⟩
abbrev cX7_type : ByteArray := prog_9_method_4_code
def yX7_type : MethodName := ⟨RX7, "type", "(JI)I"⟩
abbrev cX7_clear : ByteArray := prog_9_method_5_code
def yX7_clear : MethodName := ⟨RX7, "clear", "()I"⟩
abbrev cX7_byteAt : ByteArray := prog_9_method_6_code
def yX7_byteAt : MethodName := ⟨RX7, "byteAt", "(I)I"⟩
abbrev cX7_add : ByteArray := prog_9_method_7_code
def yX7_add : MethodName := ⟨RX7, "add", "(JI)J"⟩
abbrev cX7_named : ByteArray := prog_9_method_8_code
def yX7_named : MethodName := ⟨RX7, "named", "(IIIIII)J"⟩
abbrev cX7_wordOf : ByteArray := prog_9_method_9_code
def yX7_wordOf : MethodName := ⟨RX7, "wordOf", "(J)I"⟩
abbrev cX7_advances : ByteArray := prog_9_method_10_code
def yX7_advances : MethodName := ⟨RX7, "advances", "()V"⟩
abbrev cX7_isWell : ByteArray := prog_9_method_11_code
def yX7_isWell : MethodName := ⟨RX7, "isWell", "()Z"⟩
abbrev cX7_takes : ByteArray := prog_9_method_12_code
def yX7_takes : MethodName := ⟨RX7, "takes", "(Z)I"⟩
abbrev cX7_number : ByteArray := prog_9_method_13_code
def yX7_number : MethodName := ⟨RX7, "number", "(II)I"⟩
abbrev cX7_readsTwo : ByteArray := prog_9_method_14_code
def yX7_readsTwo : MethodName := ⟨RX7, "readsTwo", "(I)V"⟩
abbrev cX7_readsItem : ByteArray := prog_9_method_15_code
def yX7_readsItem : MethodName := ⟨RX7, "readsItem", "(I)V"⟩
abbrev cX7_town : ByteArray := prog_9_method_16_code
def yX7_town : MethodName := ⟨RX7, "town", "()I"⟩
abbrev cX7_begins : ByteArray := prog_9_method_17_code
def yX7_begins : MethodName := ⟨RX7, "begins", "()V"⟩
abbrev cX7_isPerson : ByteArray := prog_9_method_18_code
def yX7_isPerson : MethodName := ⟨RX7, "isPerson", "(I)Z"⟩
abbrev cX7_areTwo : ByteArray := prog_9_method_19_code
def yX7_areTwo : MethodName := ⟨RX7, "areTwo", "(II)Z"⟩
abbrev cX7_isKnown : ByteArray := prog_9_method_20_code
def yX7_isKnown : MethodName := ⟨RX7, "isKnown", "(II)Z"⟩
abbrev cX7_knows : ByteArray := prog_9_method_21_code
def yX7_knows : MethodName := ⟨RX7, "knows", "(II)I"⟩
abbrev cX7_seen : ByteArray := prog_9_method_22_code
def yX7_seen : MethodName := ⟨RX7, "seen", "(II)I"⟩
abbrev cX7_countOf : ByteArray := prog_9_method_23_code
def yX7_countOf : MethodName := ⟨RX7, "countOf", "(I)I"⟩
abbrev cX7_ones : ByteArray := prog_9_method_24_code
def yX7_ones : MethodName := ⟨RX7, "ones", "(I)I"⟩
abbrev cX7_person : ByteArray := prog_9_method_25_code
def yX7_person : MethodName := ⟨RX7, "person", "(II)I"⟩
abbrev cX7_law : ByteArray := prog_9_method_26_code
def yX7_law : MethodName := ⟨RX7, "law", "(I)I"⟩
abbrev cX7_rules : ByteArray := prog_9_method_27_code
def yX7_rules : MethodName := ⟨RX7, "rules", "(II)I"⟩
abbrev cX7_leastOf : ByteArray := prog_9_method_28_code
def yX7_leastOf : MethodName := ⟨RX7, "leastOf", "(I)I"⟩
abbrev cX7_chosenNow : ByteArray := prog_9_method_29_code
def yX7_chosenNow : MethodName := ⟨RX7, "chosenNow", "()I"⟩
abbrev cX7_chosen : ByteArray := prog_9_method_30_code
def yX7_chosen : MethodName := ⟨RX7, "chosen", "()I"⟩
abbrev cX7_learns : ByteArray := prog_9_method_31_code
def yX7_learns : MethodName := ⟨RX7, "learns", "(II)I"⟩
abbrev cX7_meet : ByteArray := prog_9_method_32_code
def yX7_meet : MethodName := ⟨RX7, "meet", "(II)I"⟩
abbrev cX7_introduce : ByteArray := prog_9_method_33_code
def yX7_introduce : MethodName := ⟨RX7, "introduce", "(III)I"⟩
abbrev cX7_moves : ByteArray := prog_9_method_34_code
def yX7_moves : MethodName := ⟨RX7, "moves", "(I)I"⟩
abbrev cX7_springs : ByteArray := prog_9_method_35_code
def yX7_springs : MethodName := ⟨RX7, "springs", "()I"⟩
abbrev cX7_go : ByteArray := prog_9_method_36_code
def yX7_go : MethodName := ⟨RX7, "go", "(I)I"⟩
abbrev cX7_countAll : ByteArray := prog_9_method_37_code
def yX7_countAll : MethodName := ⟨RX7, "countAll", "()I"⟩
abbrev cX7_now : ByteArray := prog_9_method_38_code
def yX7_now : MethodName := ⟨RX7, "now", "(I)I"⟩
abbrev cX7_anew : ByteArray := prog_9_method_39_code
def yX7_anew : MethodName := ⟨RX7, "anew", "()I"⟩
abbrev cX7_aside : ByteArray := prog_9_method_40_code
def yX7_aside : MethodName := ⟨RX7, "aside", "(Z)V"⟩
abbrev cX7_reigns : ByteArray := prog_9_method_41_code
def yX7_reigns : MethodName := ⟨RX7, "reigns", "(I)I"⟩
abbrev cX7_ring : ByteArray := prog_9_method_42_code
def yX7_ring : MethodName := ⟨RX7, "ring", "()I"⟩
abbrev cX7_isSo : ByteArray := prog_9_method_43_code
def yX7_isSo : MethodName := ⟨RX7, "isSo", "(II)Z"⟩
abbrev cX7_nextPair : ByteArray := prog_9_method_44_code
def yX7_nextPair : MethodName := ⟨RX7, "nextPair", "(I)I"⟩
abbrev cX7_meets : ByteArray := prog_9_method_45_code
def yX7_meets : MethodName := ⟨RX7, "meets", "(I)V"⟩
abbrev cX7_bringsBy : ByteArray := prog_9_method_46_code
def yX7_bringsBy : MethodName := ⟨RX7, "bringsBy", "(III)I"⟩
abbrev cX7_brings : ByteArray := prog_9_method_47_code
def yX7_brings : MethodName := ⟨RX7, "brings", "(III)I"⟩
abbrev cX7_whoOf : ByteArray := prog_9_method_48_code
def yX7_whoOf : MethodName := ⟨RX7, "whoOf", "(II)I"⟩
abbrev cX7_asideOf : ByteArray := prog_9_method_49_code
def yX7_asideOf : MethodName := ⟨RX7, "asideOf", "(IZ)V"⟩
abbrev cX7_acts : ByteArray := prog_9_method_50_code
def yX7_acts : MethodName := ⟨RX7, "acts", "(III)Z"⟩
abbrev cX7_lastDay : ByteArray := prog_9_method_51_code
def yX7_lastDay : MethodName := ⟨RX7, "lastDay", "(III)I"⟩
abbrev cX7_lastButOne : ByteArray := prog_9_method_52_code
def yX7_lastButOne : MethodName := ⟨RX7, "lastButOne", "(IIII)I"⟩
abbrev cX7_firstDay : ByteArray := prog_9_method_53_code
def yX7_firstDay : MethodName := ⟨RX7, "firstDay", "(III)I"⟩
abbrev cX7_days : ByteArray := prog_9_method_54_code
def yX7_days : MethodName := ⟨RX7, "days", "(IIII)I"⟩
abbrev cX7_asks : ByteArray := prog_9_method_55_code
def yX7_asks : MethodName := ⟨RX7, "asks", "(II)I"⟩
abbrev cX7_isParty : ByteArray := prog_9_method_56_code
def yX7_isParty : MethodName := ⟨RX7, "isParty", "(I)Z"⟩
abbrev cX7_party : ByteArray := prog_9_method_57_code
def yX7_party : MethodName := ⟨RX7, "party", "(I)I"⟩
abbrev cX7_parties : ByteArray := prog_9_method_58_code
def yX7_parties : MethodName := ⟨RX7, "parties", "(I)I"⟩
abbrev cX7_rate : ByteArray := prog_9_method_59_code
def yX7_rate : MethodName := ⟨RX7, "rate", "(II)I"⟩
abbrev cX7_keep : ByteArray := prog_9_method_60_code
def yX7_keep : MethodName := ⟨RX7, "keep", "(I)I"⟩
abbrev cX7_back : ByteArray := prog_9_method_61_code
def yX7_back : MethodName := ⟨RX7, "back", "(I)I"⟩
abbrev cX7_count : ByteArray := prog_9_method_62_code
def yX7_count : MethodName := ⟨RX7, "count", "(I)I"⟩
abbrev cX7_trace : ByteArray := prog_9_method_63_code
def yX7_trace : MethodName := ⟨RX7, "trace", "()J"⟩
def RJ6 : String := "java/lang/Integer"
abbrev cJ6_bitCount_0f7a4 : ByteArray := prog_10_method_49_code
def yJ6_bitCount_0f7a4 : MethodName := ⟨RJ6, "bitCount", "(I)I"⟩
def RJ9 : String := "java/lang/Math"
abbrev cJ9_min_7cf53 : ByteArray := prog_11_method_69_code
def yJ9_min_7cf53 : MethodName := ⟨RJ9, "min", "(II)I"⟩
def RJ0 : String := "java/lang/String"
abbrev cJ0_length_8abf5 : ByteArray := prog_12_method_54_code
def yJ0_length_8abf5 : MethodName := ⟨RJ0, "length", "()I"⟩
abbrev cJ0_charAt_5068e : ByteArray := prog_12_method_56_code
def yJ0_charAt_5068e : MethodName := ⟨RJ0, "charAt", "(I)C"⟩
abbrev cJ0_coder_7d493 : ByteArray := prog_12_method_152_code
def yJ0_coder_7d493 : MethodName := ⟨RJ0, "coder", "()B"⟩
abbrev cJ0_isLatin1_aae02 : ByteArray := prog_12_method_154_code
def yJ0_isLatin1_aae02 : MethodName := ⟨RJ0, "isLatin1", "()Z"⟩
abbrev cJ0_checkIndex_df160 : ByteArray := prog_12_method_155_code
def yJ0_checkIndex_df160 : MethodName := ⟨RJ0, "checkIndex", "(II)V"⟩
def RJ1 : String := "java/lang/StringLatin1"
abbrev cJ1_charAt_3b067 : ByteArray := prog_13_method_2_code
def yJ1_charAt_3b067 : MethodName := ⟨RJ1, "charAt", "([BI)C"⟩
def RJ2 : String := "java/lang/StringUTF16"
abbrev cJ2_getChar_3b067 : ByteArray := prog_14_method_5_code
def yJ2_getChar_3b067 : MethodName := ⟨RJ2, "getChar", "([BI)C"⟩
abbrev cJ2_length_9d52b : ByteArray := prog_14_method_6_code
def yJ2_length_9d52b : MethodName := ⟨RJ2, "length", "([B)I"⟩
abbrev cJ2_charAt_3b067 : ByteArray := prog_14_method_83_code
def yJ2_charAt_3b067 : MethodName := ⟨RJ2, "charAt", "([BI)C"⟩
abbrev cJ2_checkIndex_2214a : ByteArray := prog_14_method_91_code
def yJ2_checkIndex_2214a : MethodName := ⟨RJ2, "checkIndex", "(I[B)V"⟩
def RJ3 : String := "jdk/internal/util/Preconditions"
abbrev cJ3_checkIndex_8e157 : ByteArray := prog_15_method_11_code
def yJ3_checkIndex_8e157 : MethodName := ⟨RJ3, "checkIndex", "(IILjava/util/function/BiFunction;)I"⟩
def RL : String := "LeastKnownLaw"
abbrev cL_law : ByteArray := code
def yL_law : MethodName := ⟨RL, "law", "([I)Z"⟩
abbrev vwCl : List vw_C := [(RX0, TX0, 4), (RX1, TX1, 2), (RX2, TX2, 7), (RX3, TX3, 6), (RX4, TX4, 2), (RX5, TX5, 6), (RX6, TX6, 9), (RX7, TX7, 29)]
end
section
theorem dX0_init_0 : decode cX0_init 0 = .ok (.aload_n 0, 1) := by decide +kernel
theorem dX0_init_1 : decode cX0_init 1 = .ok (.invokespecial 3, 3) := by decide +kernel
theorem dX0_init_4 : decode cX0_init 4 = .ok (.aload_n 0, 1) := by decide +kernel
theorem dX0_init_5 : decode cX0_init 5 = .ok (.iconst 3, 1) := by decide +kernel
theorem dX0_init_6 : decode cX0_init 6 = .ok (.newarray .int, 2) := by decide +kernel
theorem dX0_init_8 : decode cX0_init 8 = .ok (.putfield 9, 3) := by decide +kernel
theorem dX0_init_11 : decode cX0_init 11 = .ok (.aload_n 0, 1) := by decide +kernel
theorem dX0_init_12 : decode cX0_init 12 = .ok (.new 15, 3) := by decide +kernel
theorem dX0_init_15 : decode cX0_init 15 = .ok (.dup, 1) := by decide +kernel
theorem dX0_init_16 : decode cX0_init 16 = .ok (.invokespecial 17, 3) := by decide +kernel
theorem dX0_init_19 : decode cX0_init 19 = .ok (.putfield 18, 3) := by decide +kernel
theorem dX0_init_22 : decode cX0_init 22 = .ok (.aload_n 0, 1) := by decide +kernel
theorem dX0_init_23 : decode cX0_init 23 = .ok (.bipush 20, 2) := by decide +kernel
theorem dX0_init_25 : decode cX0_init 25 = .ok (.newarray .int, 2) := by decide +kernel
theorem dX0_init_27 : decode cX0_init 27 = .ok (.putfield 22, 3) := by decide +kernel
theorem dX0_init_30 : decode cX0_init 30 = .ok (.return_, 1) := by decide +kernel
theorem dX0_rulerAhead_0 : decode cX0_rulerAhead 0 = .ok (.aload_n 0, 1) := by decide +kernel
theorem dX0_rulerAhead_1 : decode cX0_rulerAhead 1 = .ok (.getfield 18, 3) := by decide +kernel
theorem dX0_rulerAhead_4 : decode cX0_rulerAhead 4 = .ok (.aload_n 2, 1) := by decide +kernel
theorem dX0_rulerAhead_5 : decode cX0_rulerAhead 5 = .ok (.invokevirtual 25, 3) := by decide +kernel
theorem dX0_rulerAhead_8 : decode cX0_rulerAhead 8 = .ok (.iconst 0, 1) := by decide +kernel
theorem dX0_rulerAhead_9 : decode cX0_rulerAhead 9 = .ok (.istore 4, 2) := by decide +kernel
theorem dX0_rulerAhead_11 : decode cX0_rulerAhead 11 = .ok (.iload 4, 2) := by decide +kernel
theorem dX0_rulerAhead_13 : decode cX0_rulerAhead 13 = .ok (.iload_n 3, 1) := by decide +kernel
theorem dX0_rulerAhead_14 : decode cX0_rulerAhead 14 = .ok (.if_icmp .ge 18, 3) := by decide +kernel
theorem dX0_rulerAhead_17 : decode cX0_rulerAhead 17 = .ok (.aload_n 0, 1) := by decide +kernel
theorem dX0_rulerAhead_18 : decode cX0_rulerAhead 18 = .ok (.getfield 18, 3) := by decide +kernel
theorem dX0_rulerAhead_21 : decode cX0_rulerAhead 21 = .ok (.aload_n 1, 1) := by decide +kernel
theorem dX0_rulerAhead_22 : decode cX0_rulerAhead 22 = .ok (.invokevirtual 29, 3) := by decide +kernel
theorem dX0_rulerAhead_25 : decode cX0_rulerAhead 25 = .ok (.pop, 1) := by decide +kernel
theorem dX0_rulerAhead_26 : decode cX0_rulerAhead 26 = .ok (.iinc 4 1, 3) := by decide +kernel
theorem dX0_rulerAhead_29 : decode cX0_rulerAhead 29 = .ok (.goto (-18), 3) := by decide +kernel
theorem dX0_rulerAhead_32 : decode cX0_rulerAhead 32 = .ok (.aload_n 0, 1) := by decide +kernel
theorem dX0_rulerAhead_33 : decode cX0_rulerAhead 33 = .ok (.getfield 18, 3) := by decide +kernel
theorem dX0_rulerAhead_36 : decode cX0_rulerAhead 36 = .ok (.aload_n 1, 1) := by decide +kernel
theorem dX0_rulerAhead_37 : decode cX0_rulerAhead 37 = .ok (.invokevirtual 29, 3) := by decide +kernel
theorem dX0_rulerAhead_40 : decode cX0_rulerAhead 40 = .ok (.ireturn, 1) := by decide +kernel
theorem dX0_leastRing_0 : decode cX0_leastRing 0 = .ok (.aload_n 0, 1) := by decide +kernel
theorem dX0_leastRing_1 : decode cX0_leastRing 1 = .ok (.getfield 18, 3) := by decide +kernel
theorem dX0_leastRing_4 : decode cX0_leastRing 4 = .ok (.aload_n 2, 1) := by decide +kernel
theorem dX0_leastRing_5 : decode cX0_leastRing 5 = .ok (.invokevirtual 25, 3) := by decide +kernel
theorem dX0_leastRing_8 : decode cX0_leastRing 8 = .ok (.iconst 0, 1) := by decide +kernel
theorem dX0_leastRing_9 : decode cX0_leastRing 9 = .ok (.istore_n 3, 1) := by decide +kernel
theorem dX0_leastRing_10 : decode cX0_leastRing 10 = .ok (.iload_n 3, 1) := by decide +kernel
theorem dX0_leastRing_11 : decode cX0_leastRing 11 = .ok (.bipush 20, 2) := by decide +kernel
theorem dX0_leastRing_13 : decode cX0_leastRing 13 = .ok (.if_icmp .ge 18, 3) := by decide +kernel
theorem dX0_leastRing_16 : decode cX0_leastRing 16 = .ok (.aload_n 0, 1) := by decide +kernel
theorem dX0_leastRing_17 : decode cX0_leastRing 17 = .ok (.getfield 18, 3) := by decide +kernel
theorem dX0_leastRing_20 : decode cX0_leastRing 20 = .ok (.aload_n 1, 1) := by decide +kernel
theorem dX0_leastRing_21 : decode cX0_leastRing 21 = .ok (.invokevirtual 29, 3) := by decide +kernel
theorem dX0_leastRing_24 : decode cX0_leastRing 24 = .ok (.pop, 1) := by decide +kernel
theorem dX0_leastRing_25 : decode cX0_leastRing 25 = .ok (.iinc 3 1, 3) := by decide +kernel
theorem dX0_leastRing_28 : decode cX0_leastRing 28 = .ok (.goto (-18), 3) := by decide +kernel
theorem dX0_leastRing_31 : decode cX0_leastRing 31 = .ok (.iconst 0, 1) := by decide +kernel
theorem dX0_leastRing_32 : decode cX0_leastRing 32 = .ok (.istore_n 3, 1) := by decide +kernel
theorem dX0_leastRing_33 : decode cX0_leastRing 33 = .ok (.iload_n 3, 1) := by decide +kernel
theorem dX0_leastRing_34 : decode cX0_leastRing 34 = .ok (.bipush 20, 2) := by decide +kernel
theorem dX0_leastRing_36 : decode cX0_leastRing 36 = .ok (.if_icmp .ge 25, 3) := by decide +kernel
theorem dX0_leastRing_39 : decode cX0_leastRing 39 = .ok (.aload_n 0, 1) := by decide +kernel
theorem dX0_leastRing_40 : decode cX0_leastRing 40 = .ok (.getfield 22, 3) := by decide +kernel
theorem dX0_leastRing_43 : decode cX0_leastRing 43 = .ok (.iload_n 3, 1) := by decide +kernel
theorem dX0_leastRing_44 : decode cX0_leastRing 44 = .ok (.aload_n 0, 1) := by decide +kernel
theorem dX0_leastRing_45 : decode cX0_leastRing 45 = .ok (.getfield 18, 3) := by decide +kernel
theorem dX0_leastRing_48 : decode cX0_leastRing 48 = .ok (.aload_n 1, 1) := by decide +kernel
theorem dX0_leastRing_49 : decode cX0_leastRing 49 = .ok (.invokevirtual 29, 3) := by decide +kernel
theorem dX0_leastRing_52 : decode cX0_leastRing 52 = .ok (.invokestatic 33, 3) := by decide +kernel
theorem dX0_leastRing_55 : decode cX0_leastRing 55 = .ok (.iinc 3 1, 3) := by decide +kernel
theorem dX0_leastRing_58 : decode cX0_leastRing 58 = .ok (.goto (-25), 3) := by decide +kernel
theorem dX0_leastRing_61 : decode cX0_leastRing 61 = .ok (.iconst 1, 1) := by decide +kernel
theorem dX0_leastRing_62 : decode cX0_leastRing 62 = .ok (.istore_n 3, 1) := by decide +kernel
theorem dX0_leastRing_63 : decode cX0_leastRing 63 = .ok (.iload_n 3, 1) := by decide +kernel
theorem dX0_leastRing_64 : decode cX0_leastRing 64 = .ok (.bipush 10, 2) := by decide +kernel
theorem dX0_leastRing_66 : decode cX0_leastRing 66 = .ok (.if_icmp .gt 19, 3) := by decide +kernel
theorem dX0_leastRing_69 : decode cX0_leastRing 69 = .ok (.aload_n 0, 1) := by decide +kernel
theorem dX0_leastRing_70 : decode cX0_leastRing 70 = .ok (.iload_n 3, 1) := by decide +kernel
theorem dX0_leastRing_71 : decode cX0_leastRing 71 = .ok (.invokevirtual 37, 3) := by decide +kernel
theorem dX0_leastRing_74 : decode cX0_leastRing 74 = .ok (.ifCond .eq 5, 3) := by decide +kernel
theorem dX0_leastRing_77 : decode cX0_leastRing 77 = .ok (.iload_n 3, 1) := by decide +kernel
theorem dX0_leastRing_78 : decode cX0_leastRing 78 = .ok (.ireturn, 1) := by decide +kernel
theorem dX0_leastRing_79 : decode cX0_leastRing 79 = .ok (.iinc 3 1, 3) := by decide +kernel
theorem dX0_leastRing_82 : decode cX0_leastRing 82 = .ok (.goto (-19), 3) := by decide +kernel
theorem dX0_leastRing_85 : decode cX0_leastRing 85 = .ok (.bipush (-9), 2) := by decide +kernel
theorem dX0_leastRing_87 : decode cX0_leastRing 87 = .ok (.ireturn, 1) := by decide +kernel
theorem dX0_isRing_0 : decode cX0_isRing 0 = .ok (.iload_n 1, 1) := by decide +kernel
theorem dX0_isRing_1 : decode cX0_isRing 1 = .ok (.istore_n 2, 1) := by decide +kernel
theorem dX0_isRing_2 : decode cX0_isRing 2 = .ok (.iload_n 2, 1) := by decide +kernel
theorem dX0_isRing_3 : decode cX0_isRing 3 = .ok (.bipush 20, 2) := by decide +kernel
theorem dX0_isRing_5 : decode cX0_isRing 5 = .ok (.if_icmp .ge 32, 3) := by decide +kernel
theorem dX0_isRing_8 : decode cX0_isRing 8 = .ok (.aload_n 0, 1) := by decide +kernel
theorem dX0_isRing_9 : decode cX0_isRing 9 = .ok (.getfield 22, 3) := by decide +kernel
theorem dX0_isRing_12 : decode cX0_isRing 12 = .ok (.iload_n 2, 1) := by decide +kernel
theorem dX0_isRing_13 : decode cX0_isRing 13 = .ok (.invokestatic 41, 3) := by decide +kernel
theorem dX0_isRing_16 : decode cX0_isRing 16 = .ok (.aload_n 0, 1) := by decide +kernel
theorem dX0_isRing_17 : decode cX0_isRing 17 = .ok (.getfield 22, 3) := by decide +kernel
theorem dX0_isRing_20 : decode cX0_isRing 20 = .ok (.iload_n 2, 1) := by decide +kernel
theorem dX0_isRing_21 : decode cX0_isRing 21 = .ok (.iload_n 1, 1) := by decide +kernel
theorem dX0_isRing_22 : decode cX0_isRing 22 = .ok (.isub, 1) := by decide +kernel
theorem dX0_isRing_23 : decode cX0_isRing 23 = .ok (.invokestatic 41, 3) := by decide +kernel
theorem dX0_isRing_26 : decode cX0_isRing 26 = .ok (.if_icmp .eq 5, 3) := by decide +kernel
theorem dX0_isRing_29 : decode cX0_isRing 29 = .ok (.iconst 0, 1) := by decide +kernel
theorem dX0_isRing_30 : decode cX0_isRing 30 = .ok (.ireturn, 1) := by decide +kernel
theorem dX0_isRing_31 : decode cX0_isRing 31 = .ok (.iinc 2 1, 3) := by decide +kernel
theorem dX0_isRing_34 : decode cX0_isRing 34 = .ok (.goto (-32), 3) := by decide +kernel
theorem dX0_isRing_37 : decode cX0_isRing 37 = .ok (.iconst 1, 1) := by decide +kernel
theorem dX0_isRing_38 : decode cX0_isRing 38 = .ok (.ireturn, 1) := by decide +kernel
theorem dX0_fewestPairs_0 : decode cX0_fewestPairs 0 = .ok (.aload_n 0, 1) := by decide +kernel
theorem dX0_fewestPairs_1 : decode cX0_fewestPairs 1 = .ok (.getfield 18, 3) := by decide +kernel
theorem dX0_fewestPairs_4 : decode cX0_fewestPairs 4 = .ok (.aload_n 2, 1) := by decide +kernel
theorem dX0_fewestPairs_5 : decode cX0_fewestPairs 5 = .ok (.invokevirtual 25, 3) := by decide +kernel
theorem dX0_fewestPairs_8 : decode cX0_fewestPairs 8 = .ok (.iconst 0, 1) := by decide +kernel
theorem dX0_fewestPairs_9 : decode cX0_fewestPairs 9 = .ok (.istore 5, 2) := by decide +kernel
theorem dX0_fewestPairs_11 : decode cX0_fewestPairs 11 = .ok (.iload 5, 2) := by decide +kernel
theorem dX0_fewestPairs_13 : decode cX0_fewestPairs 13 = .ok (.iconst 3, 1) := by decide +kernel
theorem dX0_fewestPairs_14 : decode cX0_fewestPairs 14 = .ok (.if_icmp .gt 26, 3) := by decide +kernel
theorem dX0_fewestPairs_17 : decode cX0_fewestPairs 17 = .ok (.aload_n 0, 1) := by decide +kernel
theorem dX0_fewestPairs_18 : decode cX0_fewestPairs 18 = .ok (.aload_n 1, 1) := by decide +kernel
theorem dX0_fewestPairs_19 : decode cX0_fewestPairs 19 = .ok (.iload_n 3, 1) := by decide +kernel
theorem dX0_fewestPairs_20 : decode cX0_fewestPairs 20 = .ok (.iload 4, 2) := by decide +kernel
theorem dX0_fewestPairs_22 : decode cX0_fewestPairs 22 = .ok (.iload 5, 2) := by decide +kernel
theorem dX0_fewestPairs_24 : decode cX0_fewestPairs 24 = .ok (.iconst 1, 1) := by decide +kernel
theorem dX0_fewestPairs_25 : decode cX0_fewestPairs 25 = .ok (.invokevirtual 45, 3) := by decide +kernel
theorem dX0_fewestPairs_28 : decode cX0_fewestPairs 28 = .ok (.ifCond .eq 6, 3) := by decide +kernel
theorem dX0_fewestPairs_31 : decode cX0_fewestPairs 31 = .ok (.iload 5, 2) := by decide +kernel
theorem dX0_fewestPairs_33 : decode cX0_fewestPairs 33 = .ok (.ireturn, 1) := by decide +kernel
theorem dX0_fewestPairs_34 : decode cX0_fewestPairs 34 = .ok (.iinc 5 1, 3) := by decide +kernel
theorem dX0_fewestPairs_37 : decode cX0_fewestPairs 37 = .ok (.goto (-26), 3) := by decide +kernel
theorem dX0_fewestPairs_40 : decode cX0_fewestPairs 40 = .ok (.bipush (-9), 2) := by decide +kernel
theorem dX0_fewestPairs_42 : decode cX0_fewestPairs 42 = .ok (.ireturn, 1) := by decide +kernel
theorem dX0_bringsAbout_0 : decode cX0_bringsAbout 0 = .ok (.iload 4, 2) := by decide +kernel
theorem dX0_bringsAbout_2 : decode cX0_bringsAbout 2 = .ok (.ifCond .gt 30, 3) := by decide +kernel
theorem dX0_bringsAbout_5 : decode cX0_bringsAbout 5 = .ok (.aload_n 1, 1) := by decide +kernel
theorem dX0_bringsAbout_6 : decode cX0_bringsAbout 6 = .ok (.aload_n 0, 1) := by decide +kernel
theorem dX0_bringsAbout_7 : decode cX0_bringsAbout 7 = .ok (.getfield 18, 3) := by decide +kernel
theorem dX0_bringsAbout_10 : decode cX0_bringsAbout 10 = .ok (.invokevirtual 49, 3) := by decide +kernel
theorem dX0_bringsAbout_13 : decode cX0_bringsAbout 13 = .ok (.iload_n 2, 1) := by decide +kernel
theorem dX0_bringsAbout_14 : decode cX0_bringsAbout 14 = .ok (.if_icmp .ne 7, 3) := by decide +kernel
theorem dX0_bringsAbout_17 : decode cX0_bringsAbout 17 = .ok (.iconst 1, 1) := by decide +kernel
theorem dX0_bringsAbout_18 : decode cX0_bringsAbout 18 = .ok (.goto 4, 3) := by decide +kernel
theorem dX0_bringsAbout_21 : decode cX0_bringsAbout 21 = .ok (.iconst 0, 1) := by decide +kernel
theorem dX0_bringsAbout_22 : decode cX0_bringsAbout 22 = .ok (.iload_n 3, 1) := by decide +kernel
theorem dX0_bringsAbout_23 : decode cX0_bringsAbout 23 = .ok (.if_icmp .ne 7, 3) := by decide +kernel
theorem dX0_bringsAbout_26 : decode cX0_bringsAbout 26 = .ok (.iconst 1, 1) := by decide +kernel
theorem dX0_bringsAbout_27 : decode cX0_bringsAbout 27 = .ok (.goto 4, 3) := by decide +kernel
theorem dX0_bringsAbout_30 : decode cX0_bringsAbout 30 = .ok (.iconst 0, 1) := by decide +kernel
theorem dX0_bringsAbout_31 : decode cX0_bringsAbout 31 = .ok (.ireturn, 1) := by decide +kernel
theorem dX0_bringsAbout_32 : decode cX0_bringsAbout 32 = .ok (.iload 5, 2) := by decide +kernel
theorem dX0_bringsAbout_34 : decode cX0_bringsAbout 34 = .ok (.istore 6, 2) := by decide +kernel
theorem dX0_bringsAbout_36 : decode cX0_bringsAbout 36 = .ok (.iload 6, 2) := by decide +kernel
theorem dX0_bringsAbout_38 : decode cX0_bringsAbout 38 = .ok (.bipush 68, 2) := by decide +kernel
theorem dX0_bringsAbout_40 : decode cX0_bringsAbout 40 = .ok (.if_icmp .ge 154, 3) := by decide +kernel
theorem dX0_bringsAbout_43 : decode cX0_bringsAbout 43 = .ok (.iload 6, 2) := by decide +kernel
theorem dX0_bringsAbout_45 : decode cX0_bringsAbout 45 = .ok (.bipush 10, 2) := by decide +kernel
theorem dX0_bringsAbout_47 : decode cX0_bringsAbout 47 = .ok (.idiv, 1) := by decide +kernel
theorem dX0_bringsAbout_48 : decode cX0_bringsAbout 48 = .ok (.istore 7, 2) := by decide +kernel
theorem dX0_bringsAbout_50 : decode cX0_bringsAbout 50 = .ok (.iload 6, 2) := by decide +kernel
theorem dX0_bringsAbout_52 : decode cX0_bringsAbout 52 = .ok (.bipush 10, 2) := by decide +kernel
theorem dX0_bringsAbout_54 : decode cX0_bringsAbout 54 = .ok (.irem, 1) := by decide +kernel
theorem dX0_bringsAbout_55 : decode cX0_bringsAbout 55 = .ok (.istore 8, 2) := by decide +kernel
theorem dX0_bringsAbout_57 : decode cX0_bringsAbout 57 = .ok (.iload 7, 2) := by decide +kernel
theorem dX0_bringsAbout_59 : decode cX0_bringsAbout 59 = .ok (.iload 8, 2) := by decide +kernel
theorem dX0_bringsAbout_61 : decode cX0_bringsAbout 61 = .ok (.if_icmp .ge 127, 3) := by decide +kernel
theorem dX0_bringsAbout_64 : decode cX0_bringsAbout 64 = .ok (.iload 8, 2) := by decide +kernel
theorem dX0_bringsAbout_66 : decode cX0_bringsAbout 66 = .ok (.aload_n 1, 1) := by decide +kernel
theorem dX0_bringsAbout_67 : decode cX0_bringsAbout 67 = .ok (.getfield 55, 3) := by decide +kernel
theorem dX0_bringsAbout_70 : decode cX0_bringsAbout 70 = .ok (.if_icmp .lt 6, 3) := by decide +kernel
theorem dX0_bringsAbout_73 : decode cX0_bringsAbout 73 = .ok (.goto 115, 3) := by decide +kernel
theorem dX0_bringsAbout_76 : decode cX0_bringsAbout 76 = .ok (.aload_n 0, 1) := by decide +kernel
theorem dX0_bringsAbout_77 : decode cX0_bringsAbout 77 = .ok (.getfield 18, 3) := by decide +kernel
theorem dX0_bringsAbout_80 : decode cX0_bringsAbout 80 = .ok (.getfield 59, 3) := by decide +kernel
theorem dX0_bringsAbout_83 : decode cX0_bringsAbout 83 = .ok (.iload 7, 2) := by decide +kernel
theorem dX0_bringsAbout_85 : decode cX0_bringsAbout 85 = .ok (.invokestatic 41, 3) := by decide +kernel
theorem dX0_bringsAbout_88 : decode cX0_bringsAbout 88 = .ok (.istore 9, 2) := by decide +kernel
theorem dX0_bringsAbout_90 : decode cX0_bringsAbout 90 = .ok (.aload_n 0, 1) := by decide +kernel
theorem dX0_bringsAbout_91 : decode cX0_bringsAbout 91 = .ok (.getfield 18, 3) := by decide +kernel
theorem dX0_bringsAbout_94 : decode cX0_bringsAbout 94 = .ok (.getfield 59, 3) := by decide +kernel
theorem dX0_bringsAbout_97 : decode cX0_bringsAbout 97 = .ok (.iload 8, 2) := by decide +kernel
theorem dX0_bringsAbout_99 : decode cX0_bringsAbout 99 = .ok (.invokestatic 41, 3) := by decide +kernel
theorem dX0_bringsAbout_102 : decode cX0_bringsAbout 102 = .ok (.istore 10, 2) := by decide +kernel
theorem dX0_bringsAbout_104 : decode cX0_bringsAbout 104 = .ok (.aload_n 0, 1) := by decide +kernel
theorem dX0_bringsAbout_105 : decode cX0_bringsAbout 105 = .ok (.getfield 18, 3) := by decide +kernel
theorem dX0_bringsAbout_108 : decode cX0_bringsAbout 108 = .ok (.iload 7, 2) := by decide +kernel
theorem dX0_bringsAbout_110 : decode cX0_bringsAbout 110 = .ok (.iload 9, 2) := by decide +kernel
theorem dX0_bringsAbout_112 : decode cX0_bringsAbout 112 = .ok (.iconst 1, 1) := by decide +kernel
theorem dX0_bringsAbout_113 : decode cX0_bringsAbout 113 = .ok (.iload 8, 2) := by decide +kernel
theorem dX0_bringsAbout_115 : decode cX0_bringsAbout 115 = .ok (.ishl, 1) := by decide +kernel
theorem dX0_bringsAbout_116 : decode cX0_bringsAbout 116 = .ok (.ior, 1) := by decide +kernel
theorem dX0_bringsAbout_117 : decode cX0_bringsAbout 117 = .ok (.invokevirtual 62, 3) := by decide +kernel
theorem dX0_bringsAbout_120 : decode cX0_bringsAbout 120 = .ok (.aload_n 0, 1) := by decide +kernel
theorem dX0_bringsAbout_121 : decode cX0_bringsAbout 121 = .ok (.getfield 18, 3) := by decide +kernel
theorem dX0_bringsAbout_124 : decode cX0_bringsAbout 124 = .ok (.iload 8, 2) := by decide +kernel
theorem dX0_bringsAbout_126 : decode cX0_bringsAbout 126 = .ok (.iload 10, 2) := by decide +kernel
theorem dX0_bringsAbout_128 : decode cX0_bringsAbout 128 = .ok (.iconst 1, 1) := by decide +kernel
theorem dX0_bringsAbout_129 : decode cX0_bringsAbout 129 = .ok (.iload 7, 2) := by decide +kernel
theorem dX0_bringsAbout_131 : decode cX0_bringsAbout 131 = .ok (.ishl, 1) := by decide +kernel
theorem dX0_bringsAbout_132 : decode cX0_bringsAbout 132 = .ok (.ior, 1) := by decide +kernel
theorem dX0_bringsAbout_133 : decode cX0_bringsAbout 133 = .ok (.invokevirtual 62, 3) := by decide +kernel
theorem dX0_bringsAbout_136 : decode cX0_bringsAbout 136 = .ok (.aload_n 0, 1) := by decide +kernel
theorem dX0_bringsAbout_137 : decode cX0_bringsAbout 137 = .ok (.aload_n 1, 1) := by decide +kernel
theorem dX0_bringsAbout_138 : decode cX0_bringsAbout 138 = .ok (.iload_n 2, 1) := by decide +kernel
theorem dX0_bringsAbout_139 : decode cX0_bringsAbout 139 = .ok (.iload_n 3, 1) := by decide +kernel
theorem dX0_bringsAbout_140 : decode cX0_bringsAbout 140 = .ok (.iload 4, 2) := by decide +kernel
theorem dX0_bringsAbout_142 : decode cX0_bringsAbout 142 = .ok (.iconst 1, 1) := by decide +kernel
theorem dX0_bringsAbout_143 : decode cX0_bringsAbout 143 = .ok (.isub, 1) := by decide +kernel
theorem dX0_bringsAbout_144 : decode cX0_bringsAbout 144 = .ok (.iload 6, 2) := by decide +kernel
theorem dX0_bringsAbout_146 : decode cX0_bringsAbout 146 = .ok (.iconst 1, 1) := by decide +kernel
theorem dX0_bringsAbout_147 : decode cX0_bringsAbout 147 = .ok (.iadd, 1) := by decide +kernel
theorem dX0_bringsAbout_148 : decode cX0_bringsAbout 148 = .ok (.invokevirtual 45, 3) := by decide +kernel
theorem dX0_bringsAbout_151 : decode cX0_bringsAbout 151 = .ok (.istore 11, 2) := by decide +kernel
theorem dX0_bringsAbout_153 : decode cX0_bringsAbout 153 = .ok (.aload_n 0, 1) := by decide +kernel
theorem dX0_bringsAbout_154 : decode cX0_bringsAbout 154 = .ok (.getfield 18, 3) := by decide +kernel
theorem dX0_bringsAbout_157 : decode cX0_bringsAbout 157 = .ok (.iload 7, 2) := by decide +kernel
theorem dX0_bringsAbout_159 : decode cX0_bringsAbout 159 = .ok (.iload 9, 2) := by decide +kernel
theorem dX0_bringsAbout_161 : decode cX0_bringsAbout 161 = .ok (.invokevirtual 62, 3) := by decide +kernel
theorem dX0_bringsAbout_164 : decode cX0_bringsAbout 164 = .ok (.aload_n 0, 1) := by decide +kernel
theorem dX0_bringsAbout_165 : decode cX0_bringsAbout 165 = .ok (.getfield 18, 3) := by decide +kernel
theorem dX0_bringsAbout_168 : decode cX0_bringsAbout 168 = .ok (.iload 8, 2) := by decide +kernel
theorem dX0_bringsAbout_170 : decode cX0_bringsAbout 170 = .ok (.iload 10, 2) := by decide +kernel
theorem dX0_bringsAbout_172 : decode cX0_bringsAbout 172 = .ok (.invokevirtual 62, 3) := by decide +kernel
theorem dX0_bringsAbout_175 : decode cX0_bringsAbout 175 = .ok (.iload 11, 2) := by decide +kernel
theorem dX0_bringsAbout_177 : decode cX0_bringsAbout 177 = .ok (.ifCond .eq 11, 3) := by decide +kernel
theorem dX0_bringsAbout_180 : decode cX0_bringsAbout 180 = .ok (.aload_n 0, 1) := by decide +kernel
theorem dX0_bringsAbout_181 : decode cX0_bringsAbout 181 = .ok (.iload 6, 2) := by decide +kernel
theorem dX0_bringsAbout_183 : decode cX0_bringsAbout 183 = .ok (.invokevirtual 66, 3) := by decide +kernel
theorem dX0_bringsAbout_186 : decode cX0_bringsAbout 186 = .ok (.iconst 1, 1) := by decide +kernel
theorem dX0_bringsAbout_187 : decode cX0_bringsAbout 187 = .ok (.ireturn, 1) := by decide +kernel
theorem dX0_bringsAbout_188 : decode cX0_bringsAbout 188 = .ok (.iinc 6 1, 3) := by decide +kernel
theorem dX0_bringsAbout_191 : decode cX0_bringsAbout 191 = .ok (.goto (-155), 3) := by decide +kernel
theorem dX0_bringsAbout_194 : decode cX0_bringsAbout 194 = .ok (.iconst 0, 1) := by decide +kernel
theorem dX0_bringsAbout_195 : decode cX0_bringsAbout 195 = .ok (.ireturn, 1) := by decide +kernel
theorem dX0_noteInFront_0 : decode cX0_noteInFront 0 = .ok (.iconst 2, 1) := by decide +kernel
theorem dX0_noteInFront_1 : decode cX0_noteInFront 1 = .ok (.istore_n 2, 1) := by decide +kernel
theorem dX0_noteInFront_2 : decode cX0_noteInFront 2 = .ok (.iload_n 2, 1) := by decide +kernel
theorem dX0_noteInFront_3 : decode cX0_noteInFront 3 = .ok (.ifCond .le 27, 3) := by decide +kernel
theorem dX0_noteInFront_6 : decode cX0_noteInFront 6 = .ok (.aload_n 0, 1) := by decide +kernel
theorem dX0_noteInFront_7 : decode cX0_noteInFront 7 = .ok (.getfield 9, 3) := by decide +kernel
theorem dX0_noteInFront_10 : decode cX0_noteInFront 10 = .ok (.iload_n 2, 1) := by decide +kernel
theorem dX0_noteInFront_11 : decode cX0_noteInFront 11 = .ok (.aload_n 0, 1) := by decide +kernel
theorem dX0_noteInFront_12 : decode cX0_noteInFront 12 = .ok (.getfield 9, 3) := by decide +kernel
theorem dX0_noteInFront_15 : decode cX0_noteInFront 15 = .ok (.iload_n 2, 1) := by decide +kernel
theorem dX0_noteInFront_16 : decode cX0_noteInFront 16 = .ok (.iconst 1, 1) := by decide +kernel
theorem dX0_noteInFront_17 : decode cX0_noteInFront 17 = .ok (.isub, 1) := by decide +kernel
theorem dX0_noteInFront_18 : decode cX0_noteInFront 18 = .ok (.invokestatic 41, 3) := by decide +kernel
theorem dX0_noteInFront_21 : decode cX0_noteInFront 21 = .ok (.invokestatic 33, 3) := by decide +kernel
theorem dX0_noteInFront_24 : decode cX0_noteInFront 24 = .ok (.iinc 2 (-1), 3) := by decide +kernel
theorem dX0_noteInFront_27 : decode cX0_noteInFront 27 = .ok (.goto (-25), 3) := by decide +kernel
theorem dX0_noteInFront_30 : decode cX0_noteInFront 30 = .ok (.aload_n 0, 1) := by decide +kernel
theorem dX0_noteInFront_31 : decode cX0_noteInFront 31 = .ok (.getfield 9, 3) := by decide +kernel
theorem dX0_noteInFront_34 : decode cX0_noteInFront 34 = .ok (.iconst 0, 1) := by decide +kernel
theorem dX0_noteInFront_35 : decode cX0_noteInFront 35 = .ok (.iload_n 1, 1) := by decide +kernel
theorem dX0_noteInFront_36 : decode cX0_noteInFront 36 = .ok (.invokestatic 33, 3) := by decide +kernel
theorem dX0_noteInFront_39 : decode cX0_noteInFront 39 = .ok (.return_, 1) := by decide +kernel
theorem dX0_lastDays_0 : decode cX0_lastDays 0 = .ok (.aload_n 0, 1) := by decide +kernel
theorem dX0_lastDays_1 : decode cX0_lastDays 1 = .ok (.getfield 18, 3) := by decide +kernel
theorem dX0_lastDays_4 : decode cX0_lastDays 4 = .ok (.aload_n 2, 1) := by decide +kernel
theorem dX0_lastDays_5 : decode cX0_lastDays 5 = .ok (.invokevirtual 25, 3) := by decide +kernel
theorem dX0_lastDays_8 : decode cX0_lastDays 8 = .ok (.aload_n 0, 1) := by decide +kernel
theorem dX0_lastDays_9 : decode cX0_lastDays 9 = .ok (.bipush (-9), 2) := by decide +kernel
theorem dX0_lastDays_11 : decode cX0_lastDays 11 = .ok (.putfield 70, 3) := by decide +kernel
theorem dX0_lastDays_14 : decode cX0_lastDays 14 = .ok (.aload_n 0, 1) := by decide +kernel
theorem dX0_lastDays_15 : decode cX0_lastDays 15 = .ok (.aload_n 1, 1) := by decide +kernel
theorem dX0_lastDays_16 : decode cX0_lastDays 16 = .ok (.iload 4, 2) := by decide +kernel
theorem dX0_lastDays_18 : decode cX0_lastDays 18 = .ok (.iload 5, 2) := by decide +kernel
theorem dX0_lastDays_20 : decode cX0_lastDays 20 = .ok (.iconst 0, 1) := by decide +kernel
theorem dX0_lastDays_21 : decode cX0_lastDays 21 = .ok (.iload_n 3, 1) := by decide +kernel
theorem dX0_lastDays_22 : decode cX0_lastDays 22 = .ok (.iconst 3, 1) := by decide +kernel
theorem dX0_lastDays_23 : decode cX0_lastDays 23 = .ok (.invokestatic 73, 3) := by decide +kernel
theorem dX0_lastDays_26 : decode cX0_lastDays 26 = .ok (.invokevirtual 79, 3) := by decide +kernel
theorem dX0_lastDays_29 : decode cX0_lastDays 29 = .ok (.ireturn, 1) := by decide +kernel
theorem dX0_outcome_0 : decode cX0_outcome 0 = .ok (.iload 4, 2) := by decide +kernel
theorem dX0_outcome_2 : decode cX0_outcome 2 = .ok (.iload 5, 2) := by decide +kernel
theorem dX0_outcome_4 : decode cX0_outcome 4 = .ok (.if_icmp .ge 11, 3) := by decide +kernel
theorem dX0_outcome_7 : decode cX0_outcome 7 = .ok (.aload_n 1, 1) := by decide +kernel
theorem dX0_outcome_8 : decode cX0_outcome 8 = .ok (.getfield 55, 3) := by decide +kernel
theorem dX0_outcome_11 : decode cX0_outcome 11 = .ok (.iconst 1, 1) := by decide +kernel
theorem dX0_outcome_12 : decode cX0_outcome 12 = .ok (.if_icmp .ge 12, 3) := by decide +kernel
theorem dX0_outcome_15 : decode cX0_outcome 15 = .ok (.aload_n 1, 1) := by decide +kernel
theorem dX0_outcome_16 : decode cX0_outcome 16 = .ok (.aload_n 0, 1) := by decide +kernel
theorem dX0_outcome_17 : decode cX0_outcome 17 = .ok (.getfield 18, 3) := by decide +kernel
theorem dX0_outcome_20 : decode cX0_outcome 20 = .ok (.invokevirtual 49, 3) := by decide +kernel
theorem dX0_outcome_23 : decode cX0_outcome 23 = .ok (.ireturn, 1) := by decide +kernel
theorem dX0_outcome_24 : decode cX0_outcome 24 = .ok (.iload_n 2, 1) := by decide +kernel
theorem dX0_outcome_25 : decode cX0_outcome 25 = .ok (.iload 4, 2) := by decide +kernel
theorem dX0_outcome_27 : decode cX0_outcome 27 = .ok (.iadd, 1) := by decide +kernel
theorem dX0_outcome_28 : decode cX0_outcome 28 = .ok (.aload_n 1, 1) := by decide +kernel
theorem dX0_outcome_29 : decode cX0_outcome 29 = .ok (.getfield 55, 3) := by decide +kernel
theorem dX0_outcome_32 : decode cX0_outcome 32 = .ok (.irem, 1) := by decide +kernel
theorem dX0_outcome_33 : decode cX0_outcome 33 = .ok (.istore 6, 2) := by decide +kernel
theorem dX0_outcome_35 : decode cX0_outcome 35 = .ok (.aload_n 0, 1) := by decide +kernel
theorem dX0_outcome_36 : decode cX0_outcome 36 = .ok (.aload_n 1, 1) := by decide +kernel
theorem dX0_outcome_37 : decode cX0_outcome 37 = .ok (.iload_n 2, 1) := by decide +kernel
theorem dX0_outcome_38 : decode cX0_outcome 38 = .ok (.iload_n 3, 1) := by decide +kernel
theorem dX0_outcome_39 : decode cX0_outcome 39 = .ok (.iload 4, 2) := by decide +kernel
theorem dX0_outcome_41 : decode cX0_outcome 41 = .ok (.iconst 1, 1) := by decide +kernel
theorem dX0_outcome_42 : decode cX0_outcome 42 = .ok (.iadd, 1) := by decide +kernel
theorem dX0_outcome_43 : decode cX0_outcome 43 = .ok (.iload 5, 2) := by decide +kernel
theorem dX0_outcome_45 : decode cX0_outcome 45 = .ok (.invokevirtual 79, 3) := by decide +kernel
theorem dX0_outcome_48 : decode cX0_outcome 48 = .ok (.istore 7, 2) := by decide +kernel
theorem dX0_outcome_50 : decode cX0_outcome 50 = .ok (.iload 7, 2) := by decide +kernel
theorem dX0_outcome_52 : decode cX0_outcome 52 = .ok (.iload 6, 2) := by decide +kernel
theorem dX0_outcome_54 : decode cX0_outcome 54 = .ok (.if_icmp .ne 7, 3) := by decide +kernel
theorem dX0_outcome_57 : decode cX0_outcome 57 = .ok (.iconst 1, 1) := by decide +kernel
theorem dX0_outcome_58 : decode cX0_outcome 58 = .ok (.goto 4, 3) := by decide +kernel
theorem dX0_outcome_61 : decode cX0_outcome 61 = .ok (.iconst 0, 1) := by decide +kernel
theorem dX0_outcome_62 : decode cX0_outcome 62 = .ok (.iload_n 3, 1) := by decide +kernel
theorem dX0_outcome_63 : decode cX0_outcome 63 = .ok (.if_icmp .ne 6, 3) := by decide +kernel
theorem dX0_outcome_66 : decode cX0_outcome 66 = .ok (.iload 7, 2) := by decide +kernel
theorem dX0_outcome_68 : decode cX0_outcome 68 = .ok (.ireturn, 1) := by decide +kernel
theorem dX0_outcome_69 : decode cX0_outcome 69 = .ok (.iconst 0, 1) := by decide +kernel
theorem dX0_outcome_70 : decode cX0_outcome 70 = .ok (.istore 8, 2) := by decide +kernel
theorem dX0_outcome_72 : decode cX0_outcome 72 = .ok (.iload 8, 2) := by decide +kernel
theorem dX0_outcome_74 : decode cX0_outcome 74 = .ok (.aload_n 1, 1) := by decide +kernel
theorem dX0_outcome_75 : decode cX0_outcome 75 = .ok (.getfield 55, 3) := by decide +kernel
theorem dX0_outcome_78 : decode cX0_outcome 78 = .ok (.if_icmp .ge 146, 3) := by decide +kernel
theorem dX0_outcome_81 : decode cX0_outcome 81 = .ok (.iload 8, 2) := by decide +kernel
theorem dX0_outcome_83 : decode cX0_outcome 83 = .ok (.iload 6, 2) := by decide +kernel
theorem dX0_outcome_85 : decode cX0_outcome 85 = .ok (.if_icmp .ne 6, 3) := by decide +kernel
theorem dX0_outcome_88 : decode cX0_outcome 88 = .ok (.goto 130, 3) := by decide +kernel
theorem dX0_outcome_91 : decode cX0_outcome 91 = .ok (.aload_n 0, 1) := by decide +kernel
theorem dX0_outcome_92 : decode cX0_outcome 92 = .ok (.getfield 18, 3) := by decide +kernel
theorem dX0_outcome_95 : decode cX0_outcome 95 = .ok (.getfield 59, 3) := by decide +kernel
theorem dX0_outcome_98 : decode cX0_outcome 98 = .ok (.iload 6, 2) := by decide +kernel
theorem dX0_outcome_100 : decode cX0_outcome 100 = .ok (.invokestatic 41, 3) := by decide +kernel
theorem dX0_outcome_103 : decode cX0_outcome 103 = .ok (.istore 9, 2) := by decide +kernel
theorem dX0_outcome_105 : decode cX0_outcome 105 = .ok (.aload_n 0, 1) := by decide +kernel
theorem dX0_outcome_106 : decode cX0_outcome 106 = .ok (.getfield 18, 3) := by decide +kernel
theorem dX0_outcome_109 : decode cX0_outcome 109 = .ok (.getfield 59, 3) := by decide +kernel
theorem dX0_outcome_112 : decode cX0_outcome 112 = .ok (.iload 8, 2) := by decide +kernel
theorem dX0_outcome_114 : decode cX0_outcome 114 = .ok (.invokestatic 41, 3) := by decide +kernel
theorem dX0_outcome_117 : decode cX0_outcome 117 = .ok (.istore 10, 2) := by decide +kernel
theorem dX0_outcome_119 : decode cX0_outcome 119 = .ok (.aload_n 0, 1) := by decide +kernel
theorem dX0_outcome_120 : decode cX0_outcome 120 = .ok (.getfield 18, 3) := by decide +kernel
theorem dX0_outcome_123 : decode cX0_outcome 123 = .ok (.iload 6, 2) := by decide +kernel
theorem dX0_outcome_125 : decode cX0_outcome 125 = .ok (.iload 9, 2) := by decide +kernel
theorem dX0_outcome_127 : decode cX0_outcome 127 = .ok (.iconst 1, 1) := by decide +kernel
theorem dX0_outcome_128 : decode cX0_outcome 128 = .ok (.iload 8, 2) := by decide +kernel
theorem dX0_outcome_130 : decode cX0_outcome 130 = .ok (.ishl, 1) := by decide +kernel
theorem dX0_outcome_131 : decode cX0_outcome 131 = .ok (.ior, 1) := by decide +kernel
theorem dX0_outcome_132 : decode cX0_outcome 132 = .ok (.invokevirtual 62, 3) := by decide +kernel
theorem dX0_outcome_135 : decode cX0_outcome 135 = .ok (.aload_n 0, 1) := by decide +kernel
theorem dX0_outcome_136 : decode cX0_outcome 136 = .ok (.getfield 18, 3) := by decide +kernel
theorem dX0_outcome_139 : decode cX0_outcome 139 = .ok (.iload 8, 2) := by decide +kernel
theorem dX0_outcome_141 : decode cX0_outcome 141 = .ok (.iload 10, 2) := by decide +kernel
theorem dX0_outcome_143 : decode cX0_outcome 143 = .ok (.iconst 1, 1) := by decide +kernel
theorem dX0_outcome_144 : decode cX0_outcome 144 = .ok (.iload 6, 2) := by decide +kernel
theorem dX0_outcome_146 : decode cX0_outcome 146 = .ok (.ishl, 1) := by decide +kernel
theorem dX0_outcome_147 : decode cX0_outcome 147 = .ok (.ior, 1) := by decide +kernel
theorem dX0_outcome_148 : decode cX0_outcome 148 = .ok (.invokevirtual 62, 3) := by decide +kernel
theorem dX0_outcome_151 : decode cX0_outcome 151 = .ok (.aload_n 0, 1) := by decide +kernel
theorem dX0_outcome_152 : decode cX0_outcome 152 = .ok (.aload_n 1, 1) := by decide +kernel
theorem dX0_outcome_153 : decode cX0_outcome 153 = .ok (.iload_n 2, 1) := by decide +kernel
theorem dX0_outcome_154 : decode cX0_outcome 154 = .ok (.iload_n 3, 1) := by decide +kernel
theorem dX0_outcome_155 : decode cX0_outcome 155 = .ok (.iload 4, 2) := by decide +kernel
theorem dX0_outcome_157 : decode cX0_outcome 157 = .ok (.iconst 1, 1) := by decide +kernel
theorem dX0_outcome_158 : decode cX0_outcome 158 = .ok (.iadd, 1) := by decide +kernel
theorem dX0_outcome_159 : decode cX0_outcome 159 = .ok (.iload 5, 2) := by decide +kernel
theorem dX0_outcome_161 : decode cX0_outcome 161 = .ok (.invokevirtual 79, 3) := by decide +kernel
theorem dX0_outcome_164 : decode cX0_outcome 164 = .ok (.istore 11, 2) := by decide +kernel
theorem dX0_outcome_166 : decode cX0_outcome 166 = .ok (.aload_n 0, 1) := by decide +kernel
theorem dX0_outcome_167 : decode cX0_outcome 167 = .ok (.getfield 18, 3) := by decide +kernel
theorem dX0_outcome_170 : decode cX0_outcome 170 = .ok (.iload 6, 2) := by decide +kernel
theorem dX0_outcome_172 : decode cX0_outcome 172 = .ok (.iload 9, 2) := by decide +kernel
theorem dX0_outcome_174 : decode cX0_outcome 174 = .ok (.invokevirtual 62, 3) := by decide +kernel
theorem dX0_outcome_177 : decode cX0_outcome 177 = .ok (.aload_n 0, 1) := by decide +kernel
theorem dX0_outcome_178 : decode cX0_outcome 178 = .ok (.getfield 18, 3) := by decide +kernel
theorem dX0_outcome_181 : decode cX0_outcome 181 = .ok (.iload 8, 2) := by decide +kernel
theorem dX0_outcome_183 : decode cX0_outcome 183 = .ok (.iload 10, 2) := by decide +kernel
theorem dX0_outcome_185 : decode cX0_outcome 185 = .ok (.invokevirtual 62, 3) := by decide +kernel
theorem dX0_outcome_188 : decode cX0_outcome 188 = .ok (.iload 11, 2) := by decide +kernel
theorem dX0_outcome_190 : decode cX0_outcome 190 = .ok (.iload 6, 2) := by decide +kernel
theorem dX0_outcome_192 : decode cX0_outcome 192 = .ok (.if_icmp .ne 7, 3) := by decide +kernel
theorem dX0_outcome_195 : decode cX0_outcome 195 = .ok (.iconst 1, 1) := by decide +kernel
theorem dX0_outcome_196 : decode cX0_outcome 196 = .ok (.goto 4, 3) := by decide +kernel
theorem dX0_outcome_199 : decode cX0_outcome 199 = .ok (.iconst 0, 1) := by decide +kernel
theorem dX0_outcome_200 : decode cX0_outcome 200 = .ok (.iload_n 3, 1) := by decide +kernel
theorem dX0_outcome_201 : decode cX0_outcome 201 = .ok (.if_icmp .ne 17, 3) := by decide +kernel
theorem dX0_outcome_204 : decode cX0_outcome 204 = .ok (.iload 4, 2) := by decide +kernel
theorem dX0_outcome_206 : decode cX0_outcome 206 = .ok (.ifCond .ne 9, 3) := by decide +kernel
theorem dX0_outcome_209 : decode cX0_outcome 209 = .ok (.aload_n 0, 1) := by decide +kernel
theorem dX0_outcome_210 : decode cX0_outcome 210 = .ok (.iload 8, 2) := by decide +kernel
theorem dX0_outcome_212 : decode cX0_outcome 212 = .ok (.putfield 70, 3) := by decide +kernel
theorem dX0_outcome_215 : decode cX0_outcome 215 = .ok (.iload 11, 2) := by decide +kernel
theorem dX0_outcome_217 : decode cX0_outcome 217 = .ok (.ireturn, 1) := by decide +kernel
theorem dX0_outcome_218 : decode cX0_outcome 218 = .ok (.iinc 8 1, 3) := by decide +kernel
theorem dX0_outcome_221 : decode cX0_outcome 221 = .ok (.goto (-149), 3) := by decide +kernel
theorem dX0_outcome_224 : decode cX0_outcome 224 = .ok (.iload 7, 2) := by decide +kernel
theorem dX0_outcome_226 : decode cX0_outcome 226 = .ok (.ireturn, 1) := by decide +kernel
theorem dX1_init_0 : decode cX1_init 0 = .ok (.aload_n 0, 1) := by decide +kernel
theorem dX1_init_1 : decode cX1_init 1 = .ok (.invokespecial 1, 3) := by decide +kernel
theorem dX1_init_4 : decode cX1_init 4 = .ok (.aload_n 0, 1) := by decide +kernel
theorem dX1_init_5 : decode cX1_init 5 = .ok (.new 7, 3) := by decide +kernel
theorem dX1_init_8 : decode cX1_init 8 = .ok (.dup, 1) := by decide +kernel
theorem dX1_init_9 : decode cX1_init 9 = .ok (.invokespecial 9, 3) := by decide +kernel
theorem dX1_init_12 : decode cX1_init 12 = .ok (.putfield 10, 3) := by decide +kernel
theorem dX1_init_15 : decode cX1_init 15 = .ok (.return_, 1) := by decide +kernel
theorem dX2_init_0 : decode cX2_init 0 = .ok (.aload_n 0, 1) := by decide +kernel
theorem dX2_init_1 : decode cX2_init 1 = .ok (.invokespecial 3, 3) := by decide +kernel
theorem dX2_init_4 : decode cX2_init 4 = .ok (.aload_n 0, 1) := by decide +kernel
theorem dX2_init_5 : decode cX2_init 5 = .ok (.bipush 8, 2) := by decide +kernel
theorem dX2_init_7 : decode cX2_init 7 = .ok (.newarray .int, 2) := by decide +kernel
theorem dX2_init_9 : decode cX2_init 9 = .ok (.putfield 9, 3) := by decide +kernel
theorem dX2_init_12 : decode cX2_init 12 = .ok (.aload_n 0, 1) := by decide +kernel
theorem dX2_init_13 : decode cX2_init 13 = .ok (.bipush 8, 2) := by decide +kernel
theorem dX2_init_15 : decode cX2_init 15 = .ok (.newarray .int, 2) := by decide +kernel
theorem dX2_init_17 : decode cX2_init 17 = .ok (.putfield 15, 3) := by decide +kernel
theorem dX2_init_20 : decode cX2_init 20 = .ok (.aload_n 0, 1) := by decide +kernel
theorem dX2_init_21 : decode cX2_init 21 = .ok (.bipush 64, 2) := by decide +kernel
theorem dX2_init_23 : decode cX2_init 23 = .ok (.newarray .int, 2) := by decide +kernel
theorem dX2_init_25 : decode cX2_init 25 = .ok (.putfield 18, 3) := by decide +kernel
theorem dX2_init_28 : decode cX2_init 28 = .ok (.aload_n 0, 1) := by decide +kernel
theorem dX2_init_29 : decode cX2_init 29 = .ok (.bipush 8, 2) := by decide +kernel
theorem dX2_init_31 : decode cX2_init 31 = .ok (.newarray .int, 2) := by decide +kernel
theorem dX2_init_33 : decode cX2_init 33 = .ok (.putfield 21, 3) := by decide +kernel
theorem dX2_init_36 : decode cX2_init 36 = .ok (.return_, 1) := by decide +kernel
theorem dX2_begin_0 : decode cX2_begin 0 = .ok (.iconst 0, 1) := by decide +kernel
theorem dX2_begin_1 : decode cX2_begin 1 = .ok (.istore_n 2, 1) := by decide +kernel
theorem dX2_begin_2 : decode cX2_begin 2 = .ok (.iload_n 2, 1) := by decide +kernel
theorem dX2_begin_3 : decode cX2_begin 3 = .ok (.bipush 8, 2) := by decide +kernel
theorem dX2_begin_5 : decode cX2_begin 5 = .ok (.if_icmp .ge 22, 3) := by decide +kernel
theorem dX2_begin_8 : decode cX2_begin 8 = .ok (.aload_n 0, 1) := by decide +kernel
theorem dX2_begin_9 : decode cX2_begin 9 = .ok (.iload_n 2, 1) := by decide +kernel
theorem dX2_begin_10 : decode cX2_begin 10 = .ok (.aload_n 1, 1) := by decide +kernel
theorem dX2_begin_11 : decode cX2_begin 11 = .ok (.getfield 24, 3) := by decide +kernel
theorem dX2_begin_14 : decode cX2_begin 14 = .ok (.iload_n 2, 1) := by decide +kernel
theorem dX2_begin_15 : decode cX2_begin 15 = .ok (.invokestatic 27, 3) := by decide +kernel
theorem dX2_begin_18 : decode cX2_begin 18 = .ok (.invokevirtual 31, 3) := by decide +kernel
theorem dX2_begin_21 : decode cX2_begin 21 = .ok (.iinc 2 1, 3) := by decide +kernel
theorem dX2_begin_24 : decode cX2_begin 24 = .ok (.goto (-22), 3) := by decide +kernel
theorem dX2_begin_27 : decode cX2_begin 27 = .ok (.aload_n 0, 1) := by decide +kernel
theorem dX2_begin_28 : decode cX2_begin 28 = .ok (.getfield 18, 3) := by decide +kernel
theorem dX2_begin_31 : decode cX2_begin 31 = .ok (.iconst (-1), 1) := by decide +kernel
theorem dX2_begin_32 : decode cX2_begin 32 = .ok (.invokestatic 35, 3) := by decide +kernel
theorem dX2_begin_35 : decode cX2_begin 35 = .ok (.aload_n 0, 1) := by decide +kernel
theorem dX2_begin_36 : decode cX2_begin 36 = .ok (.getfield 21, 3) := by decide +kernel
theorem dX2_begin_39 : decode cX2_begin 39 = .ok (.iconst 0, 1) := by decide +kernel
theorem dX2_begin_40 : decode cX2_begin 40 = .ok (.invokestatic 35, 3) := by decide +kernel
theorem dX2_begin_43 : decode cX2_begin 43 = .ok (.aload_n 0, 1) := by decide +kernel
theorem dX2_begin_44 : decode cX2_begin 44 = .ok (.iconst 0, 1) := by decide +kernel
theorem dX2_begin_45 : decode cX2_begin 45 = .ok (.putfield 39, 3) := by decide +kernel
theorem dX2_begin_48 : decode cX2_begin 48 = .ok (.aload_n 0, 1) := by decide +kernel
theorem dX2_begin_49 : decode cX2_begin 49 = .ok (.iconst 0, 1) := by decide +kernel
theorem dX2_begin_50 : decode cX2_begin 50 = .ok (.putfield 43, 3) := by decide +kernel
theorem dX2_begin_53 : decode cX2_begin 53 = .ok (.aload_n 0, 1) := by decide +kernel
theorem dX2_begin_54 : decode cX2_begin 54 = .ok (.bipush (-9), 2) := by decide +kernel
theorem dX2_begin_56 : decode cX2_begin 56 = .ok (.putfield 46, 3) := by decide +kernel
theorem dX2_begin_59 : decode cX2_begin 59 = .ok (.return_, 1) := by decide +kernel
theorem dX2_copyFrom_0 : decode cX2_copyFrom 0 = .ok (.aload_n 1, 1) := by decide +kernel
theorem dX2_copyFrom_1 : decode cX2_copyFrom 1 = .ok (.getfield 9, 3) := by decide +kernel
theorem dX2_copyFrom_4 : decode cX2_copyFrom 4 = .ok (.aload_n 0, 1) := by decide +kernel
theorem dX2_copyFrom_5 : decode cX2_copyFrom 5 = .ok (.getfield 9, 3) := by decide +kernel
theorem dX2_copyFrom_8 : decode cX2_copyFrom 8 = .ok (.invokestatic 49, 3) := by decide +kernel
theorem dX2_copyFrom_11 : decode cX2_copyFrom 11 = .ok (.aload_n 1, 1) := by decide +kernel
theorem dX2_copyFrom_12 : decode cX2_copyFrom 12 = .ok (.getfield 15, 3) := by decide +kernel
theorem dX2_copyFrom_15 : decode cX2_copyFrom 15 = .ok (.aload_n 0, 1) := by decide +kernel
theorem dX2_copyFrom_16 : decode cX2_copyFrom 16 = .ok (.getfield 15, 3) := by decide +kernel
theorem dX2_copyFrom_19 : decode cX2_copyFrom 19 = .ok (.invokestatic 49, 3) := by decide +kernel
theorem dX2_copyFrom_22 : decode cX2_copyFrom 22 = .ok (.aload_n 1, 1) := by decide +kernel
theorem dX2_copyFrom_23 : decode cX2_copyFrom 23 = .ok (.getfield 18, 3) := by decide +kernel
theorem dX2_copyFrom_26 : decode cX2_copyFrom 26 = .ok (.aload_n 0, 1) := by decide +kernel
theorem dX2_copyFrom_27 : decode cX2_copyFrom 27 = .ok (.getfield 18, 3) := by decide +kernel
theorem dX2_copyFrom_30 : decode cX2_copyFrom 30 = .ok (.invokestatic 49, 3) := by decide +kernel
theorem dX2_copyFrom_33 : decode cX2_copyFrom 33 = .ok (.aload_n 1, 1) := by decide +kernel
theorem dX2_copyFrom_34 : decode cX2_copyFrom 34 = .ok (.getfield 21, 3) := by decide +kernel
theorem dX2_copyFrom_37 : decode cX2_copyFrom 37 = .ok (.aload_n 0, 1) := by decide +kernel
theorem dX2_copyFrom_38 : decode cX2_copyFrom 38 = .ok (.getfield 21, 3) := by decide +kernel
theorem dX2_copyFrom_41 : decode cX2_copyFrom 41 = .ok (.invokestatic 49, 3) := by decide +kernel
theorem dX2_copyFrom_44 : decode cX2_copyFrom 44 = .ok (.aload_n 0, 1) := by decide +kernel
theorem dX2_copyFrom_45 : decode cX2_copyFrom 45 = .ok (.aload_n 1, 1) := by decide +kernel
theorem dX2_copyFrom_46 : decode cX2_copyFrom 46 = .ok (.getfield 39, 3) := by decide +kernel
theorem dX2_copyFrom_49 : decode cX2_copyFrom 49 = .ok (.putfield 39, 3) := by decide +kernel
theorem dX2_copyFrom_52 : decode cX2_copyFrom 52 = .ok (.aload_n 0, 1) := by decide +kernel
theorem dX2_copyFrom_53 : decode cX2_copyFrom 53 = .ok (.aload_n 1, 1) := by decide +kernel
theorem dX2_copyFrom_54 : decode cX2_copyFrom 54 = .ok (.getfield 43, 3) := by decide +kernel
theorem dX2_copyFrom_57 : decode cX2_copyFrom 57 = .ok (.putfield 43, 3) := by decide +kernel
theorem dX2_copyFrom_60 : decode cX2_copyFrom 60 = .ok (.aload_n 0, 1) := by decide +kernel
theorem dX2_copyFrom_61 : decode cX2_copyFrom 61 = .ok (.aload_n 1, 1) := by decide +kernel
theorem dX2_copyFrom_62 : decode cX2_copyFrom 62 = .ok (.getfield 46, 3) := by decide +kernel
theorem dX2_copyFrom_65 : decode cX2_copyFrom 65 = .ok (.putfield 46, 3) := by decide +kernel
theorem dX2_copyFrom_68 : decode cX2_copyFrom 68 = .ok (.return_, 1) := by decide +kernel
theorem dX2_setKnowers_0 : decode cX2_setKnowers 0 = .ok (.aload_n 0, 1) := by decide +kernel
theorem dX2_setKnowers_1 : decode cX2_setKnowers 1 = .ok (.getfield 9, 3) := by decide +kernel
theorem dX2_setKnowers_4 : decode cX2_setKnowers 4 = .ok (.iload_n 1, 1) := by decide +kernel
theorem dX2_setKnowers_5 : decode cX2_setKnowers 5 = .ok (.iload_n 2, 1) := by decide +kernel
theorem dX2_setKnowers_6 : decode cX2_setKnowers 6 = .ok (.invokestatic 53, 3) := by decide +kernel
theorem dX2_setKnowers_9 : decode cX2_setKnowers 9 = .ok (.aload_n 0, 1) := by decide +kernel
theorem dX2_setKnowers_10 : decode cX2_setKnowers 10 = .ok (.getfield 15, 3) := by decide +kernel
theorem dX2_setKnowers_13 : decode cX2_setKnowers 13 = .ok (.iload_n 1, 1) := by decide +kernel
theorem dX2_setKnowers_14 : decode cX2_setKnowers 14 = .ok (.iload_n 2, 1) := by decide +kernel
theorem dX2_setKnowers_15 : decode cX2_setKnowers 15 = .ok (.invokestatic 57, 3) := by decide +kernel
theorem dX2_setKnowers_18 : decode cX2_setKnowers 18 = .ok (.invokestatic 53, 3) := by decide +kernel
theorem dX2_setKnowers_21 : decode cX2_setKnowers 21 = .ok (.return_, 1) := by decide +kernel
theorem dX2_isAware_0 : decode cX2_isAware 0 = .ok (.aload_n 0, 1) := by decide +kernel
theorem dX2_isAware_1 : decode cX2_isAware 1 = .ok (.getfield 9, 3) := by decide +kernel
theorem dX2_isAware_4 : decode cX2_isAware 4 = .ok (.iload_n 2, 1) := by decide +kernel
theorem dX2_isAware_5 : decode cX2_isAware 5 = .ok (.invokestatic 27, 3) := by decide +kernel
theorem dX2_isAware_8 : decode cX2_isAware 8 = .ok (.iload_n 1, 1) := by decide +kernel
theorem dX2_isAware_9 : decode cX2_isAware 9 = .ok (.ishr, 1) := by decide +kernel
theorem dX2_isAware_10 : decode cX2_isAware 10 = .ok (.iconst 1, 1) := by decide +kernel
theorem dX2_isAware_11 : decode cX2_isAware 11 = .ok (.iand, 1) := by decide +kernel
theorem dX2_isAware_12 : decode cX2_isAware 12 = .ok (.iconst 1, 1) := by decide +kernel
theorem dX2_isAware_13 : decode cX2_isAware 13 = .ok (.if_icmp .ne 7, 3) := by decide +kernel
theorem dX2_isAware_16 : decode cX2_isAware 16 = .ok (.iconst 1, 1) := by decide +kernel
theorem dX2_isAware_17 : decode cX2_isAware 17 = .ok (.goto 4, 3) := by decide +kernel
theorem dX2_isAware_20 : decode cX2_isAware 20 = .ok (.iconst 0, 1) := by decide +kernel
theorem dX2_isAware_21 : decode cX2_isAware 21 = .ok (.ireturn, 1) := by decide +kernel
theorem dX2_sight_0 : decode cX2_sight 0 = .ok (.aload_n 0, 1) := by decide +kernel
theorem dX2_sight_1 : decode cX2_sight 1 = .ok (.getfield 18, 3) := by decide +kernel
theorem dX2_sight_4 : decode cX2_sight 4 = .ok (.iload_n 1, 1) := by decide +kernel
theorem dX2_sight_5 : decode cX2_sight 5 = .ok (.bipush 8, 2) := by decide +kernel
theorem dX2_sight_7 : decode cX2_sight 7 = .ok (.imul, 1) := by decide +kernel
theorem dX2_sight_8 : decode cX2_sight 8 = .ok (.iload_n 2, 1) := by decide +kernel
theorem dX2_sight_9 : decode cX2_sight 9 = .ok (.iadd, 1) := by decide +kernel
theorem dX2_sight_10 : decode cX2_sight 10 = .ok (.invokestatic 27, 3) := by decide +kernel
theorem dX2_sight_13 : decode cX2_sight 13 = .ok (.ireturn, 1) := by decide +kernel
theorem dX2_learn_0 : decode cX2_learn 0 = .ok (.aload_n 0, 1) := by decide +kernel
theorem dX2_learn_1 : decode cX2_learn 1 = .ok (.iload_n 1, 1) := by decide +kernel
theorem dX2_learn_2 : decode cX2_learn 2 = .ok (.iload_n 2, 1) := by decide +kernel
theorem dX2_learn_3 : decode cX2_learn 3 = .ok (.invokevirtual 63, 3) := by decide +kernel
theorem dX2_learn_6 : decode cX2_learn 6 = .ok (.ifCond .eq 7, 3) := by decide +kernel
theorem dX2_learn_9 : decode cX2_learn 9 = .ok (.iconst 0, 1) := by decide +kernel
theorem dX2_learn_10 : decode cX2_learn 10 = .ok (.goto 4, 3) := by decide +kernel
theorem dX2_learn_13 : decode cX2_learn 13 = .ok (.iconst 1, 1) := by decide +kernel
theorem dX2_learn_14 : decode cX2_learn 14 = .ok (.istore_n 3, 1) := by decide +kernel
theorem dX2_learn_15 : decode cX2_learn 15 = .ok (.aload_n 0, 1) := by decide +kernel
theorem dX2_learn_16 : decode cX2_learn 16 = .ok (.iload_n 2, 1) := by decide +kernel
theorem dX2_learn_17 : decode cX2_learn 17 = .ok (.aload_n 0, 1) := by decide +kernel
theorem dX2_learn_18 : decode cX2_learn 18 = .ok (.getfield 9, 3) := by decide +kernel
theorem dX2_learn_21 : decode cX2_learn 21 = .ok (.iload_n 2, 1) := by decide +kernel
theorem dX2_learn_22 : decode cX2_learn 22 = .ok (.invokestatic 27, 3) := by decide +kernel
theorem dX2_learn_25 : decode cX2_learn 25 = .ok (.iconst 1, 1) := by decide +kernel
theorem dX2_learn_26 : decode cX2_learn 26 = .ok (.iload_n 1, 1) := by decide +kernel
theorem dX2_learn_27 : decode cX2_learn 27 = .ok (.ishl, 1) := by decide +kernel
theorem dX2_learn_28 : decode cX2_learn 28 = .ok (.ior, 1) := by decide +kernel
theorem dX2_learn_29 : decode cX2_learn 29 = .ok (.invokevirtual 31, 3) := by decide +kernel
theorem dX2_learn_32 : decode cX2_learn 32 = .ok (.aload_n 0, 1) := by decide +kernel
theorem dX2_learn_33 : decode cX2_learn 33 = .ok (.getfield 18, 3) := by decide +kernel
theorem dX2_learn_36 : decode cX2_learn 36 = .ok (.iload_n 1, 1) := by decide +kernel
theorem dX2_learn_37 : decode cX2_learn 37 = .ok (.bipush 8, 2) := by decide +kernel
theorem dX2_learn_39 : decode cX2_learn 39 = .ok (.imul, 1) := by decide +kernel
theorem dX2_learn_40 : decode cX2_learn 40 = .ok (.iload_n 2, 1) := by decide +kernel
theorem dX2_learn_41 : decode cX2_learn 41 = .ok (.iadd, 1) := by decide +kernel
theorem dX2_learn_42 : decode cX2_learn 42 = .ok (.aload_n 0, 1) := by decide +kernel
theorem dX2_learn_43 : decode cX2_learn 43 = .ok (.getfield 43, 3) := by decide +kernel
theorem dX2_learn_46 : decode cX2_learn 46 = .ok (.invokestatic 53, 3) := by decide +kernel
theorem dX2_learn_49 : decode cX2_learn 49 = .ok (.iload_n 3, 1) := by decide +kernel
theorem dX2_learn_50 : decode cX2_learn 50 = .ok (.ireturn, 1) := by decide +kernel
theorem dX2_acquaintances_0 : decode cX2_acquaintances 0 = .ok (.iconst 0, 1) := by decide +kernel
theorem dX2_acquaintances_1 : decode cX2_acquaintances 1 = .ok (.istore_n 2, 1) := by decide +kernel
theorem dX2_acquaintances_2 : decode cX2_acquaintances 2 = .ok (.iconst 0, 1) := by decide +kernel
theorem dX2_acquaintances_3 : decode cX2_acquaintances 3 = .ok (.istore_n 3, 1) := by decide +kernel
theorem dX2_acquaintances_4 : decode cX2_acquaintances 4 = .ok (.iload_n 3, 1) := by decide +kernel
theorem dX2_acquaintances_5 : decode cX2_acquaintances 5 = .ok (.bipush 8, 2) := by decide +kernel
theorem dX2_acquaintances_7 : decode cX2_acquaintances 7 = .ok (.if_icmp .ge 21, 3) := by decide +kernel
theorem dX2_acquaintances_10 : decode cX2_acquaintances 10 = .ok (.aload_n 0, 1) := by decide +kernel
theorem dX2_acquaintances_11 : decode cX2_acquaintances 11 = .ok (.iload_n 1, 1) := by decide +kernel
theorem dX2_acquaintances_12 : decode cX2_acquaintances 12 = .ok (.iload_n 3, 1) := by decide +kernel
theorem dX2_acquaintances_13 : decode cX2_acquaintances 13 = .ok (.invokevirtual 63, 3) := by decide +kernel
theorem dX2_acquaintances_16 : decode cX2_acquaintances 16 = .ok (.ifCond .eq 6, 3) := by decide +kernel
theorem dX2_acquaintances_19 : decode cX2_acquaintances 19 = .ok (.iinc 2 1, 3) := by decide +kernel
theorem dX2_acquaintances_22 : decode cX2_acquaintances 22 = .ok (.iinc 3 1, 3) := by decide +kernel
theorem dX2_acquaintances_25 : decode cX2_acquaintances 25 = .ok (.goto (-21), 3) := by decide +kernel
theorem dX2_acquaintances_28 : decode cX2_acquaintances 28 = .ok (.iload_n 2, 1) := by decide +kernel
theorem dX2_acquaintances_29 : decode cX2_acquaintances 29 = .ok (.ireturn, 1) := by decide +kernel
theorem dX2_allCounts_0 : decode cX2_allCounts 0 = .ok (.iconst 0, 1) := by decide +kernel
theorem dX2_allCounts_1 : decode cX2_allCounts 1 = .ok (.istore_n 1, 1) := by decide +kernel
theorem dX2_allCounts_2 : decode cX2_allCounts 2 = .ok (.iconst 0, 1) := by decide +kernel
theorem dX2_allCounts_3 : decode cX2_allCounts 3 = .ok (.istore_n 2, 1) := by decide +kernel
theorem dX2_allCounts_4 : decode cX2_allCounts 4 = .ok (.iload_n 2, 1) := by decide +kernel
theorem dX2_allCounts_5 : decode cX2_allCounts 5 = .ok (.bipush 8, 2) := by decide +kernel
theorem dX2_allCounts_7 : decode cX2_allCounts 7 = .ok (.if_icmp .ge 20, 3) := by decide +kernel
theorem dX2_allCounts_10 : decode cX2_allCounts 10 = .ok (.iload_n 1, 1) := by decide +kernel
theorem dX2_allCounts_11 : decode cX2_allCounts 11 = .ok (.aload_n 0, 1) := by decide +kernel
theorem dX2_allCounts_12 : decode cX2_allCounts 12 = .ok (.getfield 15, 3) := by decide +kernel
theorem dX2_allCounts_15 : decode cX2_allCounts 15 = .ok (.iload_n 2, 1) := by decide +kernel
theorem dX2_allCounts_16 : decode cX2_allCounts 16 = .ok (.invokestatic 27, 3) := by decide +kernel
theorem dX2_allCounts_19 : decode cX2_allCounts 19 = .ok (.iadd, 1) := by decide +kernel
theorem dX2_allCounts_20 : decode cX2_allCounts 20 = .ok (.istore_n 1, 1) := by decide +kernel
theorem dX2_allCounts_21 : decode cX2_allCounts 21 = .ok (.iinc 2 1, 3) := by decide +kernel
theorem dX2_allCounts_24 : decode cX2_allCounts 24 = .ok (.goto (-20), 3) := by decide +kernel
theorem dX2_allCounts_27 : decode cX2_allCounts 27 = .ok (.iload_n 1, 1) := by decide +kernel
theorem dX2_allCounts_28 : decode cX2_allCounts 28 = .ok (.ireturn, 1) := by decide +kernel
theorem dX2_spring_0 : decode cX2_spring 0 = .ok (.iconst 0, 1) := by decide +kernel
theorem dX2_spring_1 : decode cX2_spring 1 = .ok (.istore_n 2, 1) := by decide +kernel
theorem dX2_spring_2 : decode cX2_spring 2 = .ok (.iload_n 2, 1) := by decide +kernel
theorem dX2_spring_3 : decode cX2_spring 3 = .ok (.aload_n 1, 1) := by decide +kernel
theorem dX2_spring_4 : decode cX2_spring 4 = .ok (.getfield 67, 3) := by decide +kernel
theorem dX2_spring_7 : decode cX2_spring 7 = .ok (.if_icmp .ge 38, 3) := by decide +kernel
theorem dX2_spring_10 : decode cX2_spring 10 = .ok (.aload_n 1, 1) := by decide +kernel
theorem dX2_spring_11 : decode cX2_spring 11 = .ok (.getfield 70, 3) := by decide +kernel
theorem dX2_spring_14 : decode cX2_spring 14 = .ok (.iload_n 2, 1) := by decide +kernel
theorem dX2_spring_15 : decode cX2_spring 15 = .ok (.invokestatic 27, 3) := by decide +kernel
theorem dX2_spring_18 : decode cX2_spring 18 = .ok (.istore_n 3, 1) := by decide +kernel
theorem dX2_spring_19 : decode cX2_spring 19 = .ok (.iload_n 3, 1) := by decide +kernel
theorem dX2_spring_20 : decode cX2_spring 20 = .ok (.bipush (-9), 2) := by decide +kernel
theorem dX2_spring_22 : decode cX2_spring 22 = .ok (.if_icmp .eq 17, 3) := by decide +kernel
theorem dX2_spring_25 : decode cX2_spring 25 = .ok (.aload_n 0, 1) := by decide +kernel
theorem dX2_spring_26 : decode cX2_spring 26 = .ok (.iload_n 2, 1) := by decide +kernel
theorem dX2_spring_27 : decode cX2_spring 27 = .ok (.iload_n 3, 1) := by decide +kernel
theorem dX2_spring_28 : decode cX2_spring 28 = .ok (.invokevirtual 73, 3) := by decide +kernel
theorem dX2_spring_31 : decode cX2_spring 31 = .ok (.pop, 1) := by decide +kernel
theorem dX2_spring_32 : decode cX2_spring 32 = .ok (.aload_n 0, 1) := by decide +kernel
theorem dX2_spring_33 : decode cX2_spring 33 = .ok (.iload_n 3, 1) := by decide +kernel
theorem dX2_spring_34 : decode cX2_spring 34 = .ok (.iload_n 2, 1) := by decide +kernel
theorem dX2_spring_35 : decode cX2_spring 35 = .ok (.invokevirtual 73, 3) := by decide +kernel
theorem dX2_spring_38 : decode cX2_spring 38 = .ok (.pop, 1) := by decide +kernel
theorem dX2_spring_39 : decode cX2_spring 39 = .ok (.iinc 2 1, 3) := by decide +kernel
theorem dX2_spring_42 : decode cX2_spring 42 = .ok (.goto (-40), 3) := by decide +kernel
theorem dX2_spring_45 : decode cX2_spring 45 = .ok (.aload_n 0, 1) := by decide +kernel
theorem dX2_spring_46 : decode cX2_spring 46 = .ok (.aload_n 1, 1) := by decide +kernel
theorem dX2_spring_47 : decode cX2_spring 47 = .ok (.aload_n 0, 1) := by decide +kernel
theorem dX2_spring_48 : decode cX2_spring 48 = .ok (.invokevirtual 77, 3) := by decide +kernel
theorem dX2_spring_51 : decode cX2_spring 51 = .ok (.aload_n 1, 1) := by decide +kernel
theorem dX2_spring_52 : decode cX2_spring 52 = .ok (.getfield 67, 3) := by decide +kernel
theorem dX2_spring_55 : decode cX2_spring 55 = .ok (.invokevirtual 81, 3) := by decide +kernel
theorem dX2_spring_58 : decode cX2_spring 58 = .ok (.aload_n 1, 1) := by decide +kernel
theorem dX2_spring_59 : decode cX2_spring 59 = .ok (.getfield 84, 3) := by decide +kernel
theorem dX2_spring_62 : decode cX2_spring 62 = .ok (.ifCond .le 8, 3) := by decide +kernel
theorem dX2_spring_65 : decode cX2_spring 65 = .ok (.aload_n 0, 1) := by decide +kernel
theorem dX2_spring_66 : decode cX2_spring 66 = .ok (.aload_n 1, 1) := by decide +kernel
theorem dX2_spring_67 : decode cX2_spring 67 = .ok (.invokevirtual 87, 3) := by decide +kernel
theorem dX2_spring_70 : decode cX2_spring 70 = .ok (.aload_n 0, 1) := by decide +kernel
theorem dX2_spring_71 : decode cX2_spring 71 = .ok (.dup, 1) := by decide +kernel
theorem dX2_spring_72 : decode cX2_spring 72 = .ok (.getfield 43, 3) := by decide +kernel
theorem dX2_spring_75 : decode cX2_spring 75 = .ok (.iconst 1, 1) := by decide +kernel
theorem dX2_spring_76 : decode cX2_spring 76 = .ok (.iadd, 1) := by decide +kernel
theorem dX2_spring_77 : decode cX2_spring 77 = .ok (.putfield 43, 3) := by decide +kernel
theorem dX2_spring_80 : decode cX2_spring 80 = .ok (.aload_n 0, 1) := by decide +kernel
theorem dX2_spring_81 : decode cX2_spring 81 = .ok (.getfield 46, 3) := by decide +kernel
theorem dX2_spring_84 : decode cX2_spring 84 = .ok (.ireturn, 1) := by decide +kernel
theorem dX2_crown_0 : decode cX2_crown 0 = .ok (.iconst 0, 1) := by decide +kernel
theorem dX2_crown_1 : decode cX2_crown 1 = .ok (.istore_n 3, 1) := by decide +kernel
theorem dX2_crown_2 : decode cX2_crown 2 = .ok (.iload_n 3, 1) := by decide +kernel
theorem dX2_crown_3 : decode cX2_crown 3 = .ok (.iload_n 2, 1) := by decide +kernel
theorem dX2_crown_4 : decode cX2_crown 4 = .ok (.if_icmp .ge 21, 3) := by decide +kernel
theorem dX2_crown_7 : decode cX2_crown 7 = .ok (.iload_n 3, 1) := by decide +kernel
theorem dX2_crown_8 : decode cX2_crown 8 = .ok (.iload_n 1, 1) := by decide +kernel
theorem dX2_crown_9 : decode cX2_crown 9 = .ok (.if_icmp .eq 10, 3) := by decide +kernel
theorem dX2_crown_12 : decode cX2_crown 12 = .ok (.aload_n 0, 1) := by decide +kernel
theorem dX2_crown_13 : decode cX2_crown 13 = .ok (.iload_n 3, 1) := by decide +kernel
theorem dX2_crown_14 : decode cX2_crown 14 = .ok (.iload_n 1, 1) := by decide +kernel
theorem dX2_crown_15 : decode cX2_crown 15 = .ok (.invokevirtual 73, 3) := by decide +kernel
theorem dX2_crown_18 : decode cX2_crown 18 = .ok (.pop, 1) := by decide +kernel
theorem dX2_crown_19 : decode cX2_crown 19 = .ok (.iinc 3 1, 3) := by decide +kernel
theorem dX2_crown_22 : decode cX2_crown 22 = .ok (.goto (-20), 3) := by decide +kernel
theorem dX2_crown_25 : decode cX2_crown 25 = .ok (.aload_n 0, 1) := by decide +kernel
theorem dX2_crown_26 : decode cX2_crown 26 = .ok (.getfield 21, 3) := by decide +kernel
theorem dX2_crown_29 : decode cX2_crown 29 = .ok (.iload_n 1, 1) := by decide +kernel
theorem dX2_crown_30 : decode cX2_crown 30 = .ok (.aload_n 0, 1) := by decide +kernel
theorem dX2_crown_31 : decode cX2_crown 31 = .ok (.getfield 21, 3) := by decide +kernel
theorem dX2_crown_34 : decode cX2_crown 34 = .ok (.iload_n 1, 1) := by decide +kernel
theorem dX2_crown_35 : decode cX2_crown 35 = .ok (.invokestatic 27, 3) := by decide +kernel
theorem dX2_crown_38 : decode cX2_crown 38 = .ok (.iconst 1, 1) := by decide +kernel
theorem dX2_crown_39 : decode cX2_crown 39 = .ok (.iadd, 1) := by decide +kernel
theorem dX2_crown_40 : decode cX2_crown 40 = .ok (.invokestatic 53, 3) := by decide +kernel
theorem dX2_crown_43 : decode cX2_crown 43 = .ok (.aload_n 0, 1) := by decide +kernel
theorem dX2_crown_44 : decode cX2_crown 44 = .ok (.dup, 1) := by decide +kernel
theorem dX2_crown_45 : decode cX2_crown 45 = .ok (.getfield 39, 3) := by decide +kernel
theorem dX2_crown_48 : decode cX2_crown 48 = .ok (.iconst 1, 1) := by decide +kernel
theorem dX2_crown_49 : decode cX2_crown 49 = .ok (.iload_n 1, 1) := by decide +kernel
theorem dX2_crown_50 : decode cX2_crown 50 = .ok (.ishl, 1) := by decide +kernel
theorem dX2_crown_51 : decode cX2_crown 51 = .ok (.ior, 1) := by decide +kernel
theorem dX2_crown_52 : decode cX2_crown 52 = .ok (.putfield 39, 3) := by decide +kernel
theorem dX2_crown_55 : decode cX2_crown 55 = .ok (.aload_n 0, 1) := by decide +kernel
theorem dX2_crown_56 : decode cX2_crown 56 = .ok (.iload_n 1, 1) := by decide +kernel
theorem dX2_crown_57 : decode cX2_crown 57 = .ok (.putfield 46, 3) := by decide +kernel
theorem dX2_crown_60 : decode cX2_crown 60 = .ok (.return_, 1) := by decide +kernel
theorem dX2_forget_0 : decode cX2_forget 0 = .ok (.iconst 0, 1) := by decide +kernel
theorem dX2_forget_1 : decode cX2_forget 1 = .ok (.istore_n 2, 1) := by decide +kernel
theorem dX2_forget_2 : decode cX2_forget 2 = .ok (.iload_n 2, 1) := by decide +kernel
theorem dX2_forget_3 : decode cX2_forget 3 = .ok (.aload_n 1, 1) := by decide +kernel
theorem dX2_forget_4 : decode cX2_forget 4 = .ok (.getfield 67, 3) := by decide +kernel
theorem dX2_forget_7 : decode cX2_forget 7 = .ok (.if_icmp .ge 71, 3) := by decide +kernel
theorem dX2_forget_10 : decode cX2_forget 10 = .ok (.iconst 0, 1) := by decide +kernel
theorem dX2_forget_11 : decode cX2_forget 11 = .ok (.istore_n 3, 1) := by decide +kernel
theorem dX2_forget_12 : decode cX2_forget 12 = .ok (.iload_n 3, 1) := by decide +kernel
theorem dX2_forget_13 : decode cX2_forget 13 = .ok (.aload_n 1, 1) := by decide +kernel
theorem dX2_forget_14 : decode cX2_forget 14 = .ok (.getfield 67, 3) := by decide +kernel
theorem dX2_forget_17 : decode cX2_forget 17 = .ok (.if_icmp .ge 55, 3) := by decide +kernel
theorem dX2_forget_20 : decode cX2_forget 20 = .ok (.aload_n 0, 1) := by decide +kernel
theorem dX2_forget_21 : decode cX2_forget 21 = .ok (.iload_n 3, 1) := by decide +kernel
theorem dX2_forget_22 : decode cX2_forget 22 = .ok (.iload_n 2, 1) := by decide +kernel
theorem dX2_forget_23 : decode cX2_forget 23 = .ok (.invokevirtual 63, 3) := by decide +kernel
theorem dX2_forget_26 : decode cX2_forget 26 = .ok (.ifCond .eq 40, 3) := by decide +kernel
theorem dX2_forget_29 : decode cX2_forget 29 = .ok (.aload_n 0, 1) := by decide +kernel
theorem dX2_forget_30 : decode cX2_forget 30 = .ok (.getfield 43, 3) := by decide +kernel
theorem dX2_forget_33 : decode cX2_forget 33 = .ok (.aload_n 0, 1) := by decide +kernel
theorem dX2_forget_34 : decode cX2_forget 34 = .ok (.iload_n 3, 1) := by decide +kernel
theorem dX2_forget_35 : decode cX2_forget 35 = .ok (.iload_n 2, 1) := by decide +kernel
theorem dX2_forget_36 : decode cX2_forget 36 = .ok (.invokevirtual 91, 3) := by decide +kernel
theorem dX2_forget_39 : decode cX2_forget 39 = .ok (.isub, 1) := by decide +kernel
theorem dX2_forget_40 : decode cX2_forget 40 = .ok (.aload_n 1, 1) := by decide +kernel
theorem dX2_forget_41 : decode cX2_forget 41 = .ok (.getfield 84, 3) := by decide +kernel
theorem dX2_forget_44 : decode cX2_forget 44 = .ok (.if_icmp .lt 22, 3) := by decide +kernel
theorem dX2_forget_47 : decode cX2_forget 47 = .ok (.aload_n 0, 1) := by decide +kernel
theorem dX2_forget_48 : decode cX2_forget 48 = .ok (.iload_n 2, 1) := by decide +kernel
theorem dX2_forget_49 : decode cX2_forget 49 = .ok (.aload_n 0, 1) := by decide +kernel
theorem dX2_forget_50 : decode cX2_forget 50 = .ok (.getfield 9, 3) := by decide +kernel
theorem dX2_forget_53 : decode cX2_forget 53 = .ok (.iload_n 2, 1) := by decide +kernel
theorem dX2_forget_54 : decode cX2_forget 54 = .ok (.invokestatic 27, 3) := by decide +kernel
theorem dX2_forget_57 : decode cX2_forget 57 = .ok (.iconst 1, 1) := by decide +kernel
theorem dX2_forget_58 : decode cX2_forget 58 = .ok (.iload_n 3, 1) := by decide +kernel
theorem dX2_forget_59 : decode cX2_forget 59 = .ok (.ishl, 1) := by decide +kernel
theorem dX2_forget_60 : decode cX2_forget 60 = .ok (.iconst (-1), 1) := by decide +kernel
theorem dX2_forget_61 : decode cX2_forget 61 = .ok (.ixor, 1) := by decide +kernel
theorem dX2_forget_62 : decode cX2_forget 62 = .ok (.iand, 1) := by decide +kernel
theorem dX2_forget_63 : decode cX2_forget 63 = .ok (.invokevirtual 31, 3) := by decide +kernel
theorem dX2_forget_66 : decode cX2_forget 66 = .ok (.iinc 3 1, 3) := by decide +kernel
theorem dX2_forget_69 : decode cX2_forget 69 = .ok (.goto (-57), 3) := by decide +kernel
theorem dX2_forget_72 : decode cX2_forget 72 = .ok (.iinc 2 1, 3) := by decide +kernel
theorem dX2_forget_75 : decode cX2_forget 75 = .ok (.goto (-73), 3) := by decide +kernel
theorem dX2_forget_78 : decode cX2_forget 78 = .ok (.return_, 1) := by decide +kernel
theorem dX2_fewestAsks_0 : decode cX2_fewestAsks 0 = .ok (.iconst 0, 1) := by decide +kernel
theorem dX2_fewestAsks_1 : decode cX2_fewestAsks 1 = .ok (.istore 4, 2) := by decide +kernel
theorem dX2_fewestAsks_3 : decode cX2_fewestAsks 3 = .ok (.iconst 0, 1) := by decide +kernel
theorem dX2_fewestAsks_4 : decode cX2_fewestAsks 4 = .ok (.istore 5, 2) := by decide +kernel
theorem dX2_fewestAsks_6 : decode cX2_fewestAsks 6 = .ok (.iconst 0, 1) := by decide +kernel
theorem dX2_fewestAsks_7 : decode cX2_fewestAsks 7 = .ok (.istore 6, 2) := by decide +kernel
theorem dX2_fewestAsks_9 : decode cX2_fewestAsks 9 = .ok (.iload 6, 2) := by decide +kernel
theorem dX2_fewestAsks_11 : decode cX2_fewestAsks 11 = .ok (.iload_n 3, 1) := by decide +kernel
theorem dX2_fewestAsks_12 : decode cX2_fewestAsks 12 = .ok (.if_icmp .ge 64, 3) := by decide +kernel
theorem dX2_fewestAsks_15 : decode cX2_fewestAsks 15 = .ok (.iload_n 3, 1) := by decide +kernel
theorem dX2_fewestAsks_16 : decode cX2_fewestAsks 16 = .ok (.iconst 1, 1) := by decide +kernel
theorem dX2_fewestAsks_17 : decode cX2_fewestAsks 17 = .ok (.isub, 1) := by decide +kernel
theorem dX2_fewestAsks_18 : decode cX2_fewestAsks 18 = .ok (.iload 4, 2) := by decide +kernel
theorem dX2_fewestAsks_20 : decode cX2_fewestAsks 20 = .ok (.isub, 1) := by decide +kernel
theorem dX2_fewestAsks_21 : decode cX2_fewestAsks 21 = .ok (.istore 7, 2) := by decide +kernel
theorem dX2_fewestAsks_23 : decode cX2_fewestAsks 23 = .ok (.iload 5, 2) := by decide +kernel
theorem dX2_fewestAsks_25 : decode cX2_fewestAsks 25 = .ok (.iload_n 2, 1) := by decide +kernel
theorem dX2_fewestAsks_26 : decode cX2_fewestAsks 26 = .ok (.if_icmp .ge 12, 3) := by decide +kernel
theorem dX2_fewestAsks_29 : decode cX2_fewestAsks 29 = .ok (.iload 5, 2) := by decide +kernel
theorem dX2_fewestAsks_31 : decode cX2_fewestAsks 31 = .ok (.iload 7, 2) := by decide +kernel
theorem dX2_fewestAsks_33 : decode cX2_fewestAsks 33 = .ok (.iadd, 1) := by decide +kernel
theorem dX2_fewestAsks_34 : decode cX2_fewestAsks 34 = .ok (.iload_n 2, 1) := by decide +kernel
theorem dX2_fewestAsks_35 : decode cX2_fewestAsks 35 = .ok (.if_icmp .ge 6, 3) := by decide +kernel
theorem dX2_fewestAsks_38 : decode cX2_fewestAsks 38 = .ok (.iload 4, 2) := by decide +kernel
theorem dX2_fewestAsks_40 : decode cX2_fewestAsks 40 = .ok (.ireturn, 1) := by decide +kernel
theorem dX2_fewestAsks_41 : decode cX2_fewestAsks 41 = .ok (.iload 6, 2) := by decide +kernel
theorem dX2_fewestAsks_43 : decode cX2_fewestAsks 43 = .ok (.iload_n 1, 1) := by decide +kernel
theorem dX2_fewestAsks_44 : decode cX2_fewestAsks 44 = .ok (.if_icmp .eq 26, 3) := by decide +kernel
theorem dX2_fewestAsks_47 : decode cX2_fewestAsks 47 = .ok (.iinc 4 1, 3) := by decide +kernel
theorem dX2_fewestAsks_50 : decode cX2_fewestAsks 50 = .ok (.iload 5, 2) := by decide +kernel
theorem dX2_fewestAsks_52 : decode cX2_fewestAsks 52 = .ok (.aload_n 0, 1) := by decide +kernel
theorem dX2_fewestAsks_53 : decode cX2_fewestAsks 53 = .ok (.iload 6, 2) := by decide +kernel
theorem dX2_fewestAsks_55 : decode cX2_fewestAsks 55 = .ok (.iload_n 1, 1) := by decide +kernel
theorem dX2_fewestAsks_56 : decode cX2_fewestAsks 56 = .ok (.invokevirtual 63, 3) := by decide +kernel
theorem dX2_fewestAsks_59 : decode cX2_fewestAsks 59 = .ok (.ifCond .eq 7, 3) := by decide +kernel
theorem dX2_fewestAsks_62 : decode cX2_fewestAsks 62 = .ok (.iconst 1, 1) := by decide +kernel
theorem dX2_fewestAsks_63 : decode cX2_fewestAsks 63 = .ok (.goto 4, 3) := by decide +kernel
theorem dX2_fewestAsks_66 : decode cX2_fewestAsks 66 = .ok (.iconst 0, 1) := by decide +kernel
theorem dX2_fewestAsks_67 : decode cX2_fewestAsks 67 = .ok (.iadd, 1) := by decide +kernel
theorem dX2_fewestAsks_68 : decode cX2_fewestAsks 68 = .ok (.istore 5, 2) := by decide +kernel
theorem dX2_fewestAsks_70 : decode cX2_fewestAsks 70 = .ok (.iinc 6 1, 3) := by decide +kernel
theorem dX2_fewestAsks_73 : decode cX2_fewestAsks 73 = .ok (.goto (-64), 3) := by decide +kernel
theorem dX2_fewestAsks_76 : decode cX2_fewestAsks 76 = .ok (.iload 4, 2) := by decide +kernel
theorem dX2_fewestAsks_78 : decode cX2_fewestAsks 78 = .ok (.ireturn, 1) := by decide +kernel
theorem dX2_isParty_0 : decode cX2_isParty 0 = .ok (.iconst 0, 1) := by decide +kernel
theorem dX2_isParty_1 : decode cX2_isParty 1 = .ok (.istore_n 2, 1) := by decide +kernel
theorem dX2_isParty_2 : decode cX2_isParty 2 = .ok (.iload_n 2, 1) := by decide +kernel
theorem dX2_isParty_3 : decode cX2_isParty 3 = .ok (.bipush 8, 2) := by decide +kernel
theorem dX2_isParty_5 : decode cX2_isParty 5 = .ok (.if_icmp .ge 39, 3) := by decide +kernel
theorem dX2_isParty_8 : decode cX2_isParty 8 = .ok (.iload_n 1, 1) := by decide +kernel
theorem dX2_isParty_9 : decode cX2_isParty 9 = .ok (.iconst 1, 1) := by decide +kernel
theorem dX2_isParty_10 : decode cX2_isParty 10 = .ok (.iload_n 2, 1) := by decide +kernel
theorem dX2_isParty_11 : decode cX2_isParty 11 = .ok (.ishl, 1) := by decide +kernel
theorem dX2_isParty_12 : decode cX2_isParty 12 = .ok (.iconst (-1), 1) := by decide +kernel
theorem dX2_isParty_13 : decode cX2_isParty 13 = .ok (.ixor, 1) := by decide +kernel
theorem dX2_isParty_14 : decode cX2_isParty 14 = .ok (.iand, 1) := by decide +kernel
theorem dX2_isParty_15 : decode cX2_isParty 15 = .ok (.istore_n 3, 1) := by decide +kernel
theorem dX2_isParty_16 : decode cX2_isParty 16 = .ok (.iload_n 3, 1) := by decide +kernel
theorem dX2_isParty_17 : decode cX2_isParty 17 = .ok (.iload_n 1, 1) := by decide +kernel
theorem dX2_isParty_18 : decode cX2_isParty 18 = .ok (.if_icmp .eq 20, 3) := by decide +kernel
theorem dX2_isParty_21 : decode cX2_isParty 21 = .ok (.iload_n 3, 1) := by decide +kernel
theorem dX2_isParty_22 : decode cX2_isParty 22 = .ok (.aload_n 0, 1) := by decide +kernel
theorem dX2_isParty_23 : decode cX2_isParty 23 = .ok (.getfield 9, 3) := by decide +kernel
theorem dX2_isParty_26 : decode cX2_isParty 26 = .ok (.iload_n 2, 1) := by decide +kernel
theorem dX2_isParty_27 : decode cX2_isParty 27 = .ok (.invokestatic 27, 3) := by decide +kernel
theorem dX2_isParty_30 : decode cX2_isParty 30 = .ok (.iconst (-1), 1) := by decide +kernel
theorem dX2_isParty_31 : decode cX2_isParty 31 = .ok (.ixor, 1) := by decide +kernel
theorem dX2_isParty_32 : decode cX2_isParty 32 = .ok (.iand, 1) := by decide +kernel
theorem dX2_isParty_33 : decode cX2_isParty 33 = .ok (.ifCond .eq 5, 3) := by decide +kernel
theorem dX2_isParty_36 : decode cX2_isParty 36 = .ok (.iconst 0, 1) := by decide +kernel
theorem dX2_isParty_37 : decode cX2_isParty 37 = .ok (.ireturn, 1) := by decide +kernel
theorem dX2_isParty_38 : decode cX2_isParty 38 = .ok (.iinc 2 1, 3) := by decide +kernel
theorem dX2_isParty_41 : decode cX2_isParty 41 = .ok (.goto (-39), 3) := by decide +kernel
theorem dX2_isParty_44 : decode cX2_isParty 44 = .ok (.iconst 1, 1) := by decide +kernel
theorem dX2_isParty_45 : decode cX2_isParty 45 = .ok (.ireturn, 1) := by decide +kernel
theorem dX3_init_0 : decode cX3_init 0 = .ok (.aload_n 0, 1) := by decide +kernel
theorem dX3_init_1 : decode cX3_init 1 = .ok (.invokespecial 3, 3) := by decide +kernel
theorem dX3_init_4 : decode cX3_init 4 = .ok (.aload_n 0, 1) := by decide +kernel
theorem dX3_init_5 : decode cX3_init 5 = .ok (.sipush 401, 3) := by decide +kernel
theorem dX3_init_8 : decode cX3_init 8 = .ok (.newarray .int, 2) := by decide +kernel
theorem dX3_init_10 : decode cX3_init 10 = .ok (.putfield 9, 3) := by decide +kernel
theorem dX3_init_13 : decode cX3_init 13 = .ok (.aload_n 0, 1) := by decide +kernel
theorem dX3_init_14 : decode cX3_init 14 = .ok (.sipush 401, 3) := by decide +kernel
theorem dX3_init_17 : decode cX3_init 17 = .ok (.newarray .int, 2) := by decide +kernel
theorem dX3_init_19 : decode cX3_init 19 = .ok (.putfield 15, 3) := by decide +kernel
theorem dX3_init_22 : decode cX3_init 22 = .ok (.return_, 1) := by decide +kernel
theorem dX3_read_0 : decode cX3_read 0 = .ok (.aload_n 2, 1) := by decide +kernel
theorem dX3_read_1 : decode cX3_read 1 = .ok (.invokevirtual 18, 3) := by decide +kernel
theorem dX3_read_4 : decode cX3_read 4 = .ok (.aload_n 0, 1) := by decide +kernel
theorem dX3_read_5 : decode cX3_read 5 = .ok (.aload_n 1, 1) := by decide +kernel
theorem dX3_read_6 : decode cX3_read 6 = .ok (.invokevirtual 23, 3) := by decide +kernel
theorem dX3_read_9 : decode cX3_read 9 = .ok (.aload_n 0, 1) := by decide +kernel
theorem dX3_read_10 : decode cX3_read 10 = .ok (.iconst 0, 1) := by decide +kernel
theorem dX3_read_11 : decode cX3_read 11 = .ok (.putfield 27, 3) := by decide +kernel
theorem dX3_read_14 : decode cX3_read 14 = .ok (.aload_n 0, 1) := by decide +kernel
theorem dX3_read_15 : decode cX3_read 15 = .ok (.iconst (-1), 1) := by decide +kernel
theorem dX3_read_16 : decode cX3_read 16 = .ok (.putfield 31, 3) := by decide +kernel
theorem dX3_read_19 : decode cX3_read 19 = .ok (.aload_n 0, 1) := by decide +kernel
theorem dX3_read_20 : decode cX3_read 20 = .ok (.iconst 0, 1) := by decide +kernel
theorem dX3_read_21 : decode cX3_read 21 = .ok (.putfield 34, 3) := by decide +kernel
theorem dX3_read_24 : decode cX3_read 24 = .ok (.aload_n 0, 1) := by decide +kernel
theorem dX3_read_25 : decode cX3_read 25 = .ok (.iconst 0, 1) := by decide +kernel
theorem dX3_read_26 : decode cX3_read 26 = .ok (.putfield 38, 3) := by decide +kernel
theorem dX3_read_29 : decode cX3_read 29 = .ok (.iconst 0, 1) := by decide +kernel
theorem dX3_read_30 : decode cX3_read 30 = .ok (.istore_n 3, 1) := by decide +kernel
theorem dX3_read_31 : decode cX3_read 31 = .ok (.iload_n 3, 1) := by decide +kernel
theorem dX3_read_32 : decode cX3_read 32 = .ok (.sipush 400, 3) := by decide +kernel
theorem dX3_read_35 : decode cX3_read 35 = .ok (.if_icmp .gt 47, 3) := by decide +kernel
theorem dX3_read_38 : decode cX3_read 38 = .ok (.aload_n 0, 1) := by decide +kernel
theorem dX3_read_39 : decode cX3_read 39 = .ok (.getfield 9, 3) := by decide +kernel
theorem dX3_read_42 : decode cX3_read 42 = .ok (.aload_n 0, 1) := by decide +kernel
theorem dX3_read_43 : decode cX3_read 43 = .ok (.getfield 27, 3) := by decide +kernel
theorem dX3_read_46 : decode cX3_read 46 = .ok (.invokestatic 41, 3) := by decide +kernel
theorem dX3_read_49 : decode cX3_read 49 = .ok (.bipush 12, 2) := by decide +kernel
theorem dX3_read_51 : decode cX3_read 51 = .ok (.if_icmp .ne 5, 3) := by decide +kernel
theorem dX3_read_54 : decode cX3_read 54 = .ok (.iload_n 3, 1) := by decide +kernel
theorem dX3_read_55 : decode cX3_read 55 = .ok (.ireturn, 1) := by decide +kernel
theorem dX3_read_56 : decode cX3_read 56 = .ok (.aload_n 0, 1) := by decide +kernel
theorem dX3_read_57 : decode cX3_read 57 = .ok (.aload_n 2, 1) := by decide +kernel
theorem dX3_read_58 : decode cX3_read 58 = .ok (.invokevirtual 45, 3) := by decide +kernel
theorem dX3_read_61 : decode cX3_read 61 = .ok (.aload_n 0, 1) := by decide +kernel
theorem dX3_read_62 : decode cX3_read 62 = .ok (.getfield 31, 3) := by decide +kernel
theorem dX3_read_65 : decode cX3_read 65 = .ok (.ifCond .lt 11, 3) := by decide +kernel
theorem dX3_read_68 : decode cX3_read 68 = .ok (.bipush (-10), 2) := by decide +kernel
theorem dX3_read_70 : decode cX3_read 70 = .ok (.aload_n 0, 1) := by decide +kernel
theorem dX3_read_71 : decode cX3_read 71 = .ok (.getfield 31, 3) := by decide +kernel
theorem dX3_read_74 : decode cX3_read 74 = .ok (.isub, 1) := by decide +kernel
theorem dX3_read_75 : decode cX3_read 75 = .ok (.ireturn, 1) := by decide +kernel
theorem dX3_read_76 : decode cX3_read 76 = .ok (.iinc 3 1, 3) := by decide +kernel
theorem dX3_read_79 : decode cX3_read 79 = .ok (.goto (-48), 3) := by decide +kernel
theorem dX3_read_82 : decode cX3_read 82 = .ok (.bipush (-10), 2) := by decide +kernel
theorem dX3_read_84 : decode cX3_read 84 = .ok (.aload_n 1, 1) := by decide +kernel
theorem dX3_read_85 : decode cX3_read 85 = .ok (.getfield 49, 3) := by decide +kernel
theorem dX3_read_88 : decode cX3_read 88 = .ok (.isub, 1) := by decide +kernel
theorem dX3_read_89 : decode cX3_read 89 = .ok (.ireturn, 1) := by decide +kernel
theorem dX3_findTokens_0 : decode cX3_findTokens 0 = .ok (.iconst 0, 1) := by decide +kernel
theorem dX3_findTokens_1 : decode cX3_findTokens 1 = .ok (.istore_n 2, 1) := by decide +kernel
theorem dX3_findTokens_2 : decode cX3_findTokens 2 = .ok (.iconst 0, 1) := by decide +kernel
theorem dX3_findTokens_3 : decode cX3_findTokens 3 = .ok (.istore_n 3, 1) := by decide +kernel
theorem dX3_findTokens_4 : decode cX3_findTokens 4 = .ok (.iload_n 3, 1) := by decide +kernel
theorem dX3_findTokens_5 : decode cX3_findTokens 5 = .ok (.aload_n 1, 1) := by decide +kernel
theorem dX3_findTokens_6 : decode cX3_findTokens 6 = .ok (.getfield 49, 3) := by decide +kernel
theorem dX3_findTokens_9 : decode cX3_findTokens 9 = .ok (.if_icmp .ge 42, 3) := by decide +kernel
theorem dX3_findTokens_12 : decode cX3_findTokens 12 = .ok (.aload_n 1, 1) := by decide +kernel
theorem dX3_findTokens_13 : decode cX3_findTokens 13 = .ok (.iload_n 3, 1) := by decide +kernel
theorem dX3_findTokens_14 : decode cX3_findTokens 14 = .ok (.invokevirtual 54, 3) := by decide +kernel
theorem dX3_findTokens_17 : decode cX3_findTokens 17 = .ok (.ifCond .eq 28, 3) := by decide +kernel
theorem dX3_findTokens_20 : decode cX3_findTokens 20 = .ok (.aload_n 0, 1) := by decide +kernel
theorem dX3_findTokens_21 : decode cX3_findTokens 21 = .ok (.getfield 9, 3) := by decide +kernel
theorem dX3_findTokens_24 : decode cX3_findTokens 24 = .ok (.iload_n 2, 1) := by decide +kernel
theorem dX3_findTokens_25 : decode cX3_findTokens 25 = .ok (.aload_n 1, 1) := by decide +kernel
theorem dX3_findTokens_26 : decode cX3_findTokens 26 = .ok (.iload_n 3, 1) := by decide +kernel
theorem dX3_findTokens_27 : decode cX3_findTokens 27 = .ok (.invokestatic 58, 3) := by decide +kernel
theorem dX3_findTokens_30 : decode cX3_findTokens 30 = .ok (.invokestatic 62, 3) := by decide +kernel
theorem dX3_findTokens_33 : decode cX3_findTokens 33 = .ok (.aload_n 0, 1) := by decide +kernel
theorem dX3_findTokens_34 : decode cX3_findTokens 34 = .ok (.getfield 15, 3) := by decide +kernel
theorem dX3_findTokens_37 : decode cX3_findTokens 37 = .ok (.iload_n 2, 1) := by decide +kernel
theorem dX3_findTokens_38 : decode cX3_findTokens 38 = .ok (.iload_n 3, 1) := by decide +kernel
theorem dX3_findTokens_39 : decode cX3_findTokens 39 = .ok (.invokestatic 62, 3) := by decide +kernel
theorem dX3_findTokens_42 : decode cX3_findTokens 42 = .ok (.iinc 2 1, 3) := by decide +kernel
theorem dX3_findTokens_45 : decode cX3_findTokens 45 = .ok (.iinc 3 1, 3) := by decide +kernel
theorem dX3_findTokens_48 : decode cX3_findTokens 48 = .ok (.goto (-44), 3) := by decide +kernel
theorem dX3_findTokens_51 : decode cX3_findTokens 51 = .ok (.aload_n 0, 1) := by decide +kernel
theorem dX3_findTokens_52 : decode cX3_findTokens 52 = .ok (.getfield 9, 3) := by decide +kernel
theorem dX3_findTokens_55 : decode cX3_findTokens 55 = .ok (.iload_n 2, 1) := by decide +kernel
theorem dX3_findTokens_56 : decode cX3_findTokens 56 = .ok (.bipush 12, 2) := by decide +kernel
theorem dX3_findTokens_58 : decode cX3_findTokens 58 = .ok (.invokestatic 62, 3) := by decide +kernel
theorem dX3_findTokens_61 : decode cX3_findTokens 61 = .ok (.aload_n 0, 1) := by decide +kernel
theorem dX3_findTokens_62 : decode cX3_findTokens 62 = .ok (.getfield 15, 3) := by decide +kernel
theorem dX3_findTokens_65 : decode cX3_findTokens 65 = .ok (.iload_n 2, 1) := by decide +kernel
theorem dX3_findTokens_66 : decode cX3_findTokens 66 = .ok (.aload_n 1, 1) := by decide +kernel
theorem dX3_findTokens_67 : decode cX3_findTokens 67 = .ok (.getfield 49, 3) := by decide +kernel
theorem dX3_findTokens_70 : decode cX3_findTokens 70 = .ok (.invokestatic 62, 3) := by decide +kernel
theorem dX3_findTokens_73 : decode cX3_findTokens 73 = .ok (.return_, 1) := by decide +kernel
theorem dX3_tokenAt_0 : decode cX3_tokenAt 0 = .ok (.aload_n 0, 1) := by decide +kernel
theorem dX3_tokenAt_1 : decode cX3_tokenAt 1 = .ok (.iload_n 1, 1) := by decide +kernel
theorem dX3_tokenAt_2 : decode cX3_tokenAt 2 = .ok (.invokevirtual 66, 3) := by decide +kernel
theorem dX3_tokenAt_5 : decode cX3_tokenAt 5 = .ok (.istore_n 2, 1) := by decide +kernel
theorem dX3_tokenAt_6 : decode cX3_tokenAt 6 = .ok (.iload_n 2, 1) := by decide +kernel
theorem dX3_tokenAt_7 : decode cX3_tokenAt 7 = .ok (.invokestatic 70, 3) := by decide +kernel
theorem dX3_tokenAt_10 : decode cX3_tokenAt 10 = .ok (.ifCond .eq 9, 3) := by decide +kernel
theorem dX3_tokenAt_13 : decode cX3_tokenAt 13 = .ok (.aload_n 0, 1) := by decide +kernel
theorem dX3_tokenAt_14 : decode cX3_tokenAt 14 = .ok (.iload_n 1, 1) := by decide +kernel
theorem dX3_tokenAt_15 : decode cX3_tokenAt 15 = .ok (.invokestatic 73, 3) := by decide +kernel
theorem dX3_tokenAt_18 : decode cX3_tokenAt 18 = .ok (.ireturn, 1) := by decide +kernel
theorem dX3_tokenAt_19 : decode cX3_tokenAt 19 = .ok (.iload_n 2, 1) := by decide +kernel
theorem dX3_tokenAt_20 : decode cX3_tokenAt 20 = .ok (.invokestatic 76, 3) := by decide +kernel
theorem dX3_tokenAt_23 : decode cX3_tokenAt 23 = .ok (.ifCond .eq 9, 3) := by decide +kernel
theorem dX3_tokenAt_26 : decode cX3_tokenAt 26 = .ok (.aload_n 0, 1) := by decide +kernel
theorem dX3_tokenAt_27 : decode cX3_tokenAt 27 = .ok (.iload_n 1, 1) := by decide +kernel
theorem dX3_tokenAt_28 : decode cX3_tokenAt 28 = .ok (.invokestatic 79, 3) := by decide +kernel
theorem dX3_tokenAt_31 : decode cX3_tokenAt 31 = .ok (.ireturn, 1) := by decide +kernel
theorem dX3_tokenAt_32 : decode cX3_tokenAt 32 = .ok (.iload_n 2, 1) := by decide +kernel
theorem dX3_tokenAt_33 : decode cX3_tokenAt 33 = .ok (.bipush 59, 2) := by decide +kernel
theorem dX3_tokenAt_35 : decode cX3_tokenAt 35 = .ok (.if_icmp .ne 8, 3) := by decide +kernel
theorem dX3_tokenAt_38 : decode cX3_tokenAt 38 = .ok (.bipush 10, 2) := by decide +kernel
theorem dX3_tokenAt_40 : decode cX3_tokenAt 40 = .ok (.goto 5, 3) := by decide +kernel
theorem dX3_tokenAt_43 : decode cX3_tokenAt 43 = .ok (.bipush 11, 2) := by decide +kernel
theorem dX3_tokenAt_45 : decode cX3_tokenAt 45 = .ok (.ireturn, 1) := by decide +kernel
theorem dX3_wordAt_0 : decode cX3_wordAt 0 = .ok (.iconst 0, 1) := by decide +kernel
theorem dX3_wordAt_1 : decode cX3_wordAt 1 = .ok (.istore_n 2, 1) := by decide +kernel
theorem dX3_wordAt_2 : decode cX3_wordAt 2 = .ok (.iload_n 2, 1) := by decide +kernel
theorem dX3_wordAt_3 : decode cX3_wordAt 3 = .ok (.bipush 10, 2) := by decide +kernel
theorem dX3_wordAt_5 : decode cX3_wordAt 5 = .ok (.if_icmp .ge 20, 3) := by decide +kernel
theorem dX3_wordAt_8 : decode cX3_wordAt 8 = .ok (.aload_n 0, 1) := by decide +kernel
theorem dX3_wordAt_9 : decode cX3_wordAt 9 = .ok (.iload_n 1, 1) := by decide +kernel
theorem dX3_wordAt_10 : decode cX3_wordAt 10 = .ok (.iload_n 2, 1) := by decide +kernel
theorem dX3_wordAt_11 : decode cX3_wordAt 11 = .ok (.invokestatic 82, 3) := by decide +kernel
theorem dX3_wordAt_14 : decode cX3_wordAt 14 = .ok (.ifCond .eq 5, 3) := by decide +kernel
theorem dX3_wordAt_17 : decode cX3_wordAt 17 = .ok (.iload_n 2, 1) := by decide +kernel
theorem dX3_wordAt_18 : decode cX3_wordAt 18 = .ok (.ireturn, 1) := by decide +kernel
theorem dX3_wordAt_19 : decode cX3_wordAt 19 = .ok (.iinc 2 1, 3) := by decide +kernel
theorem dX3_wordAt_22 : decode cX3_wordAt 22 = .ok (.goto (-20), 3) := by decide +kernel
theorem dX3_wordAt_25 : decode cX3_wordAt 25 = .ok (.bipush 11, 2) := by decide +kernel
theorem dX3_wordAt_27 : decode cX3_wordAt 27 = .ok (.ireturn, 1) := by decide +kernel
theorem dX3_isWord_0 : decode cX3_isWord 0 = .ok (.iload_n 2, 1) := by decide +kernel
theorem dX3_isWord_1 : decode cX3_isWord 1 = .ok (.bipush 8, 2) := by decide +kernel
theorem dX3_isWord_3 : decode cX3_isWord 3 = .ok (.imul, 1) := by decide +kernel
theorem dX3_isWord_4 : decode cX3_isWord 4 = .ok (.istore_n 3, 1) := by decide +kernel
theorem dX3_isWord_5 : decode cX3_isWord 5 = .ok (.iconst 0, 1) := by decide +kernel
theorem dX3_isWord_6 : decode cX3_isWord 6 = .ok (.istore 4, 2) := by decide +kernel
theorem dX3_isWord_8 : decode cX3_isWord 8 = .ok (.iload 4, 2) := by decide +kernel
theorem dX3_isWord_10 : decode cX3_isWord 10 = .ok (.bipush 8, 2) := by decide +kernel
theorem dX3_isWord_12 : decode cX3_isWord 12 = .ok (.if_icmp .ge 72, 3) := by decide +kernel
theorem dX3_isWord_15 : decode cX3_isWord 15 = .ok (.iload_n 3, 1) := by decide +kernel
theorem dX3_isWord_16 : decode cX3_isWord 16 = .ok (.iload 4, 2) := by decide +kernel
theorem dX3_isWord_18 : decode cX3_isWord 18 = .ok (.iadd, 1) := by decide +kernel
theorem dX3_isWord_19 : decode cX3_isWord 19 = .ok (.ldc 86, 2) := by decide +kernel
theorem dX3_isWord_21 : decode cX3_isWord 21 = .ok (.invokevirtual 88, 3) := by decide +kernel
theorem dX3_isWord_24 : decode cX3_isWord 24 = .ok (.if_icmp .ge 60, 3) := by decide +kernel
theorem dX3_isWord_27 : decode cX3_isWord 27 = .ok (.ldc 86, 2) := by decide +kernel
theorem dX3_isWord_29 : decode cX3_isWord 29 = .ok (.iload_n 3, 1) := by decide +kernel
theorem dX3_isWord_30 : decode cX3_isWord 30 = .ok (.iload 4, 2) := by decide +kernel
theorem dX3_isWord_32 : decode cX3_isWord 32 = .ok (.iadd, 1) := by decide +kernel
theorem dX3_isWord_33 : decode cX3_isWord 33 = .ok (.invokevirtual 94, 3) := by decide +kernel
theorem dX3_isWord_36 : decode cX3_isWord 36 = .ok (.istore 5, 2) := by decide +kernel
theorem dX3_isWord_38 : decode cX3_isWord 38 = .ok (.aload_n 0, 1) := by decide +kernel
theorem dX3_isWord_39 : decode cX3_isWord 39 = .ok (.iload_n 1, 1) := by decide +kernel
theorem dX3_isWord_40 : decode cX3_isWord 40 = .ok (.iload 4, 2) := by decide +kernel
theorem dX3_isWord_42 : decode cX3_isWord 42 = .ok (.iadd, 1) := by decide +kernel
theorem dX3_isWord_43 : decode cX3_isWord 43 = .ok (.invokevirtual 66, 3) := by decide +kernel
theorem dX3_isWord_46 : decode cX3_isWord 46 = .ok (.istore 6, 2) := by decide +kernel
theorem dX3_isWord_48 : decode cX3_isWord 48 = .ok (.iload 5, 2) := by decide +kernel
theorem dX3_isWord_50 : decode cX3_isWord 50 = .ok (.bipush 32, 2) := by decide +kernel
theorem dX3_isWord_52 : decode cX3_isWord 52 = .ok (.if_icmp .ne 17, 3) := by decide +kernel
theorem dX3_isWord_55 : decode cX3_isWord 55 = .ok (.iload 6, 2) := by decide +kernel
theorem dX3_isWord_57 : decode cX3_isWord 57 = .ok (.invokestatic 70, 3) := by decide +kernel
theorem dX3_isWord_60 : decode cX3_isWord 60 = .ok (.ifCond .ne 7, 3) := by decide +kernel
theorem dX3_isWord_63 : decode cX3_isWord 63 = .ok (.iconst 1, 1) := by decide +kernel
theorem dX3_isWord_64 : decode cX3_isWord 64 = .ok (.goto 4, 3) := by decide +kernel
theorem dX3_isWord_67 : decode cX3_isWord 67 = .ok (.iconst 0, 1) := by decide +kernel
theorem dX3_isWord_68 : decode cX3_isWord 68 = .ok (.ireturn, 1) := by decide +kernel
theorem dX3_isWord_69 : decode cX3_isWord 69 = .ok (.iload 6, 2) := by decide +kernel
theorem dX3_isWord_71 : decode cX3_isWord 71 = .ok (.iload 5, 2) := by decide +kernel
theorem dX3_isWord_73 : decode cX3_isWord 73 = .ok (.if_icmp .eq 5, 3) := by decide +kernel
theorem dX3_isWord_76 : decode cX3_isWord 76 = .ok (.iconst 0, 1) := by decide +kernel
theorem dX3_isWord_77 : decode cX3_isWord 77 = .ok (.ireturn, 1) := by decide +kernel
theorem dX3_isWord_78 : decode cX3_isWord 78 = .ok (.iinc 4 1, 3) := by decide +kernel
theorem dX3_isWord_81 : decode cX3_isWord 81 = .ok (.goto (-73), 3) := by decide +kernel
theorem dX3_isWord_84 : decode cX3_isWord 84 = .ok (.iconst 0, 1) := by decide +kernel
theorem dX3_isWord_85 : decode cX3_isWord 85 = .ok (.ireturn, 1) := by decide +kernel
theorem dX3_numberAt_0 : decode cX3_numberAt 0 = .ok (.aload_n 0, 1) := by decide +kernel
theorem dX3_numberAt_1 : decode cX3_numberAt 1 = .ok (.iload_n 1, 1) := by decide +kernel
theorem dX3_numberAt_2 : decode cX3_numberAt 2 = .ok (.invokevirtual 66, 3) := by decide +kernel
theorem dX3_numberAt_5 : decode cX3_numberAt 5 = .ok (.bipush 48, 2) := by decide +kernel
theorem dX3_numberAt_7 : decode cX3_numberAt 7 = .ok (.isub, 1) := by decide +kernel
theorem dX3_numberAt_8 : decode cX3_numberAt 8 = .ok (.istore_n 2, 1) := by decide +kernel
theorem dX3_numberAt_9 : decode cX3_numberAt 9 = .ok (.aload_n 0, 1) := by decide +kernel
theorem dX3_numberAt_10 : decode cX3_numberAt 10 = .ok (.iload_n 1, 1) := by decide +kernel
theorem dX3_numberAt_11 : decode cX3_numberAt 11 = .ok (.iconst 1, 1) := by decide +kernel
theorem dX3_numberAt_12 : decode cX3_numberAt 12 = .ok (.iadd, 1) := by decide +kernel
theorem dX3_numberAt_13 : decode cX3_numberAt 13 = .ok (.invokevirtual 66, 3) := by decide +kernel
theorem dX3_numberAt_16 : decode cX3_numberAt 16 = .ok (.istore_n 3, 1) := by decide +kernel
theorem dX3_numberAt_17 : decode cX3_numberAt 17 = .ok (.iload_n 3, 1) := by decide +kernel
theorem dX3_numberAt_18 : decode cX3_numberAt 18 = .ok (.invokestatic 76, 3) := by decide +kernel
theorem dX3_numberAt_21 : decode cX3_numberAt 21 = .ok (.ifCond .ne 8, 3) := by decide +kernel
theorem dX3_numberAt_24 : decode cX3_numberAt 24 = .ok (.bipush 100, 2) := by decide +kernel
theorem dX3_numberAt_26 : decode cX3_numberAt 26 = .ok (.iload_n 2, 1) := by decide +kernel
theorem dX3_numberAt_27 : decode cX3_numberAt 27 = .ok (.iadd, 1) := by decide +kernel
theorem dX3_numberAt_28 : decode cX3_numberAt 28 = .ok (.ireturn, 1) := by decide +kernel
theorem dX3_numberAt_29 : decode cX3_numberAt 29 = .ok (.iload_n 2, 1) := by decide +kernel
theorem dX3_numberAt_30 : decode cX3_numberAt 30 = .ok (.ifCond .eq 16, 3) := by decide +kernel
theorem dX3_numberAt_33 : decode cX3_numberAt 33 = .ok (.aload_n 0, 1) := by decide +kernel
theorem dX3_numberAt_34 : decode cX3_numberAt 34 = .ok (.iload_n 1, 1) := by decide +kernel
theorem dX3_numberAt_35 : decode cX3_numberAt 35 = .ok (.iconst 2, 1) := by decide +kernel
theorem dX3_numberAt_36 : decode cX3_numberAt 36 = .ok (.iadd, 1) := by decide +kernel
theorem dX3_numberAt_37 : decode cX3_numberAt 37 = .ok (.invokevirtual 66, 3) := by decide +kernel
theorem dX3_numberAt_40 : decode cX3_numberAt 40 = .ok (.invokestatic 76, 3) := by decide +kernel
theorem dX3_numberAt_43 : decode cX3_numberAt 43 = .ok (.ifCond .eq 6, 3) := by decide +kernel
theorem dX3_numberAt_46 : decode cX3_numberAt 46 = .ok (.bipush 11, 2) := by decide +kernel
theorem dX3_numberAt_48 : decode cX3_numberAt 48 = .ok (.ireturn, 1) := by decide +kernel
theorem dX3_numberAt_49 : decode cX3_numberAt 49 = .ok (.bipush 100, 2) := by decide +kernel
theorem dX3_numberAt_51 : decode cX3_numberAt 51 = .ok (.bipush 10, 2) := by decide +kernel
theorem dX3_numberAt_53 : decode cX3_numberAt 53 = .ok (.iload_n 2, 1) := by decide +kernel
theorem dX3_numberAt_54 : decode cX3_numberAt 54 = .ok (.imul, 1) := by decide +kernel
theorem dX3_numberAt_55 : decode cX3_numberAt 55 = .ok (.iadd, 1) := by decide +kernel
theorem dX3_numberAt_56 : decode cX3_numberAt 56 = .ok (.iload_n 3, 1) := by decide +kernel
theorem dX3_numberAt_57 : decode cX3_numberAt 57 = .ok (.iadd, 1) := by decide +kernel
theorem dX3_numberAt_58 : decode cX3_numberAt 58 = .ok (.bipush 48, 2) := by decide +kernel
theorem dX3_numberAt_60 : decode cX3_numberAt 60 = .ok (.isub, 1) := by decide +kernel
theorem dX3_numberAt_61 : decode cX3_numberAt 61 = .ok (.ireturn, 1) := by decide +kernel
theorem dX3_readItem_0 : decode cX3_readItem 0 = .ok (.aload_n 0, 1) := by decide +kernel
theorem dX3_readItem_1 : decode cX3_readItem 1 = .ok (.getfield 9, 3) := by decide +kernel
theorem dX3_readItem_4 : decode cX3_readItem 4 = .ok (.aload_n 0, 1) := by decide +kernel
theorem dX3_readItem_5 : decode cX3_readItem 5 = .ok (.getfield 27, 3) := by decide +kernel
theorem dX3_readItem_8 : decode cX3_readItem 8 = .ok (.invokestatic 41, 3) := by decide +kernel
theorem dX3_readItem_11 : decode cX3_readItem 11 = .ok (.istore_n 2, 1) := by decide +kernel
theorem dX3_readItem_12 : decode cX3_readItem 12 = .ok (.aload_n 0, 1) := by decide +kernel
theorem dX3_readItem_13 : decode cX3_readItem 13 = .ok (.aload_n 0, 1) := by decide +kernel
theorem dX3_readItem_14 : decode cX3_readItem 14 = .ok (.aload_n 1, 1) := by decide +kernel
theorem dX3_readItem_15 : decode cX3_readItem 15 = .ok (.iload_n 2, 1) := by decide +kernel
theorem dX3_readItem_16 : decode cX3_readItem 16 = .ok (.invokevirtual 98, 3) := by decide +kernel
theorem dX3_readItem_19 : decode cX3_readItem 19 = .ok (.invokevirtual 102, 3) := by decide +kernel
theorem dX3_readItem_22 : decode cX3_readItem 22 = .ok (.ifCond .ne 4, 3) := by decide +kernel
theorem dX3_readItem_25 : decode cX3_readItem 25 = .ok (.return_, 1) := by decide +kernel
theorem dX3_readItem_26 : decode cX3_readItem 26 = .ok (.iconst 1, 1) := by decide +kernel
theorem dX3_readItem_27 : decode cX3_readItem 27 = .ok (.istore_n 3, 1) := by decide +kernel
theorem dX3_readItem_28 : decode cX3_readItem 28 = .ok (.iload_n 2, 1) := by decide +kernel
theorem dX3_readItem_29 : decode cX3_readItem 29 = .ok (.ifCond .ne 16, 3) := by decide +kernel
theorem dX3_readItem_32 : decode cX3_readItem 32 = .ok (.aload_n 1, 1) := by decide +kernel
theorem dX3_readItem_33 : decode cX3_readItem 33 = .ok (.dup, 1) := by decide +kernel
theorem dX3_readItem_34 : decode cX3_readItem 34 = .ok (.getfield 106, 3) := by decide +kernel
theorem dX3_readItem_37 : decode cX3_readItem 37 = .ok (.iconst 1, 1) := by decide +kernel
theorem dX3_readItem_38 : decode cX3_readItem 38 = .ok (.iadd, 1) := by decide +kernel
theorem dX3_readItem_39 : decode cX3_readItem 39 = .ok (.putfield 106, 3) := by decide +kernel
theorem dX3_readItem_42 : decode cX3_readItem 42 = .ok (.goto 38, 3) := by decide +kernel
theorem dX3_readItem_45 : decode cX3_readItem 45 = .ok (.iload_n 2, 1) := by decide +kernel
theorem dX3_readItem_46 : decode cX3_readItem 46 = .ok (.iconst 4, 1) := by decide +kernel
theorem dX3_readItem_47 : decode cX3_readItem 47 = .ok (.if_icmp .ne 12, 3) := by decide +kernel
theorem dX3_readItem_50 : decode cX3_readItem 50 = .ok (.aload_n 0, 1) := by decide +kernel
theorem dX3_readItem_51 : decode cX3_readItem 51 = .ok (.aload_n 1, 1) := by decide +kernel
theorem dX3_readItem_52 : decode cX3_readItem 52 = .ok (.invokevirtual 109, 3) := by decide +kernel
theorem dX3_readItem_55 : decode cX3_readItem 55 = .ok (.istore_n 3, 1) := by decide +kernel
theorem dX3_readItem_56 : decode cX3_readItem 56 = .ok (.goto 24, 3) := by decide +kernel
theorem dX3_readItem_59 : decode cX3_readItem 59 = .ok (.iload_n 2, 1) := by decide +kernel
theorem dX3_readItem_60 : decode cX3_readItem 60 = .ok (.iconst 5, 1) := by decide +kernel
theorem dX3_readItem_61 : decode cX3_readItem 61 = .ok (.if_icmp .ne 12, 3) := by decide +kernel
theorem dX3_readItem_64 : decode cX3_readItem 64 = .ok (.aload_n 0, 1) := by decide +kernel
theorem dX3_readItem_65 : decode cX3_readItem 65 = .ok (.aload_n 1, 1) := by decide +kernel
theorem dX3_readItem_66 : decode cX3_readItem 66 = .ok (.invokevirtual 113, 3) := by decide +kernel
theorem dX3_readItem_69 : decode cX3_readItem 69 = .ok (.istore_n 3, 1) := by decide +kernel
theorem dX3_readItem_70 : decode cX3_readItem 70 = .ok (.goto 10, 3) := by decide +kernel
theorem dX3_readItem_73 : decode cX3_readItem 73 = .ok (.aload_n 0, 1) := by decide +kernel
theorem dX3_readItem_74 : decode cX3_readItem 74 = .ok (.aload_n 1, 1) := by decide +kernel
theorem dX3_readItem_75 : decode cX3_readItem 75 = .ok (.iload_n 2, 1) := by decide +kernel
theorem dX3_readItem_76 : decode cX3_readItem 76 = .ok (.invokevirtual 116, 3) := by decide +kernel
theorem dX3_readItem_79 : decode cX3_readItem 79 = .ok (.istore_n 3, 1) := by decide +kernel
theorem dX3_readItem_80 : decode cX3_readItem 80 = .ok (.iload_n 3, 1) := by decide +kernel
theorem dX3_readItem_81 : decode cX3_readItem 81 = .ok (.ifCond .eq 29, 3) := by decide +kernel
theorem dX3_readItem_84 : decode cX3_readItem 84 = .ok (.aload_n 0, 1) := by decide +kernel
theorem dX3_readItem_85 : decode cX3_readItem 85 = .ok (.aload_n 0, 1) := by decide +kernel
theorem dX3_readItem_86 : decode cX3_readItem 86 = .ok (.getfield 9, 3) := by decide +kernel
theorem dX3_readItem_89 : decode cX3_readItem 89 = .ok (.aload_n 0, 1) := by decide +kernel
theorem dX3_readItem_90 : decode cX3_readItem 90 = .ok (.getfield 27, 3) := by decide +kernel
theorem dX3_readItem_93 : decode cX3_readItem 93 = .ok (.invokestatic 41, 3) := by decide +kernel
theorem dX3_readItem_96 : decode cX3_readItem 96 = .ok (.bipush 10, 2) := by decide +kernel
theorem dX3_readItem_98 : decode cX3_readItem 98 = .ok (.if_icmp .ne 7, 3) := by decide +kernel
theorem dX3_readItem_101 : decode cX3_readItem 101 = .ok (.iconst 1, 1) := by decide +kernel
theorem dX3_readItem_102 : decode cX3_readItem 102 = .ok (.goto 4, 3) := by decide +kernel
theorem dX3_readItem_105 : decode cX3_readItem 105 = .ok (.iconst 0, 1) := by decide +kernel
theorem dX3_readItem_106 : decode cX3_readItem 106 = .ok (.invokevirtual 102, 3) := by decide +kernel
theorem dX3_readItem_109 : decode cX3_readItem 109 = .ok (.pop, 1) := by decide +kernel
theorem dX3_readItem_110 : decode cX3_readItem 110 = .ok (.return_, 1) := by decide +kernel
theorem dX3_mayBegin_0 : decode cX3_mayBegin 0 = .ok (.iload_n 2, 1) := by decide +kernel
theorem dX3_mayBegin_1 : decode cX3_mayBegin 1 = .ok (.tableswitch 82 0 5 #[39, 54, 54, 54, 56, 69], 39) := by decide +kernel
theorem dX3_mayBegin_40 : decode cX3_mayBegin 40 = .ok (.aload_n 1, 1) := by decide +kernel
theorem dX3_mayBegin_41 : decode cX3_mayBegin 41 = .ok (.getfield 106, 3) := by decide +kernel
theorem dX3_mayBegin_44 : decode cX3_mayBegin 44 = .ok (.bipush 8, 2) := by decide +kernel
theorem dX3_mayBegin_46 : decode cX3_mayBegin 46 = .ok (.if_icmp .ge 7, 3) := by decide +kernel
theorem dX3_mayBegin_49 : decode cX3_mayBegin 49 = .ok (.iconst 1, 1) := by decide +kernel
theorem dX3_mayBegin_50 : decode cX3_mayBegin 50 = .ok (.goto 4, 3) := by decide +kernel
theorem dX3_mayBegin_53 : decode cX3_mayBegin 53 = .ok (.iconst 0, 1) := by decide +kernel
theorem dX3_mayBegin_54 : decode cX3_mayBegin 54 = .ok (.ireturn, 1) := by decide +kernel
theorem dX3_mayBegin_55 : decode cX3_mayBegin 55 = .ok (.iconst 1, 1) := by decide +kernel
theorem dX3_mayBegin_56 : decode cX3_mayBegin 56 = .ok (.ireturn, 1) := by decide +kernel
theorem dX3_mayBegin_57 : decode cX3_mayBegin 57 = .ok (.aload_n 0, 1) := by decide +kernel
theorem dX3_mayBegin_58 : decode cX3_mayBegin 58 = .ok (.getfield 38, 3) := by decide +kernel
theorem dX3_mayBegin_61 : decode cX3_mayBegin 61 = .ok (.ifCond .ne 7, 3) := by decide +kernel
theorem dX3_mayBegin_64 : decode cX3_mayBegin 64 = .ok (.iconst 1, 1) := by decide +kernel
theorem dX3_mayBegin_65 : decode cX3_mayBegin 65 = .ok (.goto 4, 3) := by decide +kernel
theorem dX3_mayBegin_68 : decode cX3_mayBegin 68 = .ok (.iconst 0, 1) := by decide +kernel
theorem dX3_mayBegin_69 : decode cX3_mayBegin 69 = .ok (.ireturn, 1) := by decide +kernel
theorem dX3_mayBegin_70 : decode cX3_mayBegin 70 = .ok (.aload_n 0, 1) := by decide +kernel
theorem dX3_mayBegin_71 : decode cX3_mayBegin 71 = .ok (.getfield 34, 3) := by decide +kernel
theorem dX3_mayBegin_74 : decode cX3_mayBegin 74 = .ok (.ifCond .ne 7, 3) := by decide +kernel
theorem dX3_mayBegin_77 : decode cX3_mayBegin 77 = .ok (.iconst 1, 1) := by decide +kernel
theorem dX3_mayBegin_78 : decode cX3_mayBegin 78 = .ok (.goto 4, 3) := by decide +kernel
theorem dX3_mayBegin_81 : decode cX3_mayBegin 81 = .ok (.iconst 0, 1) := by decide +kernel
theorem dX3_mayBegin_82 : decode cX3_mayBegin 82 = .ok (.ireturn, 1) := by decide +kernel
theorem dX3_mayBegin_83 : decode cX3_mayBegin 83 = .ok (.iconst 0, 1) := by decide +kernel
theorem dX3_mayBegin_84 : decode cX3_mayBegin 84 = .ok (.ireturn, 1) := by decide +kernel
theorem dX3_readForgets_0 : decode cX3_readForgets 0 = .ok (.aload_n 0, 1) := by decide +kernel
theorem dX3_readForgets_1 : decode cX3_readForgets 1 = .ok (.iconst 1, 1) := by decide +kernel
theorem dX3_readForgets_2 : decode cX3_readForgets 2 = .ok (.putfield 38, 3) := by decide +kernel
theorem dX3_readForgets_5 : decode cX3_readForgets 5 = .ok (.aload_n 0, 1) := by decide +kernel
theorem dX3_readForgets_6 : decode cX3_readForgets 6 = .ok (.invokevirtual 119, 3) := by decide +kernel
theorem dX3_readForgets_9 : decode cX3_readForgets 9 = .ok (.istore_n 2, 1) := by decide +kernel
theorem dX3_readForgets_10 : decode cX3_readForgets 10 = .ok (.aload_n 0, 1) := by decide +kernel
theorem dX3_readForgets_11 : decode cX3_readForgets 11 = .ok (.iload_n 2, 1) := by decide +kernel
theorem dX3_readForgets_12 : decode cX3_readForgets 12 = .ok (.ifCond .lt 13, 3) := by decide +kernel
theorem dX3_readForgets_15 : decode cX3_readForgets 15 = .ok (.iload_n 2, 1) := by decide +kernel
theorem dX3_readForgets_16 : decode cX3_readForgets 16 = .ok (.bipush 9, 2) := by decide +kernel
theorem dX3_readForgets_18 : decode cX3_readForgets 18 = .ok (.if_icmp .gt 7, 3) := by decide +kernel
theorem dX3_readForgets_21 : decode cX3_readForgets 21 = .ok (.iconst 1, 1) := by decide +kernel
theorem dX3_readForgets_22 : decode cX3_readForgets 22 = .ok (.goto 4, 3) := by decide +kernel
theorem dX3_readForgets_25 : decode cX3_readForgets 25 = .ok (.iconst 0, 1) := by decide +kernel
theorem dX3_readForgets_26 : decode cX3_readForgets 26 = .ok (.invokevirtual 102, 3) := by decide +kernel
theorem dX3_readForgets_29 : decode cX3_readForgets 29 = .ok (.ifCond .ne 5, 3) := by decide +kernel
theorem dX3_readForgets_32 : decode cX3_readForgets 32 = .ok (.iconst 0, 1) := by decide +kernel
theorem dX3_readForgets_33 : decode cX3_readForgets 33 = .ok (.ireturn, 1) := by decide +kernel
theorem dX3_readForgets_34 : decode cX3_readForgets 34 = .ok (.aload_n 1, 1) := by decide +kernel
theorem dX3_readForgets_35 : decode cX3_readForgets 35 = .ok (.iload_n 2, 1) := by decide +kernel
theorem dX3_readForgets_36 : decode cX3_readForgets 36 = .ok (.putfield 122, 3) := by decide +kernel
theorem dX3_readForgets_39 : decode cX3_readForgets 39 = .ok (.iconst 1, 1) := by decide +kernel
theorem dX3_readForgets_40 : decode cX3_readForgets 40 = .ok (.ireturn, 1) := by decide +kernel
theorem dX3_readLaw_0 : decode cX3_readLaw 0 = .ok (.aload_n 0, 1) := by decide +kernel
theorem dX3_readLaw_1 : decode cX3_readLaw 1 = .ok (.iconst 1, 1) := by decide +kernel
theorem dX3_readLaw_2 : decode cX3_readLaw 2 = .ok (.putfield 34, 3) := by decide +kernel
theorem dX3_readLaw_5 : decode cX3_readLaw 5 = .ok (.aload_n 0, 1) := by decide +kernel
theorem dX3_readLaw_6 : decode cX3_readLaw 6 = .ok (.getfield 9, 3) := by decide +kernel
theorem dX3_readLaw_9 : decode cX3_readLaw 9 = .ok (.aload_n 0, 1) := by decide +kernel
theorem dX3_readLaw_10 : decode cX3_readLaw 10 = .ok (.getfield 27, 3) := by decide +kernel
theorem dX3_readLaw_13 : decode cX3_readLaw 13 = .ok (.invokestatic 41, 3) := by decide +kernel
theorem dX3_readLaw_16 : decode cX3_readLaw 16 = .ok (.istore_n 2, 1) := by decide +kernel
theorem dX3_readLaw_17 : decode cX3_readLaw 17 = .ok (.aload_n 0, 1) := by decide +kernel
theorem dX3_readLaw_18 : decode cX3_readLaw 18 = .ok (.iload_n 2, 1) := by decide +kernel
theorem dX3_readLaw_19 : decode cX3_readLaw 19 = .ok (.bipush 6, 2) := by decide +kernel
theorem dX3_readLaw_21 : decode cX3_readLaw 21 = .ok (.if_icmp .lt 13, 3) := by decide +kernel
theorem dX3_readLaw_24 : decode cX3_readLaw 24 = .ok (.iload_n 2, 1) := by decide +kernel
theorem dX3_readLaw_25 : decode cX3_readLaw 25 = .ok (.bipush 9, 2) := by decide +kernel
theorem dX3_readLaw_27 : decode cX3_readLaw 27 = .ok (.if_icmp .gt 7, 3) := by decide +kernel
theorem dX3_readLaw_30 : decode cX3_readLaw 30 = .ok (.iconst 1, 1) := by decide +kernel
theorem dX3_readLaw_31 : decode cX3_readLaw 31 = .ok (.goto 4, 3) := by decide +kernel
theorem dX3_readLaw_34 : decode cX3_readLaw 34 = .ok (.iconst 0, 1) := by decide +kernel
theorem dX3_readLaw_35 : decode cX3_readLaw 35 = .ok (.invokevirtual 102, 3) := by decide +kernel
theorem dX3_readLaw_38 : decode cX3_readLaw 38 = .ok (.ifCond .ne 5, 3) := by decide +kernel
theorem dX3_readLaw_41 : decode cX3_readLaw 41 = .ok (.iconst 0, 1) := by decide +kernel
theorem dX3_readLaw_42 : decode cX3_readLaw 42 = .ok (.ireturn, 1) := by decide +kernel
theorem dX3_readLaw_43 : decode cX3_readLaw 43 = .ok (.aload_n 1, 1) := by decide +kernel
theorem dX3_readLaw_44 : decode cX3_readLaw 44 = .ok (.iload_n 2, 1) := by decide +kernel
theorem dX3_readLaw_45 : decode cX3_readLaw 45 = .ok (.bipush 6, 2) := by decide +kernel
theorem dX3_readLaw_47 : decode cX3_readLaw 47 = .ok (.isub, 1) := by decide +kernel
theorem dX3_readLaw_48 : decode cX3_readLaw 48 = .ok (.putfield 125, 3) := by decide +kernel
theorem dX3_readLaw_51 : decode cX3_readLaw 51 = .ok (.aload_n 1, 1) := by decide +kernel
theorem dX3_readLaw_52 : decode cX3_readLaw 52 = .ok (.getfield 125, 3) := by decide +kernel
theorem dX3_readLaw_55 : decode cX3_readLaw 55 = .ok (.iconst 2, 1) := by decide +kernel
theorem dX3_readLaw_56 : decode cX3_readLaw 56 = .ok (.if_icmp .eq 5, 3) := by decide +kernel
theorem dX3_readLaw_59 : decode cX3_readLaw 59 = .ok (.iconst 1, 1) := by decide +kernel
theorem dX3_readLaw_60 : decode cX3_readLaw 60 = .ok (.ireturn, 1) := by decide +kernel
theorem dX3_readLaw_61 : decode cX3_readLaw 61 = .ok (.aload_n 0, 1) := by decide +kernel
theorem dX3_readLaw_62 : decode cX3_readLaw 62 = .ok (.invokevirtual 119, 3) := by decide +kernel
theorem dX3_readLaw_65 : decode cX3_readLaw 65 = .ok (.istore_n 3, 1) := by decide +kernel
theorem dX3_readLaw_66 : decode cX3_readLaw 66 = .ok (.aload_n 0, 1) := by decide +kernel
theorem dX3_readLaw_67 : decode cX3_readLaw 67 = .ok (.iload_n 3, 1) := by decide +kernel
theorem dX3_readLaw_68 : decode cX3_readLaw 68 = .ok (.ifCond .lt 13, 3) := by decide +kernel
theorem dX3_readLaw_71 : decode cX3_readLaw 71 = .ok (.iload_n 3, 1) := by decide +kernel
theorem dX3_readLaw_72 : decode cX3_readLaw 72 = .ok (.bipush 7, 2) := by decide +kernel
theorem dX3_readLaw_74 : decode cX3_readLaw 74 = .ok (.if_icmp .gt 7, 3) := by decide +kernel
theorem dX3_readLaw_77 : decode cX3_readLaw 77 = .ok (.iconst 1, 1) := by decide +kernel
theorem dX3_readLaw_78 : decode cX3_readLaw 78 = .ok (.goto 4, 3) := by decide +kernel
theorem dX3_readLaw_81 : decode cX3_readLaw 81 = .ok (.iconst 0, 1) := by decide +kernel
theorem dX3_readLaw_82 : decode cX3_readLaw 82 = .ok (.invokevirtual 102, 3) := by decide +kernel
theorem dX3_readLaw_85 : decode cX3_readLaw 85 = .ok (.ifCond .ne 5, 3) := by decide +kernel
theorem dX3_readLaw_88 : decode cX3_readLaw 88 = .ok (.iconst 0, 1) := by decide +kernel
theorem dX3_readLaw_89 : decode cX3_readLaw 89 = .ok (.ireturn, 1) := by decide +kernel
theorem dX3_readLaw_90 : decode cX3_readLaw 90 = .ok (.aload_n 1, 1) := by decide +kernel
theorem dX3_readLaw_91 : decode cX3_readLaw 91 = .ok (.iload_n 3, 1) := by decide +kernel
theorem dX3_readLaw_92 : decode cX3_readLaw 92 = .ok (.putfield 128, 3) := by decide +kernel
theorem dX3_readLaw_95 : decode cX3_readLaw 95 = .ok (.iconst 1, 1) := by decide +kernel
theorem dX3_readLaw_96 : decode cX3_readLaw 96 = .ok (.ireturn, 1) := by decide +kernel
theorem dX3_readPair_0 : decode cX3_readPair 0 = .ok (.aload_n 0, 1) := by decide +kernel
theorem dX3_readPair_1 : decode cX3_readPair 1 = .ok (.invokevirtual 119, 3) := by decide +kernel
theorem dX3_readPair_4 : decode cX3_readPair 4 = .ok (.istore_n 3, 1) := by decide +kernel
theorem dX3_readPair_5 : decode cX3_readPair 5 = .ok (.iload_n 2, 1) := by decide +kernel
theorem dX3_readPair_6 : decode cX3_readPair 6 = .ok (.iconst 3, 1) := by decide +kernel
theorem dX3_readPair_7 : decode cX3_readPair 7 = .ok (.if_icmp .ne 16, 3) := by decide +kernel
theorem dX3_readPair_10 : decode cX3_readPair 10 = .ok (.aload_n 1, 1) := by decide +kernel
theorem dX3_readPair_11 : decode cX3_readPair 11 = .ok (.getfield 131, 3) := by decide +kernel
theorem dX3_readPair_14 : decode cX3_readPair 14 = .ok (.iload_n 3, 1) := by decide +kernel
theorem dX3_readPair_15 : decode cX3_readPair 15 = .ok (.invokestatic 41, 3) := by decide +kernel
theorem dX3_readPair_18 : decode cX3_readPair 18 = .ok (.bipush (-9), 2) := by decide +kernel
theorem dX3_readPair_20 : decode cX3_readPair 20 = .ok (.if_icmp .ne 7, 3) := by decide +kernel
theorem dX3_readPair_23 : decode cX3_readPair 23 = .ok (.iconst 1, 1) := by decide +kernel
theorem dX3_readPair_24 : decode cX3_readPair 24 = .ok (.goto 4, 3) := by decide +kernel
theorem dX3_readPair_27 : decode cX3_readPair 27 = .ok (.iconst 0, 1) := by decide +kernel
theorem dX3_readPair_28 : decode cX3_readPair 28 = .ok (.istore 4, 2) := by decide +kernel
theorem dX3_readPair_30 : decode cX3_readPair 30 = .ok (.aload_n 0, 1) := by decide +kernel
theorem dX3_readPair_31 : decode cX3_readPair 31 = .ok (.iload_n 3, 1) := by decide +kernel
theorem dX3_readPair_32 : decode cX3_readPair 32 = .ok (.ifCond .lt 20, 3) := by decide +kernel
theorem dX3_readPair_35 : decode cX3_readPair 35 = .ok (.iload_n 3, 1) := by decide +kernel
theorem dX3_readPair_36 : decode cX3_readPair 36 = .ok (.aload_n 1, 1) := by decide +kernel
theorem dX3_readPair_37 : decode cX3_readPair 37 = .ok (.getfield 106, 3) := by decide +kernel
theorem dX3_readPair_40 : decode cX3_readPair 40 = .ok (.if_icmp .ge 12, 3) := by decide +kernel
theorem dX3_readPair_43 : decode cX3_readPair 43 = .ok (.iload 4, 2) := by decide +kernel
theorem dX3_readPair_45 : decode cX3_readPair 45 = .ok (.ifCond .eq 7, 3) := by decide +kernel
theorem dX3_readPair_48 : decode cX3_readPair 48 = .ok (.iconst 1, 1) := by decide +kernel
theorem dX3_readPair_49 : decode cX3_readPair 49 = .ok (.goto 4, 3) := by decide +kernel
theorem dX3_readPair_52 : decode cX3_readPair 52 = .ok (.iconst 0, 1) := by decide +kernel
theorem dX3_readPair_53 : decode cX3_readPair 53 = .ok (.invokevirtual 102, 3) := by decide +kernel
theorem dX3_readPair_56 : decode cX3_readPair 56 = .ok (.ifCond .ne 5, 3) := by decide +kernel
theorem dX3_readPair_59 : decode cX3_readPair 59 = .ok (.iconst 0, 1) := by decide +kernel
theorem dX3_readPair_60 : decode cX3_readPair 60 = .ok (.ireturn, 1) := by decide +kernel
theorem dX3_readPair_61 : decode cX3_readPair 61 = .ok (.aload_n 0, 1) := by decide +kernel
theorem dX3_readPair_62 : decode cX3_readPair 62 = .ok (.invokevirtual 119, 3) := by decide +kernel
theorem dX3_readPair_65 : decode cX3_readPair 65 = .ok (.istore 5, 2) := by decide +kernel
theorem dX3_readPair_67 : decode cX3_readPair 67 = .ok (.aload_n 0, 1) := by decide +kernel
theorem dX3_readPair_68 : decode cX3_readPair 68 = .ok (.iload 5, 2) := by decide +kernel
theorem dX3_readPair_70 : decode cX3_readPair 70 = .ok (.ifCond .lt 22, 3) := by decide +kernel
theorem dX3_readPair_73 : decode cX3_readPair 73 = .ok (.iload 5, 2) := by decide +kernel
theorem dX3_readPair_75 : decode cX3_readPair 75 = .ok (.aload_n 1, 1) := by decide +kernel
theorem dX3_readPair_76 : decode cX3_readPair 76 = .ok (.getfield 106, 3) := by decide +kernel
theorem dX3_readPair_79 : decode cX3_readPair 79 = .ok (.if_icmp .ge 13, 3) := by decide +kernel
theorem dX3_readPair_82 : decode cX3_readPair 82 = .ok (.iload 5, 2) := by decide +kernel
theorem dX3_readPair_84 : decode cX3_readPair 84 = .ok (.iload_n 3, 1) := by decide +kernel
theorem dX3_readPair_85 : decode cX3_readPair 85 = .ok (.if_icmp .eq 7, 3) := by decide +kernel
theorem dX3_readPair_88 : decode cX3_readPair 88 = .ok (.iconst 1, 1) := by decide +kernel
theorem dX3_readPair_89 : decode cX3_readPair 89 = .ok (.goto 4, 3) := by decide +kernel
theorem dX3_readPair_92 : decode cX3_readPair 92 = .ok (.iconst 0, 1) := by decide +kernel
theorem dX3_readPair_93 : decode cX3_readPair 93 = .ok (.invokevirtual 102, 3) := by decide +kernel
theorem dX3_readPair_96 : decode cX3_readPair 96 = .ok (.ifCond .ne 5, 3) := by decide +kernel
theorem dX3_readPair_99 : decode cX3_readPair 99 = .ok (.iconst 0, 1) := by decide +kernel
theorem dX3_readPair_100 : decode cX3_readPair 100 = .ok (.ireturn, 1) := by decide +kernel
theorem dX3_readPair_101 : decode cX3_readPair 101 = .ok (.iload_n 2, 1) := by decide +kernel
theorem dX3_readPair_102 : decode cX3_readPair 102 = .ok (.iconst 3, 1) := by decide +kernel
theorem dX3_readPair_103 : decode cX3_readPair 103 = .ok (.if_icmp .ne 16, 3) := by decide +kernel
theorem dX3_readPair_106 : decode cX3_readPair 106 = .ok (.aload_n 1, 1) := by decide +kernel
theorem dX3_readPair_107 : decode cX3_readPair 107 = .ok (.getfield 131, 3) := by decide +kernel
theorem dX3_readPair_110 : decode cX3_readPair 110 = .ok (.iload_n 3, 1) := by decide +kernel
theorem dX3_readPair_111 : decode cX3_readPair 111 = .ok (.iload 5, 2) := by decide +kernel
theorem dX3_readPair_113 : decode cX3_readPair 113 = .ok (.invokestatic 62, 3) := by decide +kernel
theorem dX3_readPair_116 : decode cX3_readPair 116 = .ok (.goto 10, 3) := by decide +kernel
theorem dX3_readPair_119 : decode cX3_readPair 119 = .ok (.aload_n 1, 1) := by decide +kernel
theorem dX3_readPair_120 : decode cX3_readPair 120 = .ok (.iload_n 3, 1) := by decide +kernel
theorem dX3_readPair_121 : decode cX3_readPair 121 = .ok (.iload 5, 2) := by decide +kernel
theorem dX3_readPair_123 : decode cX3_readPair 123 = .ok (.invokevirtual 134, 3) := by decide +kernel
theorem dX3_readPair_126 : decode cX3_readPair 126 = .ok (.iload_n 2, 1) := by decide +kernel
theorem dX3_readPair_127 : decode cX3_readPair 127 = .ok (.iconst 2, 1) := by decide +kernel
theorem dX3_readPair_128 : decode cX3_readPair 128 = .ok (.if_icmp .ne 10, 3) := by decide +kernel
theorem dX3_readPair_131 : decode cX3_readPair 131 = .ok (.aload_n 1, 1) := by decide +kernel
theorem dX3_readPair_132 : decode cX3_readPair 132 = .ok (.iload 5, 2) := by decide +kernel
theorem dX3_readPair_134 : decode cX3_readPair 134 = .ok (.iload_n 3, 1) := by decide +kernel
theorem dX3_readPair_135 : decode cX3_readPair 135 = .ok (.invokevirtual 134, 3) := by decide +kernel
theorem dX3_readPair_138 : decode cX3_readPair 138 = .ok (.iconst 1, 1) := by decide +kernel
theorem dX3_readPair_139 : decode cX3_readPair 139 = .ok (.ireturn, 1) := by decide +kernel
theorem dX3_number_0 : decode cX3_number 0 = .ok (.aload_n 0, 1) := by decide +kernel
theorem dX3_number_1 : decode cX3_number 1 = .ok (.getfield 9, 3) := by decide +kernel
theorem dX3_number_4 : decode cX3_number 4 = .ok (.aload_n 0, 1) := by decide +kernel
theorem dX3_number_5 : decode cX3_number 5 = .ok (.getfield 27, 3) := by decide +kernel
theorem dX3_number_8 : decode cX3_number 8 = .ok (.invokestatic 41, 3) := by decide +kernel
theorem dX3_number_11 : decode cX3_number 11 = .ok (.bipush 100, 2) := by decide +kernel
theorem dX3_number_13 : decode cX3_number 13 = .ok (.isub, 1) := by decide +kernel
theorem dX3_number_14 : decode cX3_number 14 = .ok (.ireturn, 1) := by decide +kernel
theorem dX3_take_0 : decode cX3_take 0 = .ok (.iload_n 1, 1) := by decide +kernel
theorem dX3_take_1 : decode cX3_take 1 = .ok (.ifCond .eq 16, 3) := by decide +kernel
theorem dX3_take_4 : decode cX3_take 4 = .ok (.aload_n 0, 1) := by decide +kernel
theorem dX3_take_5 : decode cX3_take 5 = .ok (.dup, 1) := by decide +kernel
theorem dX3_take_6 : decode cX3_take 6 = .ok (.getfield 27, 3) := by decide +kernel
theorem dX3_take_9 : decode cX3_take 9 = .ok (.iconst 1, 1) := by decide +kernel
theorem dX3_take_10 : decode cX3_take 10 = .ok (.iadd, 1) := by decide +kernel
theorem dX3_take_11 : decode cX3_take 11 = .ok (.putfield 27, 3) := by decide +kernel
theorem dX3_take_14 : decode cX3_take 14 = .ok (.goto 18, 3) := by decide +kernel
theorem dX3_take_17 : decode cX3_take 17 = .ok (.aload_n 0, 1) := by decide +kernel
theorem dX3_take_18 : decode cX3_take 18 = .ok (.aload_n 0, 1) := by decide +kernel
theorem dX3_take_19 : decode cX3_take 19 = .ok (.getfield 15, 3) := by decide +kernel
theorem dX3_take_22 : decode cX3_take 22 = .ok (.aload_n 0, 1) := by decide +kernel
theorem dX3_take_23 : decode cX3_take 23 = .ok (.getfield 27, 3) := by decide +kernel
theorem dX3_take_26 : decode cX3_take 26 = .ok (.invokestatic 41, 3) := by decide +kernel
theorem dX3_take_29 : decode cX3_take 29 = .ok (.putfield 31, 3) := by decide +kernel
theorem dX3_take_32 : decode cX3_take 32 = .ok (.iload_n 1, 1) := by decide +kernel
theorem dX3_take_33 : decode cX3_take 33 = .ok (.ireturn, 1) := by decide +kernel
theorem dX4_init_0 : decode cX4_init 0 = .ok (.aload_n 0, 1) := by decide +kernel
theorem dX4_init_1 : decode cX4_init 1 = .ok (.invokespecial 3, 3) := by decide +kernel
theorem dX4_init_4 : decode cX4_init 4 = .ok (.aload_n 0, 1) := by decide +kernel
theorem dX4_init_5 : decode cX4_init 5 = .ok (.sipush 400, 3) := by decide +kernel
theorem dX4_init_8 : decode cX4_init 8 = .ok (.newarray .int, 2) := by decide +kernel
theorem dX4_init_10 : decode cX4_init 10 = .ok (.putfield 9, 3) := by decide +kernel
theorem dX4_init_13 : decode cX4_init 13 = .ok (.return_, 1) := by decide +kernel
theorem dX4_add_0 : decode cX4_add 0 = .ok (.aload_n 0, 1) := by decide +kernel
theorem dX4_add_1 : decode cX4_add 1 = .ok (.getfield 15, 3) := by decide +kernel
theorem dX4_add_4 : decode cX4_add 4 = .ok (.sipush 400, 3) := by decide +kernel
theorem dX4_add_7 : decode cX4_add 7 = .ok (.if_icmp .ge 25, 3) := by decide +kernel
theorem dX4_add_10 : decode cX4_add 10 = .ok (.aload_n 0, 1) := by decide +kernel
theorem dX4_add_11 : decode cX4_add 11 = .ok (.getfield 9, 3) := by decide +kernel
theorem dX4_add_14 : decode cX4_add 14 = .ok (.aload_n 0, 1) := by decide +kernel
theorem dX4_add_15 : decode cX4_add 15 = .ok (.getfield 15, 3) := by decide +kernel
theorem dX4_add_18 : decode cX4_add 18 = .ok (.iload_n 1, 1) := by decide +kernel
theorem dX4_add_19 : decode cX4_add 19 = .ok (.invokestatic 19, 3) := by decide +kernel
theorem dX4_add_22 : decode cX4_add 22 = .ok (.aload_n 0, 1) := by decide +kernel
theorem dX4_add_23 : decode cX4_add 23 = .ok (.dup, 1) := by decide +kernel
theorem dX4_add_24 : decode cX4_add 24 = .ok (.getfield 15, 3) := by decide +kernel
theorem dX4_add_27 : decode cX4_add 27 = .ok (.iconst 1, 1) := by decide +kernel
theorem dX4_add_28 : decode cX4_add 28 = .ok (.iadd, 1) := by decide +kernel
theorem dX4_add_29 : decode cX4_add 29 = .ok (.putfield 15, 3) := by decide +kernel
theorem dX4_add_32 : decode cX4_add 32 = .ok (.return_, 1) := by decide +kernel
theorem dX4_byteAt_0 : decode cX4_byteAt 0 = .ok (.iload_n 1, 1) := by decide +kernel
theorem dX4_byteAt_1 : decode cX4_byteAt 1 = .ok (.aload_n 0, 1) := by decide +kernel
theorem dX4_byteAt_2 : decode cX4_byteAt 2 = .ok (.getfield 15, 3) := by decide +kernel
theorem dX4_byteAt_5 : decode cX4_byteAt 5 = .ok (.if_icmp .ge 14, 3) := by decide +kernel
theorem dX4_byteAt_8 : decode cX4_byteAt 8 = .ok (.aload_n 0, 1) := by decide +kernel
theorem dX4_byteAt_9 : decode cX4_byteAt 9 = .ok (.getfield 9, 3) := by decide +kernel
theorem dX4_byteAt_12 : decode cX4_byteAt 12 = .ok (.iload_n 1, 1) := by decide +kernel
theorem dX4_byteAt_13 : decode cX4_byteAt 13 = .ok (.invokestatic 23, 3) := by decide +kernel
theorem dX4_byteAt_16 : decode cX4_byteAt 16 = .ok (.goto 4, 3) := by decide +kernel
theorem dX4_byteAt_19 : decode cX4_byteAt 19 = .ok (.iconst 0, 1) := by decide +kernel
theorem dX4_byteAt_20 : decode cX4_byteAt 20 = .ok (.ireturn, 1) := by decide +kernel
theorem dX4_begins_0 : decode cX4_begins 0 = .ok (.aload_n 0, 1) := by decide +kernel
theorem dX4_begins_1 : decode cX4_begins 1 = .ok (.iload_n 1, 1) := by decide +kernel
theorem dX4_begins_2 : decode cX4_begins 2 = .ok (.iconst 1, 1) := by decide +kernel
theorem dX4_begins_3 : decode cX4_begins 3 = .ok (.isub, 1) := by decide +kernel
theorem dX4_begins_4 : decode cX4_begins 4 = .ok (.invokevirtual 27, 3) := by decide +kernel
theorem dX4_begins_7 : decode cX4_begins 7 = .ok (.istore_n 2, 1) := by decide +kernel
theorem dX4_begins_8 : decode cX4_begins 8 = .ok (.aload_n 0, 1) := by decide +kernel
theorem dX4_begins_9 : decode cX4_begins 9 = .ok (.iload_n 1, 1) := by decide +kernel
theorem dX4_begins_10 : decode cX4_begins 10 = .ok (.invokevirtual 27, 3) := by decide +kernel
theorem dX4_begins_13 : decode cX4_begins 13 = .ok (.istore_n 3, 1) := by decide +kernel
theorem dX4_begins_14 : decode cX4_begins 14 = .ok (.iload_n 2, 1) := by decide +kernel
theorem dX4_begins_15 : decode cX4_begins 15 = .ok (.invokestatic 31, 3) := by decide +kernel
theorem dX4_begins_18 : decode cX4_begins 18 = .ok (.ifCond .eq 14, 3) := by decide +kernel
theorem dX4_begins_21 : decode cX4_begins 21 = .ok (.iload_n 3, 1) := by decide +kernel
theorem dX4_begins_22 : decode cX4_begins 22 = .ok (.invokestatic 31, 3) := by decide +kernel
theorem dX4_begins_25 : decode cX4_begins 25 = .ok (.ifCond .eq 7, 3) := by decide +kernel
theorem dX4_begins_28 : decode cX4_begins 28 = .ok (.iconst 1, 1) := by decide +kernel
theorem dX4_begins_29 : decode cX4_begins 29 = .ok (.goto 4, 3) := by decide +kernel
theorem dX4_begins_32 : decode cX4_begins 32 = .ok (.iconst 0, 1) := by decide +kernel
theorem dX4_begins_33 : decode cX4_begins 33 = .ok (.istore 4, 2) := by decide +kernel
theorem dX4_begins_35 : decode cX4_begins 35 = .ok (.iload_n 2, 1) := by decide +kernel
theorem dX4_begins_36 : decode cX4_begins 36 = .ok (.invokestatic 35, 3) := by decide +kernel
theorem dX4_begins_39 : decode cX4_begins 39 = .ok (.ifCond .eq 14, 3) := by decide +kernel
theorem dX4_begins_42 : decode cX4_begins 42 = .ok (.iload_n 3, 1) := by decide +kernel
theorem dX4_begins_43 : decode cX4_begins 43 = .ok (.invokestatic 35, 3) := by decide +kernel
theorem dX4_begins_46 : decode cX4_begins 46 = .ok (.ifCond .eq 7, 3) := by decide +kernel
theorem dX4_begins_49 : decode cX4_begins 49 = .ok (.iconst 1, 1) := by decide +kernel
theorem dX4_begins_50 : decode cX4_begins 50 = .ok (.goto 4, 3) := by decide +kernel
theorem dX4_begins_53 : decode cX4_begins 53 = .ok (.iconst 0, 1) := by decide +kernel
theorem dX4_begins_54 : decode cX4_begins 54 = .ok (.istore 5, 2) := by decide +kernel
theorem dX4_begins_56 : decode cX4_begins 56 = .ok (.iload_n 3, 1) := by decide +kernel
theorem dX4_begins_57 : decode cX4_begins 57 = .ok (.bipush 32, 2) := by decide +kernel
theorem dX4_begins_59 : decode cX4_begins 59 = .ok (.if_icmp .eq 17, 3) := by decide +kernel
theorem dX4_begins_62 : decode cX4_begins 62 = .ok (.iload 4, 2) := by decide +kernel
theorem dX4_begins_64 : decode cX4_begins 64 = .ok (.ifCond .ne 12, 3) := by decide +kernel
theorem dX4_begins_67 : decode cX4_begins 67 = .ok (.iload 5, 2) := by decide +kernel
theorem dX4_begins_69 : decode cX4_begins 69 = .ok (.ifCond .ne 7, 3) := by decide +kernel
theorem dX4_begins_72 : decode cX4_begins 72 = .ok (.iconst 1, 1) := by decide +kernel
theorem dX4_begins_73 : decode cX4_begins 73 = .ok (.goto 4, 3) := by decide +kernel
theorem dX4_begins_76 : decode cX4_begins 76 = .ok (.iconst 0, 1) := by decide +kernel
theorem dX4_begins_77 : decode cX4_begins 77 = .ok (.ireturn, 1) := by decide +kernel
theorem dX4_isLetter_0 : decode cX4_isLetter 0 = .ok (.iload_n 0, 1) := by decide +kernel
theorem dX4_isLetter_1 : decode cX4_isLetter 1 = .ok (.bipush 97, 2) := by decide +kernel
theorem dX4_isLetter_3 : decode cX4_isLetter 3 = .ok (.if_icmp .lt 13, 3) := by decide +kernel
theorem dX4_isLetter_6 : decode cX4_isLetter 6 = .ok (.iload_n 0, 1) := by decide +kernel
theorem dX4_isLetter_7 : decode cX4_isLetter 7 = .ok (.bipush 122, 2) := by decide +kernel
theorem dX4_isLetter_9 : decode cX4_isLetter 9 = .ok (.if_icmp .gt 7, 3) := by decide +kernel
theorem dX4_isLetter_12 : decode cX4_isLetter 12 = .ok (.iconst 1, 1) := by decide +kernel
theorem dX4_isLetter_13 : decode cX4_isLetter 13 = .ok (.goto 4, 3) := by decide +kernel
theorem dX4_isLetter_16 : decode cX4_isLetter 16 = .ok (.iconst 0, 1) := by decide +kernel
theorem dX4_isLetter_17 : decode cX4_isLetter 17 = .ok (.ireturn, 1) := by decide +kernel
theorem dX4_isDigit_0 : decode cX4_isDigit 0 = .ok (.iload_n 0, 1) := by decide +kernel
theorem dX4_isDigit_1 : decode cX4_isDigit 1 = .ok (.bipush 48, 2) := by decide +kernel
theorem dX4_isDigit_3 : decode cX4_isDigit 3 = .ok (.if_icmp .lt 13, 3) := by decide +kernel
theorem dX4_isDigit_6 : decode cX4_isDigit 6 = .ok (.iload_n 0, 1) := by decide +kernel
theorem dX4_isDigit_7 : decode cX4_isDigit 7 = .ok (.bipush 57, 2) := by decide +kernel
theorem dX4_isDigit_9 : decode cX4_isDigit 9 = .ok (.if_icmp .gt 7, 3) := by decide +kernel
theorem dX4_isDigit_12 : decode cX4_isDigit 12 = .ok (.iconst 1, 1) := by decide +kernel
theorem dX4_isDigit_13 : decode cX4_isDigit 13 = .ok (.goto 4, 3) := by decide +kernel
theorem dX4_isDigit_16 : decode cX4_isDigit 16 = .ok (.iconst 0, 1) := by decide +kernel
theorem dX4_isDigit_17 : decode cX4_isDigit 17 = .ok (.ireturn, 1) := by decide +kernel
theorem dX5_init_0 : decode cX5_init 0 = .ok (.aload_n 0, 1) := by decide +kernel
theorem dX5_init_1 : decode cX5_init 1 = .ok (.invokespecial 3, 3) := by decide +kernel
theorem dX5_init_4 : decode cX5_init 4 = .ok (.aload_n 0, 1) := by decide +kernel
theorem dX5_init_5 : decode cX5_init 5 = .ok (.bipush 8, 2) := by decide +kernel
theorem dX5_init_7 : decode cX5_init 7 = .ok (.newarray .int, 2) := by decide +kernel
theorem dX5_init_9 : decode cX5_init 9 = .ok (.putfield 9, 3) := by decide +kernel
theorem dX5_init_12 : decode cX5_init 12 = .ok (.aload_n 0, 1) := by decide +kernel
theorem dX5_init_13 : decode cX5_init 13 = .ok (.bipush 8, 2) := by decide +kernel
theorem dX5_init_15 : decode cX5_init 15 = .ok (.newarray .int, 2) := by decide +kernel
theorem dX5_init_17 : decode cX5_init 17 = .ok (.putfield 15, 3) := by decide +kernel
theorem dX5_init_20 : decode cX5_init 20 = .ok (.aload_n 0, 1) := by decide +kernel
theorem dX5_init_21 : decode cX5_init 21 = .ok (.invokevirtual 18, 3) := by decide +kernel
theorem dX5_init_24 : decode cX5_init 24 = .ok (.return_, 1) := by decide +kernel
theorem dX5_empty_0 : decode cX5_empty 0 = .ok (.aload_n 0, 1) := by decide +kernel
theorem dX5_empty_1 : decode cX5_empty 1 = .ok (.getfield 9, 3) := by decide +kernel
theorem dX5_empty_4 : decode cX5_empty 4 = .ok (.iconst 0, 1) := by decide +kernel
theorem dX5_empty_5 : decode cX5_empty 5 = .ok (.invokestatic 21, 3) := by decide +kernel
theorem dX5_empty_8 : decode cX5_empty 8 = .ok (.aload_n 0, 1) := by decide +kernel
theorem dX5_empty_9 : decode cX5_empty 9 = .ok (.getfield 15, 3) := by decide +kernel
theorem dX5_empty_12 : decode cX5_empty 12 = .ok (.bipush (-9), 2) := by decide +kernel
theorem dX5_empty_14 : decode cX5_empty 14 = .ok (.invokestatic 21, 3) := by decide +kernel
theorem dX5_empty_17 : decode cX5_empty 17 = .ok (.aload_n 0, 1) := by decide +kernel
theorem dX5_empty_18 : decode cX5_empty 18 = .ok (.iconst 0, 1) := by decide +kernel
theorem dX5_empty_19 : decode cX5_empty 19 = .ok (.putfield 25, 3) := by decide +kernel
theorem dX5_empty_22 : decode cX5_empty 22 = .ok (.aload_n 0, 1) := by decide +kernel
theorem dX5_empty_23 : decode cX5_empty 23 = .ok (.iconst 0, 1) := by decide +kernel
theorem dX5_empty_24 : decode cX5_empty 24 = .ok (.putfield 29, 3) := by decide +kernel
theorem dX5_empty_27 : decode cX5_empty 27 = .ok (.aload_n 0, 1) := by decide +kernel
theorem dX5_empty_28 : decode cX5_empty 28 = .ok (.iconst 0, 1) := by decide +kernel
theorem dX5_empty_29 : decode cX5_empty 29 = .ok (.putfield 32, 3) := by decide +kernel
theorem dX5_empty_32 : decode cX5_empty 32 = .ok (.aload_n 0, 1) := by decide +kernel
theorem dX5_empty_33 : decode cX5_empty 33 = .ok (.iconst 2, 1) := by decide +kernel
theorem dX5_empty_34 : decode cX5_empty 34 = .ok (.putfield 35, 3) := by decide +kernel
theorem dX5_empty_37 : decode cX5_empty 37 = .ok (.return_, 1) := by decide +kernel
theorem dX5_tell_0 : decode cX5_tell 0 = .ok (.aload_n 0, 1) := by decide +kernel
theorem dX5_tell_1 : decode cX5_tell 1 = .ok (.getfield 9, 3) := by decide +kernel
theorem dX5_tell_4 : decode cX5_tell 4 = .ok (.iload_n 2, 1) := by decide +kernel
theorem dX5_tell_5 : decode cX5_tell 5 = .ok (.aload_n 0, 1) := by decide +kernel
theorem dX5_tell_6 : decode cX5_tell 6 = .ok (.getfield 9, 3) := by decide +kernel
theorem dX5_tell_9 : decode cX5_tell 9 = .ok (.iload_n 2, 1) := by decide +kernel
theorem dX5_tell_10 : decode cX5_tell 10 = .ok (.invokestatic 38, 3) := by decide +kernel
theorem dX5_tell_13 : decode cX5_tell 13 = .ok (.iconst 1, 1) := by decide +kernel
theorem dX5_tell_14 : decode cX5_tell 14 = .ok (.iload_n 1, 1) := by decide +kernel
theorem dX5_tell_15 : decode cX5_tell 15 = .ok (.ishl, 1) := by decide +kernel
theorem dX5_tell_16 : decode cX5_tell 16 = .ok (.ior, 1) := by decide +kernel
theorem dX5_tell_17 : decode cX5_tell 17 = .ok (.invokestatic 42, 3) := by decide +kernel
theorem dX5_tell_20 : decode cX5_tell 20 = .ok (.return_, 1) := by decide +kernel
theorem dX5_everyone_0 : decode cX5_everyone 0 = .ok (.iconst 1, 1) := by decide +kernel
theorem dX5_everyone_1 : decode cX5_everyone 1 = .ok (.aload_n 0, 1) := by decide +kernel
theorem dX5_everyone_2 : decode cX5_everyone 2 = .ok (.getfield 25, 3) := by decide +kernel
theorem dX5_everyone_5 : decode cX5_everyone 5 = .ok (.ishl, 1) := by decide +kernel
theorem dX5_everyone_6 : decode cX5_everyone 6 = .ok (.iconst 1, 1) := by decide +kernel
theorem dX5_everyone_7 : decode cX5_everyone 7 = .ok (.isub, 1) := by decide +kernel
theorem dX5_everyone_8 : decode cX5_everyone 8 = .ok (.ireturn, 1) := by decide +kernel
theorem dX5_habits_0 : decode cX5_habits 0 = .ok (.iconst 0, 1) := by decide +kernel
theorem dX5_habits_1 : decode cX5_habits 1 = .ok (.istore_n 1, 1) := by decide +kernel
theorem dX5_habits_2 : decode cX5_habits 2 = .ok (.iconst 0, 1) := by decide +kernel
theorem dX5_habits_3 : decode cX5_habits 3 = .ok (.istore_n 2, 1) := by decide +kernel
theorem dX5_habits_4 : decode cX5_habits 4 = .ok (.iload_n 2, 1) := by decide +kernel
theorem dX5_habits_5 : decode cX5_habits 5 = .ok (.aload_n 0, 1) := by decide +kernel
theorem dX5_habits_6 : decode cX5_habits 6 = .ok (.getfield 25, 3) := by decide +kernel
theorem dX5_habits_9 : decode cX5_habits 9 = .ok (.if_icmp .ge 25, 3) := by decide +kernel
theorem dX5_habits_12 : decode cX5_habits 12 = .ok (.aload_n 0, 1) := by decide +kernel
theorem dX5_habits_13 : decode cX5_habits 13 = .ok (.getfield 15, 3) := by decide +kernel
theorem dX5_habits_16 : decode cX5_habits 16 = .ok (.iload_n 2, 1) := by decide +kernel
theorem dX5_habits_17 : decode cX5_habits 17 = .ok (.invokestatic 38, 3) := by decide +kernel
theorem dX5_habits_20 : decode cX5_habits 20 = .ok (.bipush (-9), 2) := by decide +kernel
theorem dX5_habits_22 : decode cX5_habits 22 = .ok (.if_icmp .eq 6, 3) := by decide +kernel
theorem dX5_habits_25 : decode cX5_habits 25 = .ok (.iinc 1 1, 3) := by decide +kernel
theorem dX5_habits_28 : decode cX5_habits 28 = .ok (.iinc 2 1, 3) := by decide +kernel
theorem dX5_habits_31 : decode cX5_habits 31 = .ok (.goto (-27), 3) := by decide +kernel
theorem dX5_habits_34 : decode cX5_habits 34 = .ok (.iload_n 1, 1) := by decide +kernel
theorem dX5_habits_35 : decode cX5_habits 35 = .ok (.ireturn, 1) := by decide +kernel
theorem dX5_choose_0 : decode cX5_choose 0 = .ok (.aload_n 0, 1) := by decide +kernel
theorem dX5_choose_1 : decode cX5_choose 1 = .ok (.invokevirtual 46, 3) := by decide +kernel
theorem dX5_choose_4 : decode cX5_choose 4 = .ok (.istore_n 2, 1) := by decide +kernel
theorem dX5_choose_5 : decode cX5_choose 5 = .ok (.aload_n 1, 1) := by decide +kernel
theorem dX5_choose_6 : decode cX5_choose 6 = .ok (.getfield 50, 3) := by decide +kernel
theorem dX5_choose_9 : decode cX5_choose 9 = .ok (.iload_n 2, 1) := by decide +kernel
theorem dX5_choose_10 : decode cX5_choose 10 = .ok (.invokestatic 55, 3) := by decide +kernel
theorem dX5_choose_13 : decode cX5_choose 13 = .ok (.istore_n 3, 1) := by decide +kernel
theorem dX5_choose_14 : decode cX5_choose 14 = .ok (.iload_n 2, 1) := by decide +kernel
theorem dX5_choose_15 : decode cX5_choose 15 = .ok (.iconst 1, 1) := by decide +kernel
theorem dX5_choose_16 : decode cX5_choose 16 = .ok (.iload_n 3, 1) := by decide +kernel
theorem dX5_choose_17 : decode cX5_choose 17 = .ok (.ishl, 1) := by decide +kernel
theorem dX5_choose_18 : decode cX5_choose 18 = .ok (.iconst (-1), 1) := by decide +kernel
theorem dX5_choose_19 : decode cX5_choose 19 = .ok (.ixor, 1) := by decide +kernel
theorem dX5_choose_20 : decode cX5_choose 20 = .ok (.iand, 1) := by decide +kernel
theorem dX5_choose_21 : decode cX5_choose 21 = .ok (.istore 4, 2) := by decide +kernel
theorem dX5_choose_23 : decode cX5_choose 23 = .ok (.iload_n 2, 1) := by decide +kernel
theorem dX5_choose_24 : decode cX5_choose 24 = .ok (.aload_n 1, 1) := by decide +kernel
theorem dX5_choose_25 : decode cX5_choose 25 = .ok (.getfield 58, 3) := by decide +kernel
theorem dX5_choose_28 : decode cX5_choose 28 = .ok (.iconst (-1), 1) := by decide +kernel
theorem dX5_choose_29 : decode cX5_choose 29 = .ok (.ixor, 1) := by decide +kernel
theorem dX5_choose_30 : decode cX5_choose 30 = .ok (.iand, 1) := by decide +kernel
theorem dX5_choose_31 : decode cX5_choose 31 = .ok (.istore 5, 2) := by decide +kernel
theorem dX5_choose_33 : decode cX5_choose 33 = .ok (.aload_n 0, 1) := by decide +kernel
theorem dX5_choose_34 : decode cX5_choose 34 = .ok (.getfield 32, 3) := by decide +kernel
theorem dX5_choose_37 : decode cX5_choose 37 = .ok (.tableswitch 75 1 3 #[27, 46, 56], 27) := by decide +kernel
theorem dX5_choose_64 : decode cX5_choose 64 = .ok (.iload 4, 2) := by decide +kernel
theorem dX5_choose_66 : decode cX5_choose 66 = .ok (.ifCond .ne 7, 3) := by decide +kernel
theorem dX5_choose_69 : decode cX5_choose 69 = .ok (.iload_n 3, 1) := by decide +kernel
theorem dX5_choose_70 : decode cX5_choose 70 = .ok (.goto 12, 3) := by decide +kernel
theorem dX5_choose_73 : decode cX5_choose 73 = .ok (.aload_n 1, 1) := by decide +kernel
theorem dX5_choose_74 : decode cX5_choose 74 = .ok (.getfield 50, 3) := by decide +kernel
theorem dX5_choose_77 : decode cX5_choose 77 = .ok (.iload 4, 2) := by decide +kernel
theorem dX5_choose_79 : decode cX5_choose 79 = .ok (.invokestatic 55, 3) := by decide +kernel
theorem dX5_choose_82 : decode cX5_choose 82 = .ok (.ireturn, 1) := by decide +kernel
theorem dX5_choose_83 : decode cX5_choose 83 = .ok (.aload_n 0, 1) := by decide +kernel
theorem dX5_choose_84 : decode cX5_choose 84 = .ok (.aload_n 1, 1) := by decide +kernel
theorem dX5_choose_85 : decode cX5_choose 85 = .ok (.getfield 50, 3) := by decide +kernel
theorem dX5_choose_88 : decode cX5_choose 88 = .ok (.iload_n 3, 1) := by decide +kernel
theorem dX5_choose_89 : decode cX5_choose 89 = .ok (.invokevirtual 61, 3) := by decide +kernel
theorem dX5_choose_92 : decode cX5_choose 92 = .ok (.ireturn, 1) := by decide +kernel
theorem dX5_choose_93 : decode cX5_choose 93 = .ok (.iload 5, 2) := by decide +kernel
theorem dX5_choose_95 : decode cX5_choose 95 = .ok (.ifCond .ne 7, 3) := by decide +kernel
theorem dX5_choose_98 : decode cX5_choose 98 = .ok (.iload_n 3, 1) := by decide +kernel
theorem dX5_choose_99 : decode cX5_choose 99 = .ok (.goto 12, 3) := by decide +kernel
theorem dX5_choose_102 : decode cX5_choose 102 = .ok (.aload_n 1, 1) := by decide +kernel
theorem dX5_choose_103 : decode cX5_choose 103 = .ok (.getfield 50, 3) := by decide +kernel
theorem dX5_choose_106 : decode cX5_choose 106 = .ok (.iload 5, 2) := by decide +kernel
theorem dX5_choose_108 : decode cX5_choose 108 = .ok (.invokestatic 55, 3) := by decide +kernel
theorem dX5_choose_111 : decode cX5_choose 111 = .ok (.ireturn, 1) := by decide +kernel
theorem dX5_choose_112 : decode cX5_choose 112 = .ok (.iload_n 3, 1) := by decide +kernel
theorem dX5_choose_113 : decode cX5_choose 113 = .ok (.ireturn, 1) := by decide +kernel
theorem dX5_leastOf_0 : decode cX5_leastOf 0 = .ok (.iconst 0, 1) := by decide +kernel
theorem dX5_leastOf_1 : decode cX5_leastOf 1 = .ok (.istore_n 2, 1) := by decide +kernel
theorem dX5_leastOf_2 : decode cX5_leastOf 2 = .ok (.bipush 8, 2) := by decide +kernel
theorem dX5_leastOf_4 : decode cX5_leastOf 4 = .ok (.istore_n 3, 1) := by decide +kernel
theorem dX5_leastOf_5 : decode cX5_leastOf 5 = .ok (.iconst 0, 1) := by decide +kernel
theorem dX5_leastOf_6 : decode cX5_leastOf 6 = .ok (.istore 4, 2) := by decide +kernel
theorem dX5_leastOf_8 : decode cX5_leastOf 8 = .ok (.iload 4, 2) := by decide +kernel
theorem dX5_leastOf_10 : decode cX5_leastOf 10 = .ok (.bipush 8, 2) := by decide +kernel
theorem dX5_leastOf_12 : decode cX5_leastOf 12 = .ok (.if_icmp .ge 39, 3) := by decide +kernel
theorem dX5_leastOf_15 : decode cX5_leastOf 15 = .ok (.aload_n 0, 1) := by decide +kernel
theorem dX5_leastOf_16 : decode cX5_leastOf 16 = .ok (.iload 4, 2) := by decide +kernel
theorem dX5_leastOf_18 : decode cX5_leastOf 18 = .ok (.invokestatic 38, 3) := by decide +kernel
theorem dX5_leastOf_21 : decode cX5_leastOf 21 = .ok (.istore 5, 2) := by decide +kernel
theorem dX5_leastOf_23 : decode cX5_leastOf 23 = .ok (.iload_n 1, 1) := by decide +kernel
theorem dX5_leastOf_24 : decode cX5_leastOf 24 = .ok (.iload 4, 2) := by decide +kernel
theorem dX5_leastOf_26 : decode cX5_leastOf 26 = .ok (.ishr, 1) := by decide +kernel
theorem dX5_leastOf_27 : decode cX5_leastOf 27 = .ok (.iconst 1, 1) := by decide +kernel
theorem dX5_leastOf_28 : decode cX5_leastOf 28 = .ok (.iand, 1) := by decide +kernel
theorem dX5_leastOf_29 : decode cX5_leastOf 29 = .ok (.iconst 1, 1) := by decide +kernel
theorem dX5_leastOf_30 : decode cX5_leastOf 30 = .ok (.if_icmp .ne 15, 3) := by decide +kernel
theorem dX5_leastOf_33 : decode cX5_leastOf 33 = .ok (.iload 5, 2) := by decide +kernel
theorem dX5_leastOf_35 : decode cX5_leastOf 35 = .ok (.iload_n 3, 1) := by decide +kernel
theorem dX5_leastOf_36 : decode cX5_leastOf 36 = .ok (.if_icmp .ge 9, 3) := by decide +kernel
theorem dX5_leastOf_39 : decode cX5_leastOf 39 = .ok (.iload 5, 2) := by decide +kernel
theorem dX5_leastOf_41 : decode cX5_leastOf 41 = .ok (.istore_n 3, 1) := by decide +kernel
theorem dX5_leastOf_42 : decode cX5_leastOf 42 = .ok (.iload 4, 2) := by decide +kernel
theorem dX5_leastOf_44 : decode cX5_leastOf 44 = .ok (.istore_n 2, 1) := by decide +kernel
theorem dX5_leastOf_45 : decode cX5_leastOf 45 = .ok (.iinc 4 1, 3) := by decide +kernel
theorem dX5_leastOf_48 : decode cX5_leastOf 48 = .ok (.goto (-40), 3) := by decide +kernel
theorem dX5_leastOf_51 : decode cX5_leastOf 51 = .ok (.iload_n 2, 1) := by decide +kernel
theorem dX5_leastOf_52 : decode cX5_leastOf 52 = .ok (.ireturn, 1) := by decide +kernel
theorem dX5_firstWith_0 : decode cX5_firstWith 0 = .ok (.iconst 0, 1) := by decide +kernel
theorem dX5_firstWith_1 : decode cX5_firstWith 1 = .ok (.istore_n 3, 1) := by decide +kernel
theorem dX5_firstWith_2 : decode cX5_firstWith 2 = .ok (.iload_n 3, 1) := by decide +kernel
theorem dX5_firstWith_3 : decode cX5_firstWith 3 = .ok (.aload_n 0, 1) := by decide +kernel
theorem dX5_firstWith_4 : decode cX5_firstWith 4 = .ok (.getfield 25, 3) := by decide +kernel
theorem dX5_firstWith_7 : decode cX5_firstWith 7 = .ok (.if_icmp .ge 23, 3) := by decide +kernel
theorem dX5_firstWith_10 : decode cX5_firstWith 10 = .ok (.aload_n 1, 1) := by decide +kernel
theorem dX5_firstWith_11 : decode cX5_firstWith 11 = .ok (.iload_n 3, 1) := by decide +kernel
theorem dX5_firstWith_12 : decode cX5_firstWith 12 = .ok (.invokestatic 38, 3) := by decide +kernel
theorem dX5_firstWith_15 : decode cX5_firstWith 15 = .ok (.aload_n 0, 1) := by decide +kernel
theorem dX5_firstWith_16 : decode cX5_firstWith 16 = .ok (.getfield 35, 3) := by decide +kernel
theorem dX5_firstWith_19 : decode cX5_firstWith 19 = .ok (.if_icmp .ne 5, 3) := by decide +kernel
theorem dX5_firstWith_22 : decode cX5_firstWith 22 = .ok (.iload_n 3, 1) := by decide +kernel
theorem dX5_firstWith_23 : decode cX5_firstWith 23 = .ok (.ireturn, 1) := by decide +kernel
theorem dX5_firstWith_24 : decode cX5_firstWith 24 = .ok (.iinc 3 1, 3) := by decide +kernel
theorem dX5_firstWith_27 : decode cX5_firstWith 27 = .ok (.goto (-25), 3) := by decide +kernel
theorem dX5_firstWith_30 : decode cX5_firstWith 30 = .ok (.iload_n 2, 1) := by decide +kernel
theorem dX5_firstWith_31 : decode cX5_firstWith 31 = .ok (.ireturn, 1) := by decide +kernel
theorem dX6_init_0 : decode cX6_init 0 = .ok (.aload_n 0, 1) := by decide +kernel
theorem dX6_init_1 : decode cX6_init 1 = .ok (.invokespecial 1, 3) := by decide +kernel
theorem dX6_init_4 : decode cX6_init 4 = .ok (.aload_n 0, 1) := by decide +kernel
theorem dX6_init_5 : decode cX6_init 5 = .ok (.new 7, 3) := by decide +kernel
theorem dX6_init_8 : decode cX6_init 8 = .ok (.dup, 1) := by decide +kernel
theorem dX6_init_9 : decode cX6_init 9 = .ok (.invokespecial 9, 3) := by decide +kernel
theorem dX6_init_12 : decode cX6_init 12 = .ok (.putfield 10, 3) := by decide +kernel
theorem dX6_init_15 : decode cX6_init 15 = .ok (.aload_n 0, 1) := by decide +kernel
theorem dX6_init_16 : decode cX6_init 16 = .ok (.new 16, 3) := by decide +kernel
theorem dX6_init_19 : decode cX6_init 19 = .ok (.dup, 1) := by decide +kernel
theorem dX6_init_20 : decode cX6_init 20 = .ok (.invokespecial 18, 3) := by decide +kernel
theorem dX6_init_23 : decode cX6_init 23 = .ok (.putfield 19, 3) := by decide +kernel
theorem dX6_init_26 : decode cX6_init 26 = .ok (.aload_n 0, 1) := by decide +kernel
theorem dX6_init_27 : decode cX6_init 27 = .ok (.new 23, 3) := by decide +kernel
theorem dX6_init_30 : decode cX6_init 30 = .ok (.dup, 1) := by decide +kernel
theorem dX6_init_31 : decode cX6_init 31 = .ok (.invokespecial 25, 3) := by decide +kernel
theorem dX6_init_34 : decode cX6_init 34 = .ok (.putfield 26, 3) := by decide +kernel
theorem dX6_init_37 : decode cX6_init 37 = .ok (.aload_n 0, 1) := by decide +kernel
theorem dX6_init_38 : decode cX6_init 38 = .ok (.new 30, 3) := by decide +kernel
theorem dX6_init_41 : decode cX6_init 41 = .ok (.dup, 1) := by decide +kernel
theorem dX6_init_42 : decode cX6_init 42 = .ok (.invokespecial 32, 3) := by decide +kernel
theorem dX6_init_45 : decode cX6_init 45 = .ok (.putfield 33, 3) := by decide +kernel
theorem dX6_init_48 : decode cX6_init 48 = .ok (.aload_n 0, 1) := by decide +kernel
theorem dX6_init_49 : decode cX6_init 49 = .ok (.new 30, 3) := by decide +kernel
theorem dX6_init_52 : decode cX6_init 52 = .ok (.dup, 1) := by decide +kernel
theorem dX6_init_53 : decode cX6_init 53 = .ok (.invokespecial 32, 3) := by decide +kernel
theorem dX6_init_56 : decode cX6_init 56 = .ok (.putfield 37, 3) := by decide +kernel
theorem dX6_init_59 : decode cX6_init 59 = .ok (.aload_n 0, 1) := by decide +kernel
theorem dX6_init_60 : decode cX6_init 60 = .ok (.new 40, 3) := by decide +kernel
theorem dX6_init_63 : decode cX6_init 63 = .ok (.dup, 1) := by decide +kernel
theorem dX6_init_64 : decode cX6_init 64 = .ok (.invokespecial 42, 3) := by decide +kernel
theorem dX6_init_67 : decode cX6_init 67 = .ok (.putfield 43, 3) := by decide +kernel
theorem dX6_init_70 : decode cX6_init 70 = .ok (.aload_n 0, 1) := by decide +kernel
theorem dX6_init_71 : decode cX6_init 71 = .ok (.new 47, 3) := by decide +kernel
theorem dX6_init_74 : decode cX6_init 74 = .ok (.dup, 1) := by decide +kernel
theorem dX6_init_75 : decode cX6_init 75 = .ok (.invokespecial 49, 3) := by decide +kernel
theorem dX6_init_78 : decode cX6_init 78 = .ok (.putfield 50, 3) := by decide +kernel
theorem dX6_init_81 : decode cX6_init 81 = .ok (.aload_n 0, 1) := by decide +kernel
theorem dX6_init_82 : decode cX6_init 82 = .ok (.new 47, 3) := by decide +kernel
theorem dX6_init_85 : decode cX6_init 85 = .ok (.dup, 1) := by decide +kernel
theorem dX6_init_86 : decode cX6_init 86 = .ok (.invokespecial 49, 3) := by decide +kernel
theorem dX6_init_89 : decode cX6_init 89 = .ok (.putfield 54, 3) := by decide +kernel
theorem dX6_init_92 : decode cX6_init 92 = .ok (.aload_n 0, 1) := by decide +kernel
theorem dX6_init_93 : decode cX6_init 93 = .ok (.getfield 26, 3) := by decide +kernel
theorem dX6_init_96 : decode cX6_init 96 = .ok (.aload_n 0, 1) := by decide +kernel
theorem dX6_init_97 : decode cX6_init 97 = .ok (.getfield 50, 3) := by decide +kernel
theorem dX6_init_100 : decode cX6_init 100 = .ok (.invokevirtual 57, 3) := by decide +kernel
theorem dX6_init_103 : decode cX6_init 103 = .ok (.return_, 1) := by decide +kernel
theorem dX6_type_0 : decode cX6_type 0 = .ok (.iload_n 3, 1) := by decide +kernel
theorem dX6_type_1 : decode cX6_type 1 = .ok (.iconst 1, 1) := by decide +kernel
theorem dX6_type_2 : decode cX6_type 2 = .ok (.if_icmp .lt 9, 3) := by decide +kernel
theorem dX6_type_5 : decode cX6_type 5 = .ok (.iload_n 3, 1) := by decide +kernel
theorem dX6_type_6 : decode cX6_type 6 = .ok (.bipush 8, 2) := by decide +kernel
theorem dX6_type_8 : decode cX6_type 8 = .ok (.if_icmp .le 5, 3) := by decide +kernel
theorem dX6_type_11 : decode cX6_type 11 = .ok (.iconst (-1), 1) := by decide +kernel
theorem dX6_type_12 : decode cX6_type 12 = .ok (.ireturn, 1) := by decide +kernel
theorem dX6_type_13 : decode cX6_type 13 = .ok (.aload_n 0, 1) := by decide +kernel
theorem dX6_type_14 : decode cX6_type 14 = .ok (.getfield 10, 3) := by decide +kernel
theorem dX6_type_17 : decode cX6_type 17 = .ok (.getfield 61, 3) := by decide +kernel
theorem dX6_type_20 : decode cX6_type 20 = .ok (.iload_n 3, 1) := by decide +kernel
theorem dX6_type_21 : decode cX6_type 21 = .ok (.iadd, 1) := by decide +kernel
theorem dX6_type_22 : decode cX6_type 22 = .ok (.sipush 400, 3) := by decide +kernel
theorem dX6_type_25 : decode cX6_type 25 = .ok (.if_icmp .le 6, 3) := by decide +kernel
theorem dX6_type_28 : decode cX6_type 28 = .ok (.bipush (-3), 2) := by decide +kernel
theorem dX6_type_30 : decode cX6_type 30 = .ok (.ireturn, 1) := by decide +kernel
theorem dX6_type_31 : decode cX6_type 31 = .ok (.iload_n 3, 1) := by decide +kernel
theorem dX6_type_32 : decode cX6_type 32 = .ok (.iconst 1, 1) := by decide +kernel
theorem dX6_type_33 : decode cX6_type 33 = .ok (.isub, 1) := by decide +kernel
theorem dX6_type_34 : decode cX6_type 34 = .ok (.istore 4, 2) := by decide +kernel
theorem dX6_type_36 : decode cX6_type 36 = .ok (.iload 4, 2) := by decide +kernel
theorem dX6_type_38 : decode cX6_type 38 = .ok (.ifCond .lt 28, 3) := by decide +kernel
theorem dX6_type_41 : decode cX6_type 41 = .ok (.aload_n 0, 1) := by decide +kernel
theorem dX6_type_42 : decode cX6_type 42 = .ok (.getfield 10, 3) := by decide +kernel
theorem dX6_type_45 : decode cX6_type 45 = .ok (.lload_n 1, 1) := by decide +kernel
theorem dX6_type_46 : decode cX6_type 46 = .ok (.bipush 8, 2) := by decide +kernel
theorem dX6_type_48 : decode cX6_type 48 = .ok (.iload 4, 2) := by decide +kernel
theorem dX6_type_50 : decode cX6_type 50 = .ok (.imul, 1) := by decide +kernel
theorem dX6_type_51 : decode cX6_type 51 = .ok (.lshr, 1) := by decide +kernel
theorem dX6_type_52 : decode cX6_type 52 = .ok (.l2i, 1) := by decide +kernel
theorem dX6_type_53 : decode cX6_type 53 = .ok (.sipush 255, 3) := by decide +kernel
theorem dX6_type_56 : decode cX6_type 56 = .ok (.iand, 1) := by decide +kernel
theorem dX6_type_57 : decode cX6_type 57 = .ok (.invokevirtual 65, 3) := by decide +kernel
theorem dX6_type_60 : decode cX6_type 60 = .ok (.iinc 4 (-1), 3) := by decide +kernel
theorem dX6_type_63 : decode cX6_type 63 = .ok (.goto (-27), 3) := by decide +kernel
theorem dX6_type_66 : decode cX6_type 66 = .ok (.aload_n 0, 1) := by decide +kernel
theorem dX6_type_67 : decode cX6_type 67 = .ok (.getfield 10, 3) := by decide +kernel
theorem dX6_type_70 : decode cX6_type 70 = .ok (.getfield 61, 3) := by decide +kernel
theorem dX6_type_73 : decode cX6_type 73 = .ok (.ireturn, 1) := by decide +kernel
theorem dX6_clear_0 : decode cX6_clear 0 = .ok (.aload_n 0, 1) := by decide +kernel
theorem dX6_clear_1 : decode cX6_clear 1 = .ok (.getfield 10, 3) := by decide +kernel
theorem dX6_clear_4 : decode cX6_clear 4 = .ok (.getfield 61, 3) := by decide +kernel
theorem dX6_clear_7 : decode cX6_clear 7 = .ok (.istore_n 1, 1) := by decide +kernel
theorem dX6_clear_8 : decode cX6_clear 8 = .ok (.aload_n 0, 1) := by decide +kernel
theorem dX6_clear_9 : decode cX6_clear 9 = .ok (.getfield 10, 3) := by decide +kernel
theorem dX6_clear_12 : decode cX6_clear 12 = .ok (.iconst 0, 1) := by decide +kernel
theorem dX6_clear_13 : decode cX6_clear 13 = .ok (.putfield 61, 3) := by decide +kernel
theorem dX6_clear_16 : decode cX6_clear 16 = .ok (.iload_n 1, 1) := by decide +kernel
theorem dX6_clear_17 : decode cX6_clear 17 = .ok (.ireturn, 1) := by decide +kernel
theorem dX6_town_0 : decode cX6_town 0 = .ok (.aload_n 0, 1) := by decide +kernel
theorem dX6_town_1 : decode cX6_town 1 = .ok (.getfield 19, 3) := by decide +kernel
theorem dX6_town_4 : decode cX6_town 4 = .ok (.aload_n 0, 1) := by decide +kernel
theorem dX6_town_5 : decode cX6_town 5 = .ok (.getfield 10, 3) := by decide +kernel
theorem dX6_town_8 : decode cX6_town 8 = .ok (.aload_n 0, 1) := by decide +kernel
theorem dX6_town_9 : decode cX6_town 9 = .ok (.getfield 54, 3) := by decide +kernel
theorem dX6_town_12 : decode cX6_town 12 = .ok (.invokevirtual 69, 3) := by decide +kernel
theorem dX6_town_15 : decode cX6_town 15 = .ok (.istore_n 1, 1) := by decide +kernel
theorem dX6_town_16 : decode cX6_town 16 = .ok (.iload_n 1, 1) := by decide +kernel
theorem dX6_town_17 : decode cX6_town 17 = .ok (.ifCond .ge 5, 3) := by decide +kernel
theorem dX6_town_20 : decode cX6_town 20 = .ok (.iload_n 1, 1) := by decide +kernel
theorem dX6_town_21 : decode cX6_town 21 = .ok (.ireturn, 1) := by decide +kernel
theorem dX6_town_22 : decode cX6_town 22 = .ok (.aload_n 0, 1) := by decide +kernel
theorem dX6_town_23 : decode cX6_town 23 = .ok (.getfield 50, 3) := by decide +kernel
theorem dX6_town_26 : decode cX6_town 26 = .ok (.astore_n 2, 1) := by decide +kernel
theorem dX6_town_27 : decode cX6_town 27 = .ok (.aload_n 0, 1) := by decide +kernel
theorem dX6_town_28 : decode cX6_town 28 = .ok (.aload_n 0, 1) := by decide +kernel
theorem dX6_town_29 : decode cX6_town 29 = .ok (.getfield 54, 3) := by decide +kernel
theorem dX6_town_32 : decode cX6_town 32 = .ok (.putfield 50, 3) := by decide +kernel
theorem dX6_town_35 : decode cX6_town 35 = .ok (.aload_n 0, 1) := by decide +kernel
theorem dX6_town_36 : decode cX6_town 36 = .ok (.aload_n 2, 1) := by decide +kernel
theorem dX6_town_37 : decode cX6_town 37 = .ok (.putfield 54, 3) := by decide +kernel
theorem dX6_town_40 : decode cX6_town 40 = .ok (.aload_n 0, 1) := by decide +kernel
theorem dX6_town_41 : decode cX6_town 41 = .ok (.getfield 10, 3) := by decide +kernel
theorem dX6_town_44 : decode cX6_town 44 = .ok (.iconst 0, 1) := by decide +kernel
theorem dX6_town_45 : decode cX6_town 45 = .ok (.putfield 61, 3) := by decide +kernel
theorem dX6_town_48 : decode cX6_town 48 = .ok (.aload_n 0, 1) := by decide +kernel
theorem dX6_town_49 : decode cX6_town 49 = .ok (.getfield 26, 3) := by decide +kernel
theorem dX6_town_52 : decode cX6_town 52 = .ok (.aload_n 0, 1) := by decide +kernel
theorem dX6_town_53 : decode cX6_town 53 = .ok (.getfield 50, 3) := by decide +kernel
theorem dX6_town_56 : decode cX6_town 56 = .ok (.invokevirtual 57, 3) := by decide +kernel
theorem dX6_town_59 : decode cX6_town 59 = .ok (.aload_n 0, 1) := by decide +kernel
theorem dX6_town_60 : decode cX6_town 60 = .ok (.getfield 33, 3) := by decide +kernel
theorem dX6_town_63 : decode cX6_town 63 = .ok (.iconst 0, 1) := by decide +kernel
theorem dX6_town_64 : decode cX6_town 64 = .ok (.putfield 73, 3) := by decide +kernel
theorem dX6_town_67 : decode cX6_town 67 = .ok (.aload_n 0, 1) := by decide +kernel
theorem dX6_town_68 : decode cX6_town 68 = .ok (.getfield 37, 3) := by decide +kernel
theorem dX6_town_71 : decode cX6_town 71 = .ok (.iconst 0, 1) := by decide +kernel
theorem dX6_town_72 : decode cX6_town 72 = .ok (.putfield 73, 3) := by decide +kernel
theorem dX6_town_75 : decode cX6_town 75 = .ok (.iload_n 1, 1) := by decide +kernel
theorem dX6_town_76 : decode cX6_town 76 = .ok (.ireturn, 1) := by decide +kernel
theorem dX6_knows_0 : decode cX6_knows 0 = .ok (.aload_n 0, 1) := by decide +kernel
theorem dX6_knows_1 : decode cX6_knows 1 = .ok (.iload_n 1, 1) := by decide +kernel
theorem dX6_knows_2 : decode cX6_knows 2 = .ok (.iload_n 2, 1) := by decide +kernel
theorem dX6_knows_3 : decode cX6_knows 3 = .ok (.invokevirtual 77, 3) := by decide +kernel
theorem dX6_knows_6 : decode cX6_knows 6 = .ok (.ifCond .ne 5, 3) := by decide +kernel
theorem dX6_knows_9 : decode cX6_knows 9 = .ok (.iconst (-1), 1) := by decide +kernel
theorem dX6_knows_10 : decode cX6_knows 10 = .ok (.ireturn, 1) := by decide +kernel
theorem dX6_knows_11 : decode cX6_knows 11 = .ok (.aload_n 0, 1) := by decide +kernel
theorem dX6_knows_12 : decode cX6_knows 12 = .ok (.getfield 26, 3) := by decide +kernel
theorem dX6_knows_15 : decode cX6_knows 15 = .ok (.iload_n 1, 1) := by decide +kernel
theorem dX6_knows_16 : decode cX6_knows 16 = .ok (.iload_n 2, 1) := by decide +kernel
theorem dX6_knows_17 : decode cX6_knows 17 = .ok (.invokevirtual 81, 3) := by decide +kernel
theorem dX6_knows_20 : decode cX6_knows 20 = .ok (.ifCond .eq 7, 3) := by decide +kernel
theorem dX6_knows_23 : decode cX6_knows 23 = .ok (.iconst 1, 1) := by decide +kernel
theorem dX6_knows_24 : decode cX6_knows 24 = .ok (.goto 4, 3) := by decide +kernel
theorem dX6_knows_27 : decode cX6_knows 27 = .ok (.iconst 0, 1) := by decide +kernel
theorem dX6_knows_28 : decode cX6_knows 28 = .ok (.ireturn, 1) := by decide +kernel
theorem dX6_seen_0 : decode cX6_seen 0 = .ok (.aload_n 0, 1) := by decide +kernel
theorem dX6_seen_1 : decode cX6_seen 1 = .ok (.iload_n 1, 1) := by decide +kernel
theorem dX6_seen_2 : decode cX6_seen 2 = .ok (.iload_n 2, 1) := by decide +kernel
theorem dX6_seen_3 : decode cX6_seen 3 = .ok (.invokevirtual 77, 3) := by decide +kernel
theorem dX6_seen_6 : decode cX6_seen 6 = .ok (.ifCond .eq 15, 3) := by decide +kernel
theorem dX6_seen_9 : decode cX6_seen 9 = .ok (.aload_n 0, 1) := by decide +kernel
theorem dX6_seen_10 : decode cX6_seen 10 = .ok (.getfield 26, 3) := by decide +kernel
theorem dX6_seen_13 : decode cX6_seen 13 = .ok (.iload_n 1, 1) := by decide +kernel
theorem dX6_seen_14 : decode cX6_seen 14 = .ok (.iload_n 2, 1) := by decide +kernel
theorem dX6_seen_15 : decode cX6_seen 15 = .ok (.invokevirtual 81, 3) := by decide +kernel
theorem dX6_seen_18 : decode cX6_seen 18 = .ok (.ifCond .ne 6, 3) := by decide +kernel
theorem dX6_seen_21 : decode cX6_seen 21 = .ok (.ldc 84, 2) := by decide +kernel
theorem dX6_seen_23 : decode cX6_seen 23 = .ok (.ireturn, 1) := by decide +kernel
theorem dX6_seen_24 : decode cX6_seen 24 = .ok (.aload_n 0, 1) := by decide +kernel
theorem dX6_seen_25 : decode cX6_seen 25 = .ok (.getfield 26, 3) := by decide +kernel
theorem dX6_seen_28 : decode cX6_seen 28 = .ok (.iload_n 1, 1) := by decide +kernel
theorem dX6_seen_29 : decode cX6_seen 29 = .ok (.iload_n 2, 1) := by decide +kernel
theorem dX6_seen_30 : decode cX6_seen 30 = .ok (.invokevirtual 85, 3) := by decide +kernel
theorem dX6_seen_33 : decode cX6_seen 33 = .ok (.ireturn, 1) := by decide +kernel
theorem dX6_person_0 : decode cX6_person 0 = .ok (.aload_n 0, 1) := by decide +kernel
theorem dX6_person_1 : decode cX6_person 1 = .ok (.iload_n 1, 1) := by decide +kernel
theorem dX6_person_2 : decode cX6_person 2 = .ok (.invokevirtual 89, 3) := by decide +kernel
theorem dX6_person_5 : decode cX6_person 5 = .ok (.ifCond .ne 5, 3) := by decide +kernel
theorem dX6_person_8 : decode cX6_person 8 = .ok (.iconst (-1), 1) := by decide +kernel
theorem dX6_person_9 : decode cX6_person 9 = .ok (.ireturn, 1) := by decide +kernel
theorem dX6_person_10 : decode cX6_person 10 = .ok (.iload_n 2, 1) := by decide +kernel
theorem dX6_person_11 : decode cX6_person 11 = .ok (.tableswitch 74 0 3 #[29, 41, 50, 62], 29) := by decide +kernel
theorem dX6_person_40 : decode cX6_person 40 = .ok (.aload_n 0, 1) := by decide +kernel
theorem dX6_person_41 : decode cX6_person 41 = .ok (.getfield 26, 3) := by decide +kernel
theorem dX6_person_44 : decode cX6_person 44 = .ok (.getfield 93, 3) := by decide +kernel
theorem dX6_person_47 : decode cX6_person 47 = .ok (.iload_n 1, 1) := by decide +kernel
theorem dX6_person_48 : decode cX6_person 48 = .ok (.invokestatic 97, 3) := by decide +kernel
theorem dX6_person_51 : decode cX6_person 51 = .ok (.ireturn, 1) := by decide +kernel
theorem dX6_person_52 : decode cX6_person 52 = .ok (.aload_n 0, 1) := by decide +kernel
theorem dX6_person_53 : decode cX6_person 53 = .ok (.getfield 26, 3) := by decide +kernel
theorem dX6_person_56 : decode cX6_person 56 = .ok (.iload_n 1, 1) := by decide +kernel
theorem dX6_person_57 : decode cX6_person 57 = .ok (.invokevirtual 101, 3) := by decide +kernel
theorem dX6_person_60 : decode cX6_person 60 = .ok (.ireturn, 1) := by decide +kernel
theorem dX6_person_61 : decode cX6_person 61 = .ok (.aload_n 0, 1) := by decide +kernel
theorem dX6_person_62 : decode cX6_person 62 = .ok (.getfield 50, 3) := by decide +kernel
theorem dX6_person_65 : decode cX6_person 65 = .ok (.getfield 105, 3) := by decide +kernel
theorem dX6_person_68 : decode cX6_person 68 = .ok (.iload_n 1, 1) := by decide +kernel
theorem dX6_person_69 : decode cX6_person 69 = .ok (.invokestatic 97, 3) := by decide +kernel
theorem dX6_person_72 : decode cX6_person 72 = .ok (.ireturn, 1) := by decide +kernel
theorem dX6_person_73 : decode cX6_person 73 = .ok (.aload_n 0, 1) := by decide +kernel
theorem dX6_person_74 : decode cX6_person 74 = .ok (.getfield 26, 3) := by decide +kernel
theorem dX6_person_77 : decode cX6_person 77 = .ok (.getfield 108, 3) := by decide +kernel
theorem dX6_person_80 : decode cX6_person 80 = .ok (.iload_n 1, 1) := by decide +kernel
theorem dX6_person_81 : decode cX6_person 81 = .ok (.invokestatic 97, 3) := by decide +kernel
theorem dX6_person_84 : decode cX6_person 84 = .ok (.ireturn, 1) := by decide +kernel
theorem dX6_person_85 : decode cX6_person 85 = .ok (.iconst (-1), 1) := by decide +kernel
theorem dX6_person_86 : decode cX6_person 86 = .ok (.ireturn, 1) := by decide +kernel
theorem dX6_law_0 : decode cX6_law 0 = .ok (.iload_n 1, 1) := by decide +kernel
theorem dX6_law_1 : decode cX6_law 1 = .ok (.tableswitch 51 0 2 #[27, 35, 43], 27) := by decide +kernel
theorem dX6_law_28 : decode cX6_law 28 = .ok (.aload_n 0, 1) := by decide +kernel
theorem dX6_law_29 : decode cX6_law 29 = .ok (.getfield 50, 3) := by decide +kernel
theorem dX6_law_32 : decode cX6_law 32 = .ok (.getfield 111, 3) := by decide +kernel
theorem dX6_law_35 : decode cX6_law 35 = .ok (.ireturn, 1) := by decide +kernel
theorem dX6_law_36 : decode cX6_law 36 = .ok (.aload_n 0, 1) := by decide +kernel
theorem dX6_law_37 : decode cX6_law 37 = .ok (.getfield 50, 3) := by decide +kernel
theorem dX6_law_40 : decode cX6_law 40 = .ok (.getfield 114, 3) := by decide +kernel
theorem dX6_law_43 : decode cX6_law 43 = .ok (.ireturn, 1) := by decide +kernel
theorem dX6_law_44 : decode cX6_law 44 = .ok (.aload_n 0, 1) := by decide +kernel
theorem dX6_law_45 : decode cX6_law 45 = .ok (.getfield 50, 3) := by decide +kernel
theorem dX6_law_48 : decode cX6_law 48 = .ok (.getfield 117, 3) := by decide +kernel
theorem dX6_law_51 : decode cX6_law 51 = .ok (.ireturn, 1) := by decide +kernel
theorem dX6_law_52 : decode cX6_law 52 = .ok (.iconst (-1), 1) := by decide +kernel
theorem dX6_law_53 : decode cX6_law 53 = .ok (.ireturn, 1) := by decide +kernel
theorem dX6_rules_0 : decode cX6_rules 0 = .ok (.iload_n 1, 1) := by decide +kernel
theorem dX6_rules_1 : decode cX6_rules 1 = .ok (.iconst 2, 1) := by decide +kernel
theorem dX6_rules_2 : decode cX6_rules 2 = .ok (.if_icmp .ne 8, 3) := by decide +kernel
theorem dX6_rules_5 : decode cX6_rules 5 = .ok (.bipush 7, 2) := by decide +kernel
theorem dX6_rules_7 : decode cX6_rules 7 = .ok (.goto 4, 3) := by decide +kernel
theorem dX6_rules_10 : decode cX6_rules 10 = .ok (.iconst 0, 1) := by decide +kernel
theorem dX6_rules_11 : decode cX6_rules 11 = .ok (.istore_n 3, 1) := by decide +kernel
theorem dX6_rules_12 : decode cX6_rules 12 = .ok (.iload_n 1, 1) := by decide +kernel
theorem dX6_rules_13 : decode cX6_rules 13 = .ok (.ifCond .lt 17, 3) := by decide +kernel
theorem dX6_rules_16 : decode cX6_rules 16 = .ok (.iload_n 1, 1) := by decide +kernel
theorem dX6_rules_17 : decode cX6_rules 17 = .ok (.iconst 3, 1) := by decide +kernel
theorem dX6_rules_18 : decode cX6_rules 18 = .ok (.if_icmp .gt 12, 3) := by decide +kernel
theorem dX6_rules_21 : decode cX6_rules 21 = .ok (.iload_n 2, 1) := by decide +kernel
theorem dX6_rules_22 : decode cX6_rules 22 = .ok (.ifCond .lt 8, 3) := by decide +kernel
theorem dX6_rules_25 : decode cX6_rules 25 = .ok (.iload_n 2, 1) := by decide +kernel
theorem dX6_rules_26 : decode cX6_rules 26 = .ok (.iload_n 3, 1) := by decide +kernel
theorem dX6_rules_27 : decode cX6_rules 27 = .ok (.if_icmp .le 5, 3) := by decide +kernel
theorem dX6_rules_30 : decode cX6_rules 30 = .ok (.iconst (-1), 1) := by decide +kernel
theorem dX6_rules_31 : decode cX6_rules 31 = .ok (.ireturn, 1) := by decide +kernel
theorem dX6_rules_32 : decode cX6_rules 32 = .ok (.aload_n 0, 1) := by decide +kernel
theorem dX6_rules_33 : decode cX6_rules 33 = .ok (.getfield 50, 3) := by decide +kernel
theorem dX6_rules_36 : decode cX6_rules 36 = .ok (.getfield 111, 3) := by decide +kernel
theorem dX6_rules_39 : decode cX6_rules 39 = .ok (.istore 4, 2) := by decide +kernel
theorem dX6_rules_41 : decode cX6_rules 41 = .ok (.aload_n 0, 1) := by decide +kernel
theorem dX6_rules_42 : decode cX6_rules 42 = .ok (.getfield 50, 3) := by decide +kernel
theorem dX6_rules_45 : decode cX6_rules 45 = .ok (.iload_n 1, 1) := by decide +kernel
theorem dX6_rules_46 : decode cX6_rules 46 = .ok (.putfield 111, 3) := by decide +kernel
theorem dX6_rules_49 : decode cX6_rules 49 = .ok (.iload_n 1, 1) := by decide +kernel
theorem dX6_rules_50 : decode cX6_rules 50 = .ok (.iconst 2, 1) := by decide +kernel
theorem dX6_rules_51 : decode cX6_rules 51 = .ok (.if_icmp .ne 11, 3) := by decide +kernel
theorem dX6_rules_54 : decode cX6_rules 54 = .ok (.aload_n 0, 1) := by decide +kernel
theorem dX6_rules_55 : decode cX6_rules 55 = .ok (.getfield 50, 3) := by decide +kernel
theorem dX6_rules_58 : decode cX6_rules 58 = .ok (.iload_n 2, 1) := by decide +kernel
theorem dX6_rules_59 : decode cX6_rules 59 = .ok (.putfield 114, 3) := by decide +kernel
theorem dX6_rules_62 : decode cX6_rules 62 = .ok (.iload 4, 2) := by decide +kernel
theorem dX6_rules_64 : decode cX6_rules 64 = .ok (.ireturn, 1) := by decide +kernel
theorem dX6_chosen_0 : decode cX6_chosen 0 = .ok (.aload_n 0, 1) := by decide +kernel
theorem dX6_chosen_1 : decode cX6_chosen 1 = .ok (.getfield 50, 3) := by decide +kernel
theorem dX6_chosen_4 : decode cX6_chosen 4 = .ok (.getfield 120, 3) := by decide +kernel
theorem dX6_chosen_7 : decode cX6_chosen 7 = .ok (.ifCond .ne 8, 3) := by decide +kernel
theorem dX6_chosen_10 : decode cX6_chosen 10 = .ok (.bipush (-2), 2) := by decide +kernel
theorem dX6_chosen_12 : decode cX6_chosen 12 = .ok (.goto 14, 3) := by decide +kernel
theorem dX6_chosen_15 : decode cX6_chosen 15 = .ok (.aload_n 0, 1) := by decide +kernel
theorem dX6_chosen_16 : decode cX6_chosen 16 = .ok (.getfield 50, 3) := by decide +kernel
theorem dX6_chosen_19 : decode cX6_chosen 19 = .ok (.aload_n 0, 1) := by decide +kernel
theorem dX6_chosen_20 : decode cX6_chosen 20 = .ok (.getfield 26, 3) := by decide +kernel
theorem dX6_chosen_23 : decode cX6_chosen 23 = .ok (.invokevirtual 123, 3) := by decide +kernel
theorem dX6_chosen_26 : decode cX6_chosen 26 = .ok (.ireturn, 1) := by decide +kernel
theorem dX6_meet_0 : decode cX6_meet 0 = .ok (.aload_n 0, 1) := by decide +kernel
theorem dX6_meet_1 : decode cX6_meet 1 = .ok (.iload_n 1, 1) := by decide +kernel
theorem dX6_meet_2 : decode cX6_meet 2 = .ok (.iload_n 2, 1) := by decide +kernel
theorem dX6_meet_3 : decode cX6_meet 3 = .ok (.invokevirtual 77, 3) := by decide +kernel
theorem dX6_meet_6 : decode cX6_meet 6 = .ok (.ifCond .ne 5, 3) := by decide +kernel
theorem dX6_meet_9 : decode cX6_meet 9 = .ok (.iconst (-1), 1) := by decide +kernel
theorem dX6_meet_10 : decode cX6_meet 10 = .ok (.ireturn, 1) := by decide +kernel
theorem dX6_meet_11 : decode cX6_meet 11 = .ok (.aload_n 0, 1) := by decide +kernel
theorem dX6_meet_12 : decode cX6_meet 12 = .ok (.getfield 26, 3) := by decide +kernel
theorem dX6_meet_15 : decode cX6_meet 15 = .ok (.iload_n 1, 1) := by decide +kernel
theorem dX6_meet_16 : decode cX6_meet 16 = .ok (.iload_n 2, 1) := by decide +kernel
theorem dX6_meet_17 : decode cX6_meet 17 = .ok (.invokevirtual 127, 3) := by decide +kernel
theorem dX6_meet_20 : decode cX6_meet 20 = .ok (.aload_n 0, 1) := by decide +kernel
theorem dX6_meet_21 : decode cX6_meet 21 = .ok (.getfield 26, 3) := by decide +kernel
theorem dX6_meet_24 : decode cX6_meet 24 = .ok (.iload_n 2, 1) := by decide +kernel
theorem dX6_meet_25 : decode cX6_meet 25 = .ok (.iload_n 1, 1) := by decide +kernel
theorem dX6_meet_26 : decode cX6_meet 26 = .ok (.invokevirtual 127, 3) := by decide +kernel
theorem dX6_meet_29 : decode cX6_meet 29 = .ok (.iadd, 1) := by decide +kernel
theorem dX6_meet_30 : decode cX6_meet 30 = .ok (.ireturn, 1) := by decide +kernel
theorem dX6_introduce_0 : decode cX6_introduce 0 = .ok (.aload_n 0, 1) := by decide +kernel
theorem dX6_introduce_1 : decode cX6_introduce 1 = .ok (.iload_n 1, 1) := by decide +kernel
theorem dX6_introduce_2 : decode cX6_introduce 2 = .ok (.iload_n 2, 1) := by decide +kernel
theorem dX6_introduce_3 : decode cX6_introduce 3 = .ok (.invokevirtual 77, 3) := by decide +kernel
theorem dX6_introduce_6 : decode cX6_introduce 6 = .ok (.ifCond .eq 21, 3) := by decide +kernel
theorem dX6_introduce_9 : decode cX6_introduce 9 = .ok (.aload_n 0, 1) := by decide +kernel
theorem dX6_introduce_10 : decode cX6_introduce 10 = .ok (.iload_n 1, 1) := by decide +kernel
theorem dX6_introduce_11 : decode cX6_introduce 11 = .ok (.iload_n 3, 1) := by decide +kernel
theorem dX6_introduce_12 : decode cX6_introduce 12 = .ok (.invokevirtual 77, 3) := by decide +kernel
theorem dX6_introduce_15 : decode cX6_introduce 15 = .ok (.ifCond .eq 12, 3) := by decide +kernel
theorem dX6_introduce_18 : decode cX6_introduce 18 = .ok (.aload_n 0, 1) := by decide +kernel
theorem dX6_introduce_19 : decode cX6_introduce 19 = .ok (.iload_n 2, 1) := by decide +kernel
theorem dX6_introduce_20 : decode cX6_introduce 20 = .ok (.iload_n 3, 1) := by decide +kernel
theorem dX6_introduce_21 : decode cX6_introduce 21 = .ok (.invokevirtual 77, 3) := by decide +kernel
theorem dX6_introduce_24 : decode cX6_introduce 24 = .ok (.ifCond .ne 5, 3) := by decide +kernel
theorem dX6_introduce_27 : decode cX6_introduce 27 = .ok (.iconst (-1), 1) := by decide +kernel
theorem dX6_introduce_28 : decode cX6_introduce 28 = .ok (.ireturn, 1) := by decide +kernel
theorem dX6_introduce_29 : decode cX6_introduce 29 = .ok (.aload_n 0, 1) := by decide +kernel
theorem dX6_introduce_30 : decode cX6_introduce 30 = .ok (.getfield 26, 3) := by decide +kernel
theorem dX6_introduce_33 : decode cX6_introduce 33 = .ok (.iload_n 1, 1) := by decide +kernel
theorem dX6_introduce_34 : decode cX6_introduce 34 = .ok (.iload_n 3, 1) := by decide +kernel
theorem dX6_introduce_35 : decode cX6_introduce 35 = .ok (.invokevirtual 81, 3) := by decide +kernel
theorem dX6_introduce_38 : decode cX6_introduce 38 = .ok (.ifCond .ne 6, 3) := by decide +kernel
theorem dX6_introduce_41 : decode cX6_introduce 41 = .ok (.bipush (-2), 2) := by decide +kernel
theorem dX6_introduce_43 : decode cX6_introduce 43 = .ok (.ireturn, 1) := by decide +kernel
theorem dX6_introduce_44 : decode cX6_introduce 44 = .ok (.aload_n 0, 1) := by decide +kernel
theorem dX6_introduce_45 : decode cX6_introduce 45 = .ok (.getfield 26, 3) := by decide +kernel
theorem dX6_introduce_48 : decode cX6_introduce 48 = .ok (.iload_n 2, 1) := by decide +kernel
theorem dX6_introduce_49 : decode cX6_introduce 49 = .ok (.iload_n 3, 1) := by decide +kernel
theorem dX6_introduce_50 : decode cX6_introduce 50 = .ok (.invokevirtual 127, 3) := by decide +kernel
theorem dX6_introduce_53 : decode cX6_introduce 53 = .ok (.ireturn, 1) := by decide +kernel
theorem dX6_moves_0 : decode cX6_moves 0 = .ok (.aload_n 0, 1) := by decide +kernel
theorem dX6_moves_1 : decode cX6_moves 1 = .ok (.iload_n 1, 1) := by decide +kernel
theorem dX6_moves_2 : decode cX6_moves 2 = .ok (.invokevirtual 89, 3) := by decide +kernel
theorem dX6_moves_5 : decode cX6_moves 5 = .ok (.ifCond .ne 5, 3) := by decide +kernel
theorem dX6_moves_8 : decode cX6_moves 8 = .ok (.iconst (-1), 1) := by decide +kernel
theorem dX6_moves_9 : decode cX6_moves 9 = .ok (.ireturn, 1) := by decide +kernel
theorem dX6_moves_10 : decode cX6_moves 10 = .ok (.aload_n 0, 1) := by decide +kernel
theorem dX6_moves_11 : decode cX6_moves 11 = .ok (.getfield 26, 3) := by decide +kernel
theorem dX6_moves_14 : decode cX6_moves 14 = .ok (.getfield 93, 3) := by decide +kernel
theorem dX6_moves_17 : decode cX6_moves 17 = .ok (.iload_n 1, 1) := by decide +kernel
theorem dX6_moves_18 : decode cX6_moves 18 = .ok (.invokestatic 97, 3) := by decide +kernel
theorem dX6_moves_21 : decode cX6_moves 21 = .ok (.istore_n 2, 1) := by decide +kernel
theorem dX6_moves_22 : decode cX6_moves 22 = .ok (.aload_n 0, 1) := by decide +kernel
theorem dX6_moves_23 : decode cX6_moves 23 = .ok (.getfield 26, 3) := by decide +kernel
theorem dX6_moves_26 : decode cX6_moves 26 = .ok (.iload_n 1, 1) := by decide +kernel
theorem dX6_moves_27 : decode cX6_moves 27 = .ok (.iconst 0, 1) := by decide +kernel
theorem dX6_moves_28 : decode cX6_moves 28 = .ok (.invokevirtual 130, 3) := by decide +kernel
theorem dX6_moves_31 : decode cX6_moves 31 = .ok (.iload_n 2, 1) := by decide +kernel
theorem dX6_moves_32 : decode cX6_moves 32 = .ok (.ireturn, 1) := by decide +kernel
theorem dX6_go_0 : decode cX6_go 0 = .ok (.iload_n 1, 1) := by decide +kernel
theorem dX6_go_1 : decode cX6_go 1 = .ok (.iconst 1, 1) := by decide +kernel
theorem dX6_go_2 : decode cX6_go 2 = .ok (.if_icmp .lt 9, 3) := by decide +kernel
theorem dX6_go_5 : decode cX6_go 5 = .ok (.iload_n 1, 1) := by decide +kernel
theorem dX6_go_6 : decode cX6_go 6 = .ok (.bipush 99, 2) := by decide +kernel
theorem dX6_go_8 : decode cX6_go 8 = .ok (.if_icmp .le 5, 3) := by decide +kernel
theorem dX6_go_11 : decode cX6_go 11 = .ok (.iconst (-1), 1) := by decide +kernel
theorem dX6_go_12 : decode cX6_go 12 = .ok (.ireturn, 1) := by decide +kernel
theorem dX6_go_13 : decode cX6_go 13 = .ok (.aload_n 0, 1) := by decide +kernel
theorem dX6_go_14 : decode cX6_go 14 = .ok (.getfield 26, 3) := by decide +kernel
theorem dX6_go_17 : decode cX6_go 17 = .ok (.getfield 134, 3) := by decide +kernel
theorem dX6_go_20 : decode cX6_go 20 = .ok (.bipush 99, 2) := by decide +kernel
theorem dX6_go_22 : decode cX6_go 22 = .ok (.if_icmp .ge 13, 3) := by decide +kernel
theorem dX6_go_25 : decode cX6_go 25 = .ok (.aload_n 0, 1) := by decide +kernel
theorem dX6_go_26 : decode cX6_go 26 = .ok (.getfield 50, 3) := by decide +kernel
theorem dX6_go_29 : decode cX6_go 29 = .ok (.getfield 120, 3) := by decide +kernel
theorem dX6_go_32 : decode cX6_go 32 = .ok (.ifCond .ne 6, 3) := by decide +kernel
theorem dX6_go_35 : decode cX6_go 35 = .ok (.bipush (-2), 2) := by decide +kernel
theorem dX6_go_37 : decode cX6_go 37 = .ok (.ireturn, 1) := by decide +kernel
theorem dX6_go_38 : decode cX6_go 38 = .ok (.iload_n 1, 1) := by decide +kernel
theorem dX6_go_39 : decode cX6_go 39 = .ok (.bipush 99, 2) := by decide +kernel
theorem dX6_go_41 : decode cX6_go 41 = .ok (.aload_n 0, 1) := by decide +kernel
theorem dX6_go_42 : decode cX6_go 42 = .ok (.getfield 26, 3) := by decide +kernel
theorem dX6_go_45 : decode cX6_go 45 = .ok (.getfield 134, 3) := by decide +kernel
theorem dX6_go_48 : decode cX6_go 48 = .ok (.isub, 1) := by decide +kernel
theorem dX6_go_49 : decode cX6_go 49 = .ok (.invokestatic 137, 3) := by decide +kernel
theorem dX6_go_52 : decode cX6_go 52 = .ok (.istore_n 2, 1) := by decide +kernel
theorem dX6_go_53 : decode cX6_go 53 = .ok (.iconst 0, 1) := by decide +kernel
theorem dX6_go_54 : decode cX6_go 54 = .ok (.istore_n 3, 1) := by decide +kernel
theorem dX6_go_55 : decode cX6_go 55 = .ok (.iload_n 3, 1) := by decide +kernel
theorem dX6_go_56 : decode cX6_go 56 = .ok (.iload_n 2, 1) := by decide +kernel
theorem dX6_go_57 : decode cX6_go 57 = .ok (.if_icmp .ge 21, 3) := by decide +kernel
theorem dX6_go_60 : decode cX6_go 60 = .ok (.aload_n 0, 1) := by decide +kernel
theorem dX6_go_61 : decode cX6_go 61 = .ok (.getfield 26, 3) := by decide +kernel
theorem dX6_go_64 : decode cX6_go 64 = .ok (.aload_n 0, 1) := by decide +kernel
theorem dX6_go_65 : decode cX6_go 65 = .ok (.getfield 50, 3) := by decide +kernel
theorem dX6_go_68 : decode cX6_go 68 = .ok (.invokevirtual 142, 3) := by decide +kernel
theorem dX6_go_71 : decode cX6_go 71 = .ok (.pop, 1) := by decide +kernel
theorem dX6_go_72 : decode cX6_go 72 = .ok (.iinc 3 1, 3) := by decide +kernel
theorem dX6_go_75 : decode cX6_go 75 = .ok (.goto (-20), 3) := by decide +kernel
theorem dX6_go_78 : decode cX6_go 78 = .ok (.aload_n 0, 1) := by decide +kernel
theorem dX6_go_79 : decode cX6_go 79 = .ok (.getfield 26, 3) := by decide +kernel
theorem dX6_go_82 : decode cX6_go 82 = .ok (.getfield 146, 3) := by decide +kernel
theorem dX6_go_85 : decode cX6_go 85 = .ok (.ireturn, 1) := by decide +kernel
theorem dX6_now_0 : decode cX6_now 0 = .ok (.iload_n 1, 1) := by decide +kernel
theorem dX6_now_1 : decode cX6_now 1 = .ok (.tableswitch 51 0 2 #[27, 35, 43], 27) := by decide +kernel
theorem dX6_now_28 : decode cX6_now 28 = .ok (.aload_n 0, 1) := by decide +kernel
theorem dX6_now_29 : decode cX6_now 29 = .ok (.getfield 26, 3) := by decide +kernel
theorem dX6_now_32 : decode cX6_now 32 = .ok (.getfield 134, 3) := by decide +kernel
theorem dX6_now_35 : decode cX6_now 35 = .ok (.ireturn, 1) := by decide +kernel
theorem dX6_now_36 : decode cX6_now 36 = .ok (.aload_n 0, 1) := by decide +kernel
theorem dX6_now_37 : decode cX6_now 37 = .ok (.getfield 26, 3) := by decide +kernel
theorem dX6_now_40 : decode cX6_now 40 = .ok (.getfield 146, 3) := by decide +kernel
theorem dX6_now_43 : decode cX6_now 43 = .ok (.ireturn, 1) := by decide +kernel
theorem dX6_now_44 : decode cX6_now 44 = .ok (.aload_n 0, 1) := by decide +kernel
theorem dX6_now_45 : decode cX6_now 45 = .ok (.getfield 26, 3) := by decide +kernel
theorem dX6_now_48 : decode cX6_now 48 = .ok (.invokevirtual 149, 3) := by decide +kernel
theorem dX6_now_51 : decode cX6_now 51 = .ok (.ireturn, 1) := by decide +kernel
theorem dX6_now_52 : decode cX6_now 52 = .ok (.iconst (-1), 1) := by decide +kernel
theorem dX6_now_53 : decode cX6_now 53 = .ok (.ireturn, 1) := by decide +kernel
theorem dX6_anew_0 : decode cX6_anew 0 = .ok (.aload_n 0, 1) := by decide +kernel
theorem dX6_anew_1 : decode cX6_anew 1 = .ok (.getfield 26, 3) := by decide +kernel
theorem dX6_anew_4 : decode cX6_anew 4 = .ok (.getfield 134, 3) := by decide +kernel
theorem dX6_anew_7 : decode cX6_anew 7 = .ok (.istore_n 1, 1) := by decide +kernel
theorem dX6_anew_8 : decode cX6_anew 8 = .ok (.aload_n 0, 1) := by decide +kernel
theorem dX6_anew_9 : decode cX6_anew 9 = .ok (.getfield 26, 3) := by decide +kernel
theorem dX6_anew_12 : decode cX6_anew 12 = .ok (.aload_n 0, 1) := by decide +kernel
theorem dX6_anew_13 : decode cX6_anew 13 = .ok (.getfield 50, 3) := by decide +kernel
theorem dX6_anew_16 : decode cX6_anew 16 = .ok (.invokevirtual 57, 3) := by decide +kernel
theorem dX6_anew_19 : decode cX6_anew 19 = .ok (.iload_n 1, 1) := by decide +kernel
theorem dX6_anew_20 : decode cX6_anew 20 = .ok (.ireturn, 1) := by decide +kernel
theorem dX6_reigns_0 : decode cX6_reigns 0 = .ok (.iload_n 1, 1) := by decide +kernel
theorem dX6_reigns_1 : decode cX6_reigns 1 = .ok (.ifCond .lt 9, 3) := by decide +kernel
theorem dX6_reigns_4 : decode cX6_reigns 4 = .ok (.iload_n 1, 1) := by decide +kernel
theorem dX6_reigns_5 : decode cX6_reigns 5 = .ok (.bipush 40, 2) := by decide +kernel
theorem dX6_reigns_7 : decode cX6_reigns 7 = .ok (.if_icmp .le 5, 3) := by decide +kernel
theorem dX6_reigns_10 : decode cX6_reigns 10 = .ok (.iconst (-1), 1) := by decide +kernel
theorem dX6_reigns_11 : decode cX6_reigns 11 = .ok (.ireturn, 1) := by decide +kernel
theorem dX6_reigns_12 : decode cX6_reigns 12 = .ok (.aload_n 0, 1) := by decide +kernel
theorem dX6_reigns_13 : decode cX6_reigns 13 = .ok (.getfield 50, 3) := by decide +kernel
theorem dX6_reigns_16 : decode cX6_reigns 16 = .ok (.getfield 120, 3) := by decide +kernel
theorem dX6_reigns_19 : decode cX6_reigns 19 = .ok (.ifCond .ne 8, 3) := by decide +kernel
theorem dX6_reigns_22 : decode cX6_reigns 22 = .ok (.bipush (-2), 2) := by decide +kernel
theorem dX6_reigns_24 : decode cX6_reigns 24 = .ok (.goto 19, 3) := by decide +kernel
theorem dX6_reigns_27 : decode cX6_reigns 27 = .ok (.aload_n 0, 1) := by decide +kernel
theorem dX6_reigns_28 : decode cX6_reigns 28 = .ok (.getfield 43, 3) := by decide +kernel
theorem dX6_reigns_31 : decode cX6_reigns 31 = .ok (.aload_n 0, 1) := by decide +kernel
theorem dX6_reigns_32 : decode cX6_reigns 32 = .ok (.getfield 50, 3) := by decide +kernel
theorem dX6_reigns_35 : decode cX6_reigns 35 = .ok (.aload_n 0, 1) := by decide +kernel
theorem dX6_reigns_36 : decode cX6_reigns 36 = .ok (.getfield 26, 3) := by decide +kernel
theorem dX6_reigns_39 : decode cX6_reigns 39 = .ok (.iload_n 1, 1) := by decide +kernel
theorem dX6_reigns_40 : decode cX6_reigns 40 = .ok (.invokevirtual 153, 3) := by decide +kernel
theorem dX6_reigns_43 : decode cX6_reigns 43 = .ok (.ireturn, 1) := by decide +kernel
theorem dX6_ring_0 : decode cX6_ring 0 = .ok (.aload_n 0, 1) := by decide +kernel
theorem dX6_ring_1 : decode cX6_ring 1 = .ok (.getfield 50, 3) := by decide +kernel
theorem dX6_ring_4 : decode cX6_ring 4 = .ok (.getfield 120, 3) := by decide +kernel
theorem dX6_ring_7 : decode cX6_ring 7 = .ok (.ifCond .ne 8, 3) := by decide +kernel
theorem dX6_ring_10 : decode cX6_ring 10 = .ok (.bipush (-2), 2) := by decide +kernel
theorem dX6_ring_12 : decode cX6_ring 12 = .ok (.goto 18, 3) := by decide +kernel
theorem dX6_ring_15 : decode cX6_ring 15 = .ok (.aload_n 0, 1) := by decide +kernel
theorem dX6_ring_16 : decode cX6_ring 16 = .ok (.getfield 43, 3) := by decide +kernel
theorem dX6_ring_19 : decode cX6_ring 19 = .ok (.aload_n 0, 1) := by decide +kernel
theorem dX6_ring_20 : decode cX6_ring 20 = .ok (.getfield 50, 3) := by decide +kernel
theorem dX6_ring_23 : decode cX6_ring 23 = .ok (.aload_n 0, 1) := by decide +kernel
theorem dX6_ring_24 : decode cX6_ring 24 = .ok (.getfield 26, 3) := by decide +kernel
theorem dX6_ring_27 : decode cX6_ring 27 = .ok (.invokevirtual 157, 3) := by decide +kernel
theorem dX6_ring_30 : decode cX6_ring 30 = .ok (.ireturn, 1) := by decide +kernel
theorem dX6_brings_0 : decode cX6_brings 0 = .ok (.aload_n 0, 1) := by decide +kernel
theorem dX6_brings_1 : decode cX6_brings 1 = .ok (.iload_n 1, 1) := by decide +kernel
theorem dX6_brings_2 : decode cX6_brings 2 = .ok (.invokevirtual 89, 3) := by decide +kernel
theorem dX6_brings_5 : decode cX6_brings 5 = .ok (.ifCond .eq 20, 3) := by decide +kernel
theorem dX6_brings_8 : decode cX6_brings 8 = .ok (.iload_n 2, 1) := by decide +kernel
theorem dX6_brings_9 : decode cX6_brings 9 = .ok (.invokestatic 161, 3) := by decide +kernel
theorem dX6_brings_12 : decode cX6_brings 12 = .ok (.ifCond .eq 13, 3) := by decide +kernel
theorem dX6_brings_15 : decode cX6_brings 15 = .ok (.iload_n 3, 1) := by decide +kernel
theorem dX6_brings_16 : decode cX6_brings 16 = .ok (.iconst (-1), 1) := by decide +kernel
theorem dX6_brings_17 : decode cX6_brings 17 = .ok (.if_icmp .lt 8, 3) := by decide +kernel
theorem dX6_brings_20 : decode cX6_brings 20 = .ok (.iload_n 3, 1) := by decide +kernel
theorem dX6_brings_21 : decode cX6_brings 21 = .ok (.iconst 3, 1) := by decide +kernel
theorem dX6_brings_22 : decode cX6_brings 22 = .ok (.if_icmp .lt 5, 3) := by decide +kernel
theorem dX6_brings_25 : decode cX6_brings 25 = .ok (.iconst (-1), 1) := by decide +kernel
theorem dX6_brings_26 : decode cX6_brings 26 = .ok (.ireturn, 1) := by decide +kernel
theorem dX6_brings_27 : decode cX6_brings 27 = .ok (.aload_n 0, 1) := by decide +kernel
theorem dX6_brings_28 : decode cX6_brings 28 = .ok (.getfield 43, 3) := by decide +kernel
theorem dX6_brings_31 : decode cX6_brings 31 = .ok (.aload_n 0, 1) := by decide +kernel
theorem dX6_brings_32 : decode cX6_brings 32 = .ok (.getfield 50, 3) := by decide +kernel
theorem dX6_brings_35 : decode cX6_brings 35 = .ok (.aload_n 0, 1) := by decide +kernel
theorem dX6_brings_36 : decode cX6_brings 36 = .ok (.getfield 26, 3) := by decide +kernel
theorem dX6_brings_39 : decode cX6_brings 39 = .ok (.iload_n 1, 1) := by decide +kernel
theorem dX6_brings_40 : decode cX6_brings 40 = .ok (.iload_n 2, 1) := by decide +kernel
theorem dX6_brings_41 : decode cX6_brings 41 = .ok (.iconst 1, 1) := by decide +kernel
theorem dX6_brings_42 : decode cX6_brings 42 = .ok (.if_icmp .ne 7, 3) := by decide +kernel
theorem dX6_brings_45 : decode cX6_brings 45 = .ok (.iconst 1, 1) := by decide +kernel
theorem dX6_brings_46 : decode cX6_brings 46 = .ok (.goto 4, 3) := by decide +kernel
theorem dX6_brings_49 : decode cX6_brings 49 = .ok (.iconst 0, 1) := by decide +kernel
theorem dX6_brings_50 : decode cX6_brings 50 = .ok (.invokevirtual 164, 3) := by decide +kernel
theorem dX6_brings_53 : decode cX6_brings 53 = .ok (.istore 4, 2) := by decide +kernel
theorem dX6_brings_55 : decode cX6_brings 55 = .ok (.iload 4, 2) := by decide +kernel
theorem dX6_brings_57 : decode cX6_brings 57 = .ok (.ifCond .ge 6, 3) := by decide +kernel
theorem dX6_brings_60 : decode cX6_brings 60 = .ok (.bipush (-9), 2) := by decide +kernel
theorem dX6_brings_62 : decode cX6_brings 62 = .ok (.ireturn, 1) := by decide +kernel
theorem dX6_brings_63 : decode cX6_brings 63 = .ok (.iload_n 3, 1) := by decide +kernel
theorem dX6_brings_64 : decode cX6_brings 64 = .ok (.ifCond .ge 6, 3) := by decide +kernel
theorem dX6_brings_67 : decode cX6_brings 67 = .ok (.iload 4, 2) := by decide +kernel
theorem dX6_brings_69 : decode cX6_brings 69 = .ok (.ireturn, 1) := by decide +kernel
theorem dX6_brings_70 : decode cX6_brings 70 = .ok (.iload_n 3, 1) := by decide +kernel
theorem dX6_brings_71 : decode cX6_brings 71 = .ok (.iload 4, 2) := by decide +kernel
theorem dX6_brings_73 : decode cX6_brings 73 = .ok (.if_icmp .ge 17, 3) := by decide +kernel
theorem dX6_brings_76 : decode cX6_brings 76 = .ok (.aload_n 0, 1) := by decide +kernel
theorem dX6_brings_77 : decode cX6_brings 77 = .ok (.getfield 43, 3) := by decide +kernel
theorem dX6_brings_80 : decode cX6_brings 80 = .ok (.getfield 168, 3) := by decide +kernel
theorem dX6_brings_83 : decode cX6_brings 83 = .ok (.iload_n 3, 1) := by decide +kernel
theorem dX6_brings_84 : decode cX6_brings 84 = .ok (.invokestatic 97, 3) := by decide +kernel
theorem dX6_brings_87 : decode cX6_brings 87 = .ok (.goto 5, 3) := by decide +kernel
theorem dX6_brings_90 : decode cX6_brings 90 = .ok (.bipush (-5), 2) := by decide +kernel
theorem dX6_brings_92 : decode cX6_brings 92 = .ok (.ireturn, 1) := by decide +kernel
theorem dX6_days_0 : decode cX6_days 0 = .ok (.iload_n 1, 1) := by decide +kernel
theorem dX6_days_1 : decode cX6_days 1 = .ok (.iconst 1, 1) := by decide +kernel
theorem dX6_days_2 : decode cX6_days 2 = .ok (.if_icmp .lt 31, 3) := by decide +kernel
theorem dX6_days_5 : decode cX6_days 5 = .ok (.iload_n 1, 1) := by decide +kernel
theorem dX6_days_6 : decode cX6_days 6 = .ok (.iconst 3, 1) := by decide +kernel
theorem dX6_days_7 : decode cX6_days 7 = .ok (.if_icmp .gt 26, 3) := by decide +kernel
theorem dX6_days_10 : decode cX6_days 10 = .ok (.aload_n 0, 1) := by decide +kernel
theorem dX6_days_11 : decode cX6_days 11 = .ok (.iload_n 2, 1) := by decide +kernel
theorem dX6_days_12 : decode cX6_days 12 = .ok (.invokevirtual 89, 3) := by decide +kernel
theorem dX6_days_15 : decode cX6_days 15 = .ok (.ifCond .eq 18, 3) := by decide +kernel
theorem dX6_days_18 : decode cX6_days 18 = .ok (.iload_n 3, 1) := by decide +kernel
theorem dX6_days_19 : decode cX6_days 19 = .ok (.invokestatic 161, 3) := by decide +kernel
theorem dX6_days_22 : decode cX6_days 22 = .ok (.ifCond .eq 11, 3) := by decide +kernel
theorem dX6_days_25 : decode cX6_days 25 = .ok (.iload 4, 2) := by decide +kernel
theorem dX6_days_27 : decode cX6_days 27 = .ok (.invokestatic 161, 3) := by decide +kernel
theorem dX6_days_30 : decode cX6_days 30 = .ok (.ifCond .ne 5, 3) := by decide +kernel
theorem dX6_days_33 : decode cX6_days 33 = .ok (.iconst (-1), 1) := by decide +kernel
theorem dX6_days_34 : decode cX6_days 34 = .ok (.ireturn, 1) := by decide +kernel
theorem dX6_days_35 : decode cX6_days 35 = .ok (.aload_n 0, 1) := by decide +kernel
theorem dX6_days_36 : decode cX6_days 36 = .ok (.getfield 43, 3) := by decide +kernel
theorem dX6_days_39 : decode cX6_days 39 = .ok (.aload_n 0, 1) := by decide +kernel
theorem dX6_days_40 : decode cX6_days 40 = .ok (.getfield 50, 3) := by decide +kernel
theorem dX6_days_43 : decode cX6_days 43 = .ok (.aload_n 0, 1) := by decide +kernel
theorem dX6_days_44 : decode cX6_days 44 = .ok (.getfield 26, 3) := by decide +kernel
theorem dX6_days_47 : decode cX6_days 47 = .ok (.iload_n 1, 1) := by decide +kernel
theorem dX6_days_48 : decode cX6_days 48 = .ok (.iload_n 2, 1) := by decide +kernel
theorem dX6_days_49 : decode cX6_days 49 = .ok (.iload_n 3, 1) := by decide +kernel
theorem dX6_days_50 : decode cX6_days 50 = .ok (.iconst 1, 1) := by decide +kernel
theorem dX6_days_51 : decode cX6_days 51 = .ok (.if_icmp .ne 7, 3) := by decide +kernel
theorem dX6_days_54 : decode cX6_days 54 = .ok (.iconst 1, 1) := by decide +kernel
theorem dX6_days_55 : decode cX6_days 55 = .ok (.goto 4, 3) := by decide +kernel
theorem dX6_days_58 : decode cX6_days 58 = .ok (.iconst 0, 1) := by decide +kernel
theorem dX6_days_59 : decode cX6_days 59 = .ok (.invokevirtual 171, 3) := by decide +kernel
theorem dX6_days_62 : decode cX6_days 62 = .ok (.istore 5, 2) := by decide +kernel
theorem dX6_days_64 : decode cX6_days 64 = .ok (.iload 4, 2) := by decide +kernel
theorem dX6_days_66 : decode cX6_days 66 = .ok (.ifCond .ne 13, 3) := by decide +kernel
theorem dX6_days_69 : decode cX6_days 69 = .ok (.aload_n 0, 1) := by decide +kernel
theorem dX6_days_70 : decode cX6_days 70 = .ok (.getfield 43, 3) := by decide +kernel
theorem dX6_days_73 : decode cX6_days 73 = .ok (.getfield 175, 3) := by decide +kernel
theorem dX6_days_76 : decode cX6_days 76 = .ok (.goto 5, 3) := by decide +kernel
theorem dX6_days_79 : decode cX6_days 79 = .ok (.iload 5, 2) := by decide +kernel
theorem dX6_days_81 : decode cX6_days 81 = .ok (.ireturn, 1) := by decide +kernel
theorem dX6_asks_0 : decode cX6_asks 0 = .ok (.aload_n 0, 1) := by decide +kernel
theorem dX6_asks_1 : decode cX6_asks 1 = .ok (.iload_n 1, 1) := by decide +kernel
theorem dX6_asks_2 : decode cX6_asks 2 = .ok (.invokevirtual 89, 3) := by decide +kernel
theorem dX6_asks_5 : decode cX6_asks 5 = .ok (.ifCond .eq 13, 3) := by decide +kernel
theorem dX6_asks_8 : decode cX6_asks 8 = .ok (.iload_n 2, 1) := by decide +kernel
theorem dX6_asks_9 : decode cX6_asks 9 = .ok (.ifCond .lt 9, 3) := by decide +kernel
theorem dX6_asks_12 : decode cX6_asks 12 = .ok (.iload_n 2, 1) := by decide +kernel
theorem dX6_asks_13 : decode cX6_asks 13 = .ok (.bipush 8, 2) := by decide +kernel
theorem dX6_asks_15 : decode cX6_asks 15 = .ok (.if_icmp .le 5, 3) := by decide +kernel
theorem dX6_asks_18 : decode cX6_asks 18 = .ok (.iconst (-1), 1) := by decide +kernel
theorem dX6_asks_19 : decode cX6_asks 19 = .ok (.ireturn, 1) := by decide +kernel
theorem dX6_asks_20 : decode cX6_asks 20 = .ok (.aload_n 0, 1) := by decide +kernel
theorem dX6_asks_21 : decode cX6_asks 21 = .ok (.getfield 26, 3) := by decide +kernel
theorem dX6_asks_24 : decode cX6_asks 24 = .ok (.iload_n 1, 1) := by decide +kernel
theorem dX6_asks_25 : decode cX6_asks 25 = .ok (.iload_n 2, 1) := by decide +kernel
theorem dX6_asks_26 : decode cX6_asks 26 = .ok (.aload_n 0, 1) := by decide +kernel
theorem dX6_asks_27 : decode cX6_asks 27 = .ok (.getfield 50, 3) := by decide +kernel
theorem dX6_asks_30 : decode cX6_asks 30 = .ok (.getfield 120, 3) := by decide +kernel
theorem dX6_asks_33 : decode cX6_asks 33 = .ok (.invokevirtual 178, 3) := by decide +kernel
theorem dX6_asks_36 : decode cX6_asks 36 = .ok (.ireturn, 1) := by decide +kernel
theorem dX6_party_0 : decode cX6_party 0 = .ok (.aload_n 0, 1) := by decide +kernel
theorem dX6_party_1 : decode cX6_party 1 = .ok (.getfield 26, 3) := by decide +kernel
theorem dX6_party_4 : decode cX6_party 4 = .ok (.iload_n 1, 1) := by decide +kernel
theorem dX6_party_5 : decode cX6_party 5 = .ok (.aload_n 0, 1) := by decide +kernel
theorem dX6_party_6 : decode cX6_party 6 = .ok (.getfield 50, 3) := by decide +kernel
theorem dX6_party_9 : decode cX6_party 9 = .ok (.invokevirtual 182, 3) := by decide +kernel
theorem dX6_party_12 : decode cX6_party 12 = .ok (.iand, 1) := by decide +kernel
theorem dX6_party_13 : decode cX6_party 13 = .ok (.invokevirtual 185, 3) := by decide +kernel
theorem dX6_party_16 : decode cX6_party 16 = .ok (.ifCond .eq 7, 3) := by decide +kernel
theorem dX6_party_19 : decode cX6_party 19 = .ok (.iconst 1, 1) := by decide +kernel
theorem dX6_party_20 : decode cX6_party 20 = .ok (.goto 4, 3) := by decide +kernel
theorem dX6_party_23 : decode cX6_party 23 = .ok (.iconst 0, 1) := by decide +kernel
theorem dX6_party_24 : decode cX6_party 24 = .ok (.ireturn, 1) := by decide +kernel
theorem dX6_parties_0 : decode cX6_parties 0 = .ok (.iload_n 1, 1) := by decide +kernel
theorem dX6_parties_1 : decode cX6_parties 1 = .ok (.invokestatic 161, 3) := by decide +kernel
theorem dX6_parties_4 : decode cX6_parties 4 = .ok (.ifCond .ne 5, 3) := by decide +kernel
theorem dX6_parties_7 : decode cX6_parties 7 = .ok (.iconst (-1), 1) := by decide +kernel
theorem dX6_parties_8 : decode cX6_parties 8 = .ok (.ireturn, 1) := by decide +kernel
theorem dX6_parties_9 : decode cX6_parties 9 = .ok (.iconst 0, 1) := by decide +kernel
theorem dX6_parties_10 : decode cX6_parties 10 = .ok (.istore_n 2, 1) := by decide +kernel
theorem dX6_parties_11 : decode cX6_parties 11 = .ok (.iconst 0, 1) := by decide +kernel
theorem dX6_parties_12 : decode cX6_parties 12 = .ok (.istore_n 3, 1) := by decide +kernel
theorem dX6_parties_13 : decode cX6_parties 13 = .ok (.iconst 1, 1) := by decide +kernel
theorem dX6_parties_14 : decode cX6_parties 14 = .ok (.istore 4, 2) := by decide +kernel
theorem dX6_parties_16 : decode cX6_parties 16 = .ok (.iconst 0, 1) := by decide +kernel
theorem dX6_parties_17 : decode cX6_parties 17 = .ok (.istore 5, 2) := by decide +kernel
theorem dX6_parties_19 : decode cX6_parties 19 = .ok (.iload 5, 2) := by decide +kernel
theorem dX6_parties_21 : decode cX6_parties 21 = .ok (.aload_n 0, 1) := by decide +kernel
theorem dX6_parties_22 : decode cX6_parties 22 = .ok (.getfield 50, 3) := by decide +kernel
theorem dX6_parties_25 : decode cX6_parties 25 = .ok (.invokevirtual 182, 3) := by decide +kernel
theorem dX6_parties_28 : decode cX6_parties 28 = .ok (.if_icmp .gt 54, 3) := by decide +kernel
theorem dX6_parties_31 : decode cX6_parties 31 = .ok (.iload 5, 2) := by decide +kernel
theorem dX6_parties_33 : decode cX6_parties 33 = .ok (.invokestatic 188, 3) := by decide +kernel
theorem dX6_parties_36 : decode cX6_parties 36 = .ok (.istore 6, 2) := by decide +kernel
theorem dX6_parties_38 : decode cX6_parties 38 = .ok (.iload 6, 2) := by decide +kernel
theorem dX6_parties_40 : decode cX6_parties 40 = .ok (.iconst 2, 1) := by decide +kernel
theorem dX6_parties_41 : decode cX6_parties 41 = .ok (.if_icmp .lt 35, 3) := by decide +kernel
theorem dX6_parties_44 : decode cX6_parties 44 = .ok (.aload_n 0, 1) := by decide +kernel
theorem dX6_parties_45 : decode cX6_parties 45 = .ok (.getfield 26, 3) := by decide +kernel
theorem dX6_parties_48 : decode cX6_parties 48 = .ok (.iload 5, 2) := by decide +kernel
theorem dX6_parties_50 : decode cX6_parties 50 = .ok (.invokevirtual 185, 3) := by decide +kernel
theorem dX6_parties_53 : decode cX6_parties 53 = .ok (.ifCond .ne 6, 3) := by decide +kernel
theorem dX6_parties_56 : decode cX6_parties 56 = .ok (.goto 20, 3) := by decide +kernel
theorem dX6_parties_59 : decode cX6_parties 59 = .ok (.iinc 2 1, 3) := by decide +kernel
theorem dX6_parties_62 : decode cX6_parties 62 = .ok (.iload 6, 2) := by decide +kernel
theorem dX6_parties_64 : decode cX6_parties 64 = .ok (.iload 4, 2) := by decide +kernel
theorem dX6_parties_66 : decode cX6_parties 66 = .ok (.if_icmp .le 10, 3) := by decide +kernel
theorem dX6_parties_69 : decode cX6_parties 69 = .ok (.iload 6, 2) := by decide +kernel
theorem dX6_parties_71 : decode cX6_parties 71 = .ok (.istore 4, 2) := by decide +kernel
theorem dX6_parties_73 : decode cX6_parties 73 = .ok (.iload 5, 2) := by decide +kernel
theorem dX6_parties_75 : decode cX6_parties 75 = .ok (.istore_n 3, 1) := by decide +kernel
theorem dX6_parties_76 : decode cX6_parties 76 = .ok (.iinc 5 1, 3) := by decide +kernel
theorem dX6_parties_79 : decode cX6_parties 79 = .ok (.goto (-60), 3) := by decide +kernel
theorem dX6_parties_82 : decode cX6_parties 82 = .ok (.iload_n 1, 1) := by decide +kernel
theorem dX6_parties_83 : decode cX6_parties 83 = .ok (.ifCond .ne 7, 3) := by decide +kernel
theorem dX6_parties_86 : decode cX6_parties 86 = .ok (.iload_n 2, 1) := by decide +kernel
theorem dX6_parties_87 : decode cX6_parties 87 = .ok (.goto 4, 3) := by decide +kernel
theorem dX6_parties_90 : decode cX6_parties 90 = .ok (.iload_n 3, 1) := by decide +kernel
theorem dX6_parties_91 : decode cX6_parties 91 = .ok (.ireturn, 1) := by decide +kernel
theorem dX6_rate_0 : decode cX6_rate 0 = .ok (.aload_n 0, 1) := by decide +kernel
theorem dX6_rate_1 : decode cX6_rate 1 = .ok (.iload_n 2, 1) := by decide +kernel
theorem dX6_rate_2 : decode cX6_rate 2 = .ok (.invokevirtual 89, 3) := by decide +kernel
theorem dX6_rate_5 : decode cX6_rate 5 = .ok (.ifCond .ne 6, 3) := by decide +kernel
theorem dX6_rate_8 : decode cX6_rate 8 = .ok (.ldc 84, 2) := by decide +kernel
theorem dX6_rate_10 : decode cX6_rate 10 = .ok (.ireturn, 1) := by decide +kernel
theorem dX6_rate_11 : decode cX6_rate 11 = .ok (.iload_n 1, 1) := by decide +kernel
theorem dX6_rate_12 : decode cX6_rate 12 = .ok (.tableswitch 76 0 5 #[40, 46, 52, 58, 64, 70], 40) := by decide +kernel
theorem dX6_rate_52 : decode cX6_rate 52 = .ok (.aload_n 0, 1) := by decide +kernel
theorem dX6_rate_53 : decode cX6_rate 53 = .ok (.iload_n 2, 1) := by decide +kernel
theorem dX6_rate_54 : decode cX6_rate 54 = .ok (.invokevirtual 193, 3) := by decide +kernel
theorem dX6_rate_57 : decode cX6_rate 57 = .ok (.ireturn, 1) := by decide +kernel
theorem dX6_rate_58 : decode cX6_rate 58 = .ok (.aload_n 0, 1) := by decide +kernel
theorem dX6_rate_59 : decode cX6_rate 59 = .ok (.iload_n 2, 1) := by decide +kernel
theorem dX6_rate_60 : decode cX6_rate 60 = .ok (.invokevirtual 196, 3) := by decide +kernel
theorem dX6_rate_63 : decode cX6_rate 63 = .ok (.ireturn, 1) := by decide +kernel
theorem dX6_rate_64 : decode cX6_rate 64 = .ok (.aload_n 0, 1) := by decide +kernel
theorem dX6_rate_65 : decode cX6_rate 65 = .ok (.iload_n 2, 1) := by decide +kernel
theorem dX6_rate_66 : decode cX6_rate 66 = .ok (.invokevirtual 199, 3) := by decide +kernel
theorem dX6_rate_69 : decode cX6_rate 69 = .ok (.ireturn, 1) := by decide +kernel
theorem dX6_rate_70 : decode cX6_rate 70 = .ok (.aload_n 0, 1) := by decide +kernel
theorem dX6_rate_71 : decode cX6_rate 71 = .ok (.iload_n 2, 1) := by decide +kernel
theorem dX6_rate_72 : decode cX6_rate 72 = .ok (.invokevirtual 202, 3) := by decide +kernel
theorem dX6_rate_75 : decode cX6_rate 75 = .ok (.ireturn, 1) := by decide +kernel
theorem dX6_rate_76 : decode cX6_rate 76 = .ok (.aload_n 0, 1) := by decide +kernel
theorem dX6_rate_77 : decode cX6_rate 77 = .ok (.iload_n 2, 1) := by decide +kernel
theorem dX6_rate_78 : decode cX6_rate 78 = .ok (.invokevirtual 205, 3) := by decide +kernel
theorem dX6_rate_81 : decode cX6_rate 81 = .ok (.ireturn, 1) := by decide +kernel
theorem dX6_rate_82 : decode cX6_rate 82 = .ok (.aload_n 0, 1) := by decide +kernel
theorem dX6_rate_83 : decode cX6_rate 83 = .ok (.iload_n 2, 1) := by decide +kernel
theorem dX6_rate_84 : decode cX6_rate 84 = .ok (.invokevirtual 208, 3) := by decide +kernel
theorem dX6_rate_87 : decode cX6_rate 87 = .ok (.ireturn, 1) := by decide +kernel
theorem dX6_rate_88 : decode cX6_rate 88 = .ok (.ldc 84, 2) := by decide +kernel
theorem dX6_rate_90 : decode cX6_rate 90 = .ok (.ireturn, 1) := by decide +kernel
theorem dX6_keep_0 : decode cX6_keep 0 = .ok (.iload_n 1, 1) := by decide +kernel
theorem dX6_keep_1 : decode cX6_keep 1 = .ok (.invokestatic 161, 3) := by decide +kernel
theorem dX6_keep_4 : decode cX6_keep 4 = .ok (.ifCond .ne 5, 3) := by decide +kernel
theorem dX6_keep_7 : decode cX6_keep 7 = .ok (.iconst (-1), 1) := by decide +kernel
theorem dX6_keep_8 : decode cX6_keep 8 = .ok (.ireturn, 1) := by decide +kernel
theorem dX6_keep_9 : decode cX6_keep 9 = .ok (.aload_n 0, 1) := by decide +kernel
theorem dX6_keep_10 : decode cX6_keep 10 = .ok (.iload_n 1, 1) := by decide +kernel
theorem dX6_keep_11 : decode cX6_keep 11 = .ok (.invokevirtual 211, 3) := by decide +kernel
theorem dX6_keep_14 : decode cX6_keep 14 = .ok (.astore_n 2, 1) := by decide +kernel
theorem dX6_keep_15 : decode cX6_keep 15 = .ok (.aload_n 2, 1) := by decide +kernel
theorem dX6_keep_16 : decode cX6_keep 16 = .ok (.getfield 215, 3) := by decide +kernel
theorem dX6_keep_19 : decode cX6_keep 19 = .ok (.aload_n 0, 1) := by decide +kernel
theorem dX6_keep_20 : decode cX6_keep 20 = .ok (.getfield 26, 3) := by decide +kernel
theorem dX6_keep_23 : decode cX6_keep 23 = .ok (.invokevirtual 218, 3) := by decide +kernel
theorem dX6_keep_26 : decode cX6_keep 26 = .ok (.aload_n 2, 1) := by decide +kernel
theorem dX6_keep_27 : decode cX6_keep 27 = .ok (.iconst 1, 1) := by decide +kernel
theorem dX6_keep_28 : decode cX6_keep 28 = .ok (.putfield 73, 3) := by decide +kernel
theorem dX6_keep_31 : decode cX6_keep 31 = .ok (.aload_n 0, 1) := by decide +kernel
theorem dX6_keep_32 : decode cX6_keep 32 = .ok (.getfield 26, 3) := by decide +kernel
theorem dX6_keep_35 : decode cX6_keep 35 = .ok (.getfield 134, 3) := by decide +kernel
theorem dX6_keep_38 : decode cX6_keep 38 = .ok (.ireturn, 1) := by decide +kernel
theorem dX6_back_0 : decode cX6_back 0 = .ok (.iload_n 1, 1) := by decide +kernel
theorem dX6_back_1 : decode cX6_back 1 = .ok (.invokestatic 161, 3) := by decide +kernel
theorem dX6_back_4 : decode cX6_back 4 = .ok (.ifCond .ne 5, 3) := by decide +kernel
theorem dX6_back_7 : decode cX6_back 7 = .ok (.iconst (-1), 1) := by decide +kernel
theorem dX6_back_8 : decode cX6_back 8 = .ok (.ireturn, 1) := by decide +kernel
theorem dX6_back_9 : decode cX6_back 9 = .ok (.aload_n 0, 1) := by decide +kernel
theorem dX6_back_10 : decode cX6_back 10 = .ok (.iload_n 1, 1) := by decide +kernel
theorem dX6_back_11 : decode cX6_back 11 = .ok (.invokevirtual 211, 3) := by decide +kernel
theorem dX6_back_14 : decode cX6_back 14 = .ok (.astore_n 2, 1) := by decide +kernel
theorem dX6_back_15 : decode cX6_back 15 = .ok (.aload_n 2, 1) := by decide +kernel
theorem dX6_back_16 : decode cX6_back 16 = .ok (.getfield 73, 3) := by decide +kernel
theorem dX6_back_19 : decode cX6_back 19 = .ok (.ifCond .ne 6, 3) := by decide +kernel
theorem dX6_back_22 : decode cX6_back 22 = .ok (.bipush (-2), 2) := by decide +kernel
theorem dX6_back_24 : decode cX6_back 24 = .ok (.ireturn, 1) := by decide +kernel
theorem dX6_back_25 : decode cX6_back 25 = .ok (.aload_n 0, 1) := by decide +kernel
theorem dX6_back_26 : decode cX6_back 26 = .ok (.getfield 26, 3) := by decide +kernel
theorem dX6_back_29 : decode cX6_back 29 = .ok (.aload_n 2, 1) := by decide +kernel
theorem dX6_back_30 : decode cX6_back 30 = .ok (.getfield 215, 3) := by decide +kernel
theorem dX6_back_33 : decode cX6_back 33 = .ok (.invokevirtual 218, 3) := by decide +kernel
theorem dX6_back_36 : decode cX6_back 36 = .ok (.aload_n 0, 1) := by decide +kernel
theorem dX6_back_37 : decode cX6_back 37 = .ok (.getfield 26, 3) := by decide +kernel
theorem dX6_back_40 : decode cX6_back 40 = .ok (.getfield 134, 3) := by decide +kernel
theorem dX6_back_43 : decode cX6_back 43 = .ok (.ireturn, 1) := by decide +kernel
theorem dX6_count_0 : decode cX6_count 0 = .ok (.iload_n 1, 1) := by decide +kernel
theorem dX6_count_1 : decode cX6_count 1 = .ok (.tableswitch 63 0 3 #[31, 39, 47, 55], 31) := by decide +kernel
theorem dX6_count_32 : decode cX6_count 32 = .ok (.aload_n 0, 1) := by decide +kernel
theorem dX6_count_33 : decode cX6_count 33 = .ok (.getfield 50, 3) := by decide +kernel
theorem dX6_count_36 : decode cX6_count 36 = .ok (.getfield 120, 3) := by decide +kernel
theorem dX6_count_39 : decode cX6_count 39 = .ok (.ireturn, 1) := by decide +kernel
theorem dX6_count_40 : decode cX6_count 40 = .ok (.aload_n 0, 1) := by decide +kernel
theorem dX6_count_41 : decode cX6_count 41 = .ok (.getfield 26, 3) := by decide +kernel
theorem dX6_count_44 : decode cX6_count 44 = .ok (.invokevirtual 149, 3) := by decide +kernel
theorem dX6_count_47 : decode cX6_count 47 = .ok (.ireturn, 1) := by decide +kernel
theorem dX6_count_48 : decode cX6_count 48 = .ok (.aload_n 0, 1) := by decide +kernel
theorem dX6_count_49 : decode cX6_count 49 = .ok (.getfield 50, 3) := by decide +kernel
theorem dX6_count_52 : decode cX6_count 52 = .ok (.invokevirtual 222, 3) := by decide +kernel
theorem dX6_count_55 : decode cX6_count 55 = .ok (.ireturn, 1) := by decide +kernel
theorem dX6_count_56 : decode cX6_count 56 = .ok (.aload_n 0, 1) := by decide +kernel
theorem dX6_count_57 : decode cX6_count 57 = .ok (.getfield 10, 3) := by decide +kernel
theorem dX6_count_60 : decode cX6_count 60 = .ok (.getfield 61, 3) := by decide +kernel
theorem dX6_count_63 : decode cX6_count 63 = .ok (.ireturn, 1) := by decide +kernel
theorem dX6_count_64 : decode cX6_count 64 = .ok (.iconst (-1), 1) := by decide +kernel
theorem dX6_count_65 : decode cX6_count 65 = .ok (.ireturn, 1) := by decide +kernel
theorem dX6_trace_0 : decode cX6_trace 0 = .ok (.aload_n 0, 1) := by decide +kernel
theorem dX6_trace_1 : decode cX6_trace 1 = .ok (.getfield 225, 3) := by decide +kernel
theorem dX6_trace_4 : decode cX6_trace 4 = .ok (.lreturn, 1) := by decide +kernel
theorem dX6_asPerson_0 : decode cX6_asPerson 0 = .ok (.aload_n 0, 1) := by decide +kernel
theorem dX6_asPerson_1 : decode cX6_asPerson 1 = .ok (.dup, 1) := by decide +kernel
theorem dX6_asPerson_2 : decode cX6_asPerson 2 = .ok (.getfield 225, 3) := by decide +kernel
theorem dX6_asPerson_5 : decode cX6_asPerson 5 = .ok (.lconst 1, 1) := by decide +kernel
theorem dX6_asPerson_6 : decode cX6_asPerson 6 = .ok (.ladd, 1) := by decide +kernel
theorem dX6_asPerson_7 : decode cX6_asPerson 7 = .ok (.putfield 225, 3) := by decide +kernel
theorem dX6_asPerson_10 : decode cX6_asPerson 10 = .ok (.aload_n 0, 1) := by decide +kernel
theorem dX6_asPerson_11 : decode cX6_asPerson 11 = .ok (.getfield 26, 3) := by decide +kernel
theorem dX6_asPerson_14 : decode cX6_asPerson 14 = .ok (.getfield 93, 3) := by decide +kernel
theorem dX6_asPerson_17 : decode cX6_asPerson 17 = .ok (.iload_n 1, 1) := by decide +kernel
theorem dX6_asPerson_18 : decode cX6_asPerson 18 = .ok (.invokestatic 97, 3) := by decide +kernel
theorem dX6_asPerson_21 : decode cX6_asPerson 21 = .ok (.ireturn, 1) := by decide +kernel
theorem dX6_asShy_0 : decode cX6_asShy 0 = .ok (.aload_n 0, 1) := by decide +kernel
theorem dX6_asShy_1 : decode cX6_asShy 1 = .ok (.dup, 1) := by decide +kernel
theorem dX6_asShy_2 : decode cX6_asShy 2 = .ok (.getfield 225, 3) := by decide +kernel
theorem dX6_asShy_5 : decode cX6_asShy 5 = .ok (.ldc2_w 229, 3) := by decide +kernel
theorem dX6_asShy_8 : decode cX6_asShy 8 = .ok (.ladd, 1) := by decide +kernel
theorem dX6_asShy_9 : decode cX6_asShy 9 = .ok (.putfield 225, 3) := by decide +kernel
theorem dX6_asShy_12 : decode cX6_asShy 12 = .ok (.aload_n 0, 1) := by decide +kernel
theorem dX6_asShy_13 : decode cX6_asShy 13 = .ok (.iload_n 1, 1) := by decide +kernel
theorem dX6_asShy_14 : decode cX6_asShy 14 = .ok (.invokevirtual 193, 3) := by decide +kernel
theorem dX6_asShy_17 : decode cX6_asShy 17 = .ok (.aload_n 0, 1) := by decide +kernel
theorem dX6_asShy_18 : decode cX6_asShy 18 = .ok (.getfield 26, 3) := by decide +kernel
theorem dX6_asShy_21 : decode cX6_asShy 21 = .ok (.iload_n 1, 1) := by decide +kernel
theorem dX6_asShy_22 : decode cX6_asShy 22 = .ok (.invokevirtual 101, 3) := by decide +kernel
theorem dX6_asShy_25 : decode cX6_asShy 25 = .ok (.isub, 1) := by decide +kernel
theorem dX6_asShy_26 : decode cX6_asShy 26 = .ok (.ireturn, 1) := by decide +kernel
theorem dX6_asKnown_0 : decode cX6_asKnown 0 = .ok (.aload_n 0, 1) := by decide +kernel
theorem dX6_asKnown_1 : decode cX6_asKnown 1 = .ok (.dup, 1) := by decide +kernel
theorem dX6_asKnown_2 : decode cX6_asKnown 2 = .ok (.getfield 225, 3) := by decide +kernel
theorem dX6_asKnown_5 : decode cX6_asKnown 5 = .ok (.ldc2_w 231, 3) := by decide +kernel
theorem dX6_asKnown_8 : decode cX6_asKnown 8 = .ok (.ladd, 1) := by decide +kernel
theorem dX6_asKnown_9 : decode cX6_asKnown 9 = .ok (.putfield 225, 3) := by decide +kernel
theorem dX6_asKnown_12 : decode cX6_asKnown 12 = .ok (.aload_n 0, 1) := by decide +kernel
theorem dX6_asKnown_13 : decode cX6_asKnown 13 = .ok (.iload_n 1, 1) := by decide +kernel
theorem dX6_asKnown_14 : decode cX6_asKnown 14 = .ok (.invokevirtual 193, 3) := by decide +kernel
theorem dX6_asKnown_17 : decode cX6_asKnown 17 = .ok (.aload_n 0, 1) := by decide +kernel
theorem dX6_asKnown_18 : decode cX6_asKnown 18 = .ok (.getfield 26, 3) := by decide +kernel
theorem dX6_asKnown_21 : decode cX6_asKnown 21 = .ok (.getfield 108, 3) := by decide +kernel
theorem dX6_asKnown_24 : decode cX6_asKnown 24 = .ok (.iload_n 1, 1) := by decide +kernel
theorem dX6_asKnown_25 : decode cX6_asKnown 25 = .ok (.invokestatic 97, 3) := by decide +kernel
theorem dX6_asKnown_28 : decode cX6_asKnown 28 = .ok (.iadd, 1) := by decide +kernel
theorem dX6_asKnown_29 : decode cX6_asKnown 29 = .ok (.ireturn, 1) := by decide +kernel
theorem dX6_asMayor_0 : decode cX6_asMayor 0 = .ok (.aload_n 0, 1) := by decide +kernel
theorem dX6_asMayor_1 : decode cX6_asMayor 1 = .ok (.dup, 1) := by decide +kernel
theorem dX6_asMayor_2 : decode cX6_asMayor 2 = .ok (.getfield 225, 3) := by decide +kernel
theorem dX6_asMayor_5 : decode cX6_asMayor 5 = .ok (.ldc2_w 233, 3) := by decide +kernel
theorem dX6_asMayor_8 : decode cX6_asMayor 8 = .ok (.ladd, 1) := by decide +kernel
theorem dX6_asMayor_9 : decode cX6_asMayor 9 = .ok (.putfield 225, 3) := by decide +kernel
theorem dX6_asMayor_12 : decode cX6_asMayor 12 = .ok (.iconst 2, 1) := by decide +kernel
theorem dX6_asMayor_13 : decode cX6_asMayor 13 = .ok (.aload_n 0, 1) := by decide +kernel
theorem dX6_asMayor_14 : decode cX6_asMayor 14 = .ok (.iload_n 1, 1) := by decide +kernel
theorem dX6_asMayor_15 : decode cX6_asMayor 15 = .ok (.invokevirtual 199, 3) := by decide +kernel
theorem dX6_asMayor_18 : decode cX6_asMayor 18 = .ok (.imul, 1) := by decide +kernel
theorem dX6_asMayor_19 : decode cX6_asMayor 19 = .ok (.ireturn, 1) := by decide +kernel
theorem dX6_asHermit_0 : decode cX6_asHermit 0 = .ok (.aload_n 0, 1) := by decide +kernel
theorem dX6_asHermit_1 : decode cX6_asHermit 1 = .ok (.dup, 1) := by decide +kernel
theorem dX6_asHermit_2 : decode cX6_asHermit 2 = .ok (.getfield 225, 3) := by decide +kernel
theorem dX6_asHermit_5 : decode cX6_asHermit 5 = .ok (.ldc2_w 235, 3) := by decide +kernel
theorem dX6_asHermit_8 : decode cX6_asHermit 8 = .ok (.ladd, 1) := by decide +kernel
theorem dX6_asHermit_9 : decode cX6_asHermit 9 = .ok (.putfield 225, 3) := by decide +kernel
theorem dX6_asHermit_12 : decode cX6_asHermit 12 = .ok (.aload_n 0, 1) := by decide +kernel
theorem dX6_asHermit_13 : decode cX6_asHermit 13 = .ok (.iload_n 1, 1) := by decide +kernel
theorem dX6_asHermit_14 : decode cX6_asHermit 14 = .ok (.invokevirtual 196, 3) := by decide +kernel
theorem dX6_asHermit_17 : decode cX6_asHermit 17 = .ok (.iload_n 1, 1) := by decide +kernel
theorem dX6_asHermit_18 : decode cX6_asHermit 18 = .ok (.iadd, 1) := by decide +kernel
theorem dX6_asHermit_19 : decode cX6_asHermit 19 = .ok (.ireturn, 1) := by decide +kernel
theorem dX6_asStranger_0 : decode cX6_asStranger 0 = .ok (.aload_n 0, 1) := by decide +kernel
theorem dX6_asStranger_1 : decode cX6_asStranger 1 = .ok (.dup, 1) := by decide +kernel
theorem dX6_asStranger_2 : decode cX6_asStranger 2 = .ok (.getfield 225, 3) := by decide +kernel
theorem dX6_asStranger_5 : decode cX6_asStranger 5 = .ok (.ldc2_w 237, 3) := by decide +kernel
theorem dX6_asStranger_8 : decode cX6_asStranger 8 = .ok (.ladd, 1) := by decide +kernel
theorem dX6_asStranger_9 : decode cX6_asStranger 9 = .ok (.putfield 225, 3) := by decide +kernel
theorem dX6_asStranger_12 : decode cX6_asStranger 12 = .ok (.aload_n 0, 1) := by decide +kernel
theorem dX6_asStranger_13 : decode cX6_asStranger 13 = .ok (.iload_n 1, 1) := by decide +kernel
theorem dX6_asStranger_14 : decode cX6_asStranger 14 = .ok (.invokevirtual 193, 3) := by decide +kernel
theorem dX6_asStranger_17 : decode cX6_asStranger 17 = .ok (.aload_n 0, 1) := by decide +kernel
theorem dX6_asStranger_18 : decode cX6_asStranger 18 = .ok (.getfield 26, 3) := by decide +kernel
theorem dX6_asStranger_21 : decode cX6_asStranger 21 = .ok (.getfield 134, 3) := by decide +kernel
theorem dX6_asStranger_24 : decode cX6_asStranger 24 = .ok (.isub, 1) := by decide +kernel
theorem dX6_asStranger_25 : decode cX6_asStranger 25 = .ok (.ireturn, 1) := by decide +kernel
theorem dX6_isPerson_0 : decode cX6_isPerson 0 = .ok (.iload_n 1, 1) := by decide +kernel
theorem dX6_isPerson_1 : decode cX6_isPerson 1 = .ok (.ifCond .lt 18, 3) := by decide +kernel
theorem dX6_isPerson_4 : decode cX6_isPerson 4 = .ok (.iload_n 1, 1) := by decide +kernel
theorem dX6_isPerson_5 : decode cX6_isPerson 5 = .ok (.aload_n 0, 1) := by decide +kernel
theorem dX6_isPerson_6 : decode cX6_isPerson 6 = .ok (.getfield 50, 3) := by decide +kernel
theorem dX6_isPerson_9 : decode cX6_isPerson 9 = .ok (.getfield 120, 3) := by decide +kernel
theorem dX6_isPerson_12 : decode cX6_isPerson 12 = .ok (.if_icmp .ge 7, 3) := by decide +kernel
theorem dX6_isPerson_15 : decode cX6_isPerson 15 = .ok (.iconst 1, 1) := by decide +kernel
theorem dX6_isPerson_16 : decode cX6_isPerson 16 = .ok (.goto 4, 3) := by decide +kernel
theorem dX6_isPerson_19 : decode cX6_isPerson 19 = .ok (.iconst 0, 1) := by decide +kernel
theorem dX6_isPerson_20 : decode cX6_isPerson 20 = .ok (.ireturn, 1) := by decide +kernel
theorem dX6_isPair_0 : decode cX6_isPair 0 = .ok (.aload_n 0, 1) := by decide +kernel
theorem dX6_isPair_1 : decode cX6_isPair 1 = .ok (.iload_n 1, 1) := by decide +kernel
theorem dX6_isPair_2 : decode cX6_isPair 2 = .ok (.invokevirtual 89, 3) := by decide +kernel
theorem dX6_isPair_5 : decode cX6_isPair 5 = .ok (.ifCond .eq 20, 3) := by decide +kernel
theorem dX6_isPair_8 : decode cX6_isPair 8 = .ok (.aload_n 0, 1) := by decide +kernel
theorem dX6_isPair_9 : decode cX6_isPair 9 = .ok (.iload_n 2, 1) := by decide +kernel
theorem dX6_isPair_10 : decode cX6_isPair 10 = .ok (.invokevirtual 89, 3) := by decide +kernel
theorem dX6_isPair_13 : decode cX6_isPair 13 = .ok (.ifCond .eq 12, 3) := by decide +kernel
theorem dX6_isPair_16 : decode cX6_isPair 16 = .ok (.iload_n 1, 1) := by decide +kernel
theorem dX6_isPair_17 : decode cX6_isPair 17 = .ok (.iload_n 2, 1) := by decide +kernel
theorem dX6_isPair_18 : decode cX6_isPair 18 = .ok (.if_icmp .eq 7, 3) := by decide +kernel
theorem dX6_isPair_21 : decode cX6_isPair 21 = .ok (.iconst 1, 1) := by decide +kernel
theorem dX6_isPair_22 : decode cX6_isPair 22 = .ok (.goto 4, 3) := by decide +kernel
theorem dX6_isPair_25 : decode cX6_isPair 25 = .ok (.iconst 0, 1) := by decide +kernel
theorem dX6_isPair_26 : decode cX6_isPair 26 = .ok (.ireturn, 1) := by decide +kernel
theorem dX6_isChoice_0 : decode cX6_isChoice 0 = .ok (.iload_n 0, 1) := by decide +kernel
theorem dX6_isChoice_1 : decode cX6_isChoice 1 = .ok (.ifCond .eq 8, 3) := by decide +kernel
theorem dX6_isChoice_4 : decode cX6_isChoice 4 = .ok (.iload_n 0, 1) := by decide +kernel
theorem dX6_isChoice_5 : decode cX6_isChoice 5 = .ok (.iconst 1, 1) := by decide +kernel
theorem dX6_isChoice_6 : decode cX6_isChoice 6 = .ok (.if_icmp .ne 7, 3) := by decide +kernel
theorem dX6_isChoice_9 : decode cX6_isChoice 9 = .ok (.iconst 1, 1) := by decide +kernel
theorem dX6_isChoice_10 : decode cX6_isChoice 10 = .ok (.goto 4, 3) := by decide +kernel
theorem dX6_isChoice_13 : decode cX6_isChoice 13 = .ok (.iconst 0, 1) := by decide +kernel
theorem dX6_isChoice_14 : decode cX6_isChoice 14 = .ok (.ireturn, 1) := by decide +kernel
theorem dX6_imageOf_0 : decode cX6_imageOf 0 = .ok (.iload_n 1, 1) := by decide +kernel
theorem dX6_imageOf_1 : decode cX6_imageOf 1 = .ok (.ifCond .ne 10, 3) := by decide +kernel
theorem dX6_imageOf_4 : decode cX6_imageOf 4 = .ok (.aload_n 0, 1) := by decide +kernel
theorem dX6_imageOf_5 : decode cX6_imageOf 5 = .ok (.getfield 33, 3) := by decide +kernel
theorem dX6_imageOf_8 : decode cX6_imageOf 8 = .ok (.goto 7, 3) := by decide +kernel
theorem dX6_imageOf_11 : decode cX6_imageOf 11 = .ok (.aload_n 0, 1) := by decide +kernel
theorem dX6_imageOf_12 : decode cX6_imageOf 12 = .ok (.getfield 37, 3) := by decide +kernel
theorem dX6_imageOf_15 : decode cX6_imageOf 15 = .ok (.areturn, 1) := by decide +kernel
theorem dX6_at_0 : decode cX6_at 0 = .ok (.iload_n 1, 1) := by decide +kernel
theorem dX6_at_1 : decode cX6_at 1 = .ok (.ifCond .lt 15, 3) := by decide +kernel
theorem dX6_at_4 : decode cX6_at 4 = .ok (.iload_n 1, 1) := by decide +kernel
theorem dX6_at_5 : decode cX6_at 5 = .ok (.aload_n 0, 1) := by decide +kernel
theorem dX6_at_6 : decode cX6_at 6 = .ok (.arraylength, 1) := by decide +kernel
theorem dX6_at_7 : decode cX6_at 7 = .ok (.if_icmp .ge 9, 3) := by decide +kernel
theorem dX6_at_10 : decode cX6_at 10 = .ok (.aload_n 0, 1) := by decide +kernel
theorem dX6_at_11 : decode cX6_at 11 = .ok (.iload_n 1, 1) := by decide +kernel
theorem dX6_at_12 : decode cX6_at 12 = .ok (.iaload, 1) := by decide +kernel
theorem dX6_at_13 : decode cX6_at 13 = .ok (.goto 4, 3) := by decide +kernel
theorem dX6_at_16 : decode cX6_at 16 = .ok (.iconst 0, 1) := by decide +kernel
theorem dX6_at_17 : decode cX6_at 17 = .ok (.ireturn, 1) := by decide +kernel
theorem dX6_put_0 : decode cX6_put 0 = .ok (.iload_n 1, 1) := by decide +kernel
theorem dX6_put_1 : decode cX6_put 1 = .ok (.ifCond .lt 13, 3) := by decide +kernel
theorem dX6_put_4 : decode cX6_put 4 = .ok (.iload_n 1, 1) := by decide +kernel
theorem dX6_put_5 : decode cX6_put 5 = .ok (.aload_n 0, 1) := by decide +kernel
theorem dX6_put_6 : decode cX6_put 6 = .ok (.arraylength, 1) := by decide +kernel
theorem dX6_put_7 : decode cX6_put 7 = .ok (.if_icmp .ge 7, 3) := by decide +kernel
theorem dX6_put_10 : decode cX6_put 10 = .ok (.aload_n 0, 1) := by decide +kernel
theorem dX6_put_11 : decode cX6_put 11 = .ok (.iload_n 1, 1) := by decide +kernel
theorem dX6_put_12 : decode cX6_put 12 = .ok (.iload_n 2, 1) := by decide +kernel
theorem dX6_put_13 : decode cX6_put 13 = .ok (.iastore, 1) := by decide +kernel
theorem dX6_put_14 : decode cX6_put 14 = .ok (.return_, 1) := by decide +kernel
theorem dX6_copy_0 : decode cX6_copy 0 = .ok (.iconst 0, 1) := by decide +kernel
theorem dX6_copy_1 : decode cX6_copy 1 = .ok (.istore_n 2, 1) := by decide +kernel
theorem dX6_copy_2 : decode cX6_copy 2 = .ok (.iload_n 2, 1) := by decide +kernel
theorem dX6_copy_3 : decode cX6_copy 3 = .ok (.aload_n 0, 1) := by decide +kernel
theorem dX6_copy_4 : decode cX6_copy 4 = .ok (.arraylength, 1) := by decide +kernel
theorem dX6_copy_5 : decode cX6_copy 5 = .ok (.if_icmp .ge 21, 3) := by decide +kernel
theorem dX6_copy_8 : decode cX6_copy 8 = .ok (.iload_n 2, 1) := by decide +kernel
theorem dX6_copy_9 : decode cX6_copy 9 = .ok (.aload_n 1, 1) := by decide +kernel
theorem dX6_copy_10 : decode cX6_copy 10 = .ok (.arraylength, 1) := by decide +kernel
theorem dX6_copy_11 : decode cX6_copy 11 = .ok (.if_icmp .ge 15, 3) := by decide +kernel
theorem dX6_copy_14 : decode cX6_copy 14 = .ok (.aload_n 1, 1) := by decide +kernel
theorem dX6_copy_15 : decode cX6_copy 15 = .ok (.iload_n 2, 1) := by decide +kernel
theorem dX6_copy_16 : decode cX6_copy 16 = .ok (.aload_n 0, 1) := by decide +kernel
theorem dX6_copy_17 : decode cX6_copy 17 = .ok (.iload_n 2, 1) := by decide +kernel
theorem dX6_copy_18 : decode cX6_copy 18 = .ok (.iaload, 1) := by decide +kernel
theorem dX6_copy_19 : decode cX6_copy 19 = .ok (.iastore, 1) := by decide +kernel
theorem dX6_copy_20 : decode cX6_copy 20 = .ok (.iinc 2 1, 3) := by decide +kernel
theorem dX6_copy_23 : decode cX6_copy 23 = .ok (.goto (-21), 3) := by decide +kernel
theorem dX6_copy_26 : decode cX6_copy 26 = .ok (.return_, 1) := by decide +kernel
theorem dX6_fill_0 : decode cX6_fill 0 = .ok (.iconst 0, 1) := by decide +kernel
theorem dX6_fill_1 : decode cX6_fill 1 = .ok (.istore_n 2, 1) := by decide +kernel
theorem dX6_fill_2 : decode cX6_fill 2 = .ok (.iload_n 2, 1) := by decide +kernel
theorem dX6_fill_3 : decode cX6_fill 3 = .ok (.aload_n 0, 1) := by decide +kernel
theorem dX6_fill_4 : decode cX6_fill 4 = .ok (.arraylength, 1) := by decide +kernel
theorem dX6_fill_5 : decode cX6_fill 5 = .ok (.if_icmp .ge 13, 3) := by decide +kernel
theorem dX6_fill_8 : decode cX6_fill 8 = .ok (.aload_n 0, 1) := by decide +kernel
theorem dX6_fill_9 : decode cX6_fill 9 = .ok (.iload_n 2, 1) := by decide +kernel
theorem dX6_fill_10 : decode cX6_fill 10 = .ok (.iload_n 1, 1) := by decide +kernel
theorem dX6_fill_11 : decode cX6_fill 11 = .ok (.iastore, 1) := by decide +kernel
theorem dX6_fill_12 : decode cX6_fill 12 = .ok (.iinc 2 1, 3) := by decide +kernel
theorem dX6_fill_15 : decode cX6_fill 15 = .ok (.goto (-13), 3) := by decide +kernel
theorem dX6_fill_18 : decode cX6_fill 18 = .ok (.return_, 1) := by decide +kernel
theorem dJ6_bitCount_0f7a4_0 : decode cJ6_bitCount_0f7a4 0 = .ok (.iload_n 0, 1) := by decide +kernel
theorem dJ6_bitCount_0f7a4_1 : decode cJ6_bitCount_0f7a4 1 = .ok (.iload_n 0, 1) := by decide +kernel
theorem dJ6_bitCount_0f7a4_2 : decode cJ6_bitCount_0f7a4 2 = .ok (.iconst 1, 1) := by decide +kernel
theorem dJ6_bitCount_0f7a4_3 : decode cJ6_bitCount_0f7a4 3 = .ok (.iushr, 1) := by decide +kernel
theorem dJ6_bitCount_0f7a4_4 : decode cJ6_bitCount_0f7a4 4 = .ok (.ldc_w 265, 3) := by decide +kernel
theorem dJ6_bitCount_0f7a4_7 : decode cJ6_bitCount_0f7a4 7 = .ok (.iand, 1) := by decide +kernel
theorem dJ6_bitCount_0f7a4_8 : decode cJ6_bitCount_0f7a4 8 = .ok (.isub, 1) := by decide +kernel
theorem dJ6_bitCount_0f7a4_9 : decode cJ6_bitCount_0f7a4 9 = .ok (.istore_n 0, 1) := by decide +kernel
theorem dJ6_bitCount_0f7a4_10 : decode cJ6_bitCount_0f7a4 10 = .ok (.iload_n 0, 1) := by decide +kernel
theorem dJ6_bitCount_0f7a4_11 : decode cJ6_bitCount_0f7a4 11 = .ok (.ldc_w 266, 3) := by decide +kernel
theorem dJ6_bitCount_0f7a4_14 : decode cJ6_bitCount_0f7a4 14 = .ok (.iand, 1) := by decide +kernel
theorem dJ6_bitCount_0f7a4_15 : decode cJ6_bitCount_0f7a4 15 = .ok (.iload_n 0, 1) := by decide +kernel
theorem dJ6_bitCount_0f7a4_16 : decode cJ6_bitCount_0f7a4 16 = .ok (.iconst 2, 1) := by decide +kernel
theorem dJ6_bitCount_0f7a4_17 : decode cJ6_bitCount_0f7a4 17 = .ok (.iushr, 1) := by decide +kernel
theorem dJ6_bitCount_0f7a4_18 : decode cJ6_bitCount_0f7a4 18 = .ok (.ldc_w 266, 3) := by decide +kernel
theorem dJ6_bitCount_0f7a4_21 : decode cJ6_bitCount_0f7a4 21 = .ok (.iand, 1) := by decide +kernel
theorem dJ6_bitCount_0f7a4_22 : decode cJ6_bitCount_0f7a4 22 = .ok (.iadd, 1) := by decide +kernel
theorem dJ6_bitCount_0f7a4_23 : decode cJ6_bitCount_0f7a4 23 = .ok (.istore_n 0, 1) := by decide +kernel
theorem dJ6_bitCount_0f7a4_24 : decode cJ6_bitCount_0f7a4 24 = .ok (.iload_n 0, 1) := by decide +kernel
theorem dJ6_bitCount_0f7a4_25 : decode cJ6_bitCount_0f7a4 25 = .ok (.iload_n 0, 1) := by decide +kernel
theorem dJ6_bitCount_0f7a4_26 : decode cJ6_bitCount_0f7a4 26 = .ok (.iconst 4, 1) := by decide +kernel
theorem dJ6_bitCount_0f7a4_27 : decode cJ6_bitCount_0f7a4 27 = .ok (.iushr, 1) := by decide +kernel
theorem dJ6_bitCount_0f7a4_28 : decode cJ6_bitCount_0f7a4 28 = .ok (.iadd, 1) := by decide +kernel
theorem dJ6_bitCount_0f7a4_29 : decode cJ6_bitCount_0f7a4 29 = .ok (.ldc_w 267, 3) := by decide +kernel
theorem dJ6_bitCount_0f7a4_32 : decode cJ6_bitCount_0f7a4 32 = .ok (.iand, 1) := by decide +kernel
theorem dJ6_bitCount_0f7a4_33 : decode cJ6_bitCount_0f7a4 33 = .ok (.istore_n 0, 1) := by decide +kernel
theorem dJ6_bitCount_0f7a4_34 : decode cJ6_bitCount_0f7a4 34 = .ok (.iload_n 0, 1) := by decide +kernel
theorem dJ6_bitCount_0f7a4_35 : decode cJ6_bitCount_0f7a4 35 = .ok (.iload_n 0, 1) := by decide +kernel
theorem dJ6_bitCount_0f7a4_36 : decode cJ6_bitCount_0f7a4 36 = .ok (.bipush 8, 2) := by decide +kernel
theorem dJ6_bitCount_0f7a4_38 : decode cJ6_bitCount_0f7a4 38 = .ok (.iushr, 1) := by decide +kernel
theorem dJ6_bitCount_0f7a4_39 : decode cJ6_bitCount_0f7a4 39 = .ok (.iadd, 1) := by decide +kernel
theorem dJ6_bitCount_0f7a4_40 : decode cJ6_bitCount_0f7a4 40 = .ok (.istore_n 0, 1) := by decide +kernel
theorem dJ6_bitCount_0f7a4_41 : decode cJ6_bitCount_0f7a4 41 = .ok (.iload_n 0, 1) := by decide +kernel
theorem dJ6_bitCount_0f7a4_42 : decode cJ6_bitCount_0f7a4 42 = .ok (.iload_n 0, 1) := by decide +kernel
theorem dJ6_bitCount_0f7a4_43 : decode cJ6_bitCount_0f7a4 43 = .ok (.bipush 16, 2) := by decide +kernel
theorem dJ6_bitCount_0f7a4_45 : decode cJ6_bitCount_0f7a4 45 = .ok (.iushr, 1) := by decide +kernel
theorem dJ6_bitCount_0f7a4_46 : decode cJ6_bitCount_0f7a4 46 = .ok (.iadd, 1) := by decide +kernel
theorem dJ6_bitCount_0f7a4_47 : decode cJ6_bitCount_0f7a4 47 = .ok (.istore_n 0, 1) := by decide +kernel
theorem dJ6_bitCount_0f7a4_48 : decode cJ6_bitCount_0f7a4 48 = .ok (.iload_n 0, 1) := by decide +kernel
theorem dJ6_bitCount_0f7a4_49 : decode cJ6_bitCount_0f7a4 49 = .ok (.bipush 63, 2) := by decide +kernel
theorem dJ6_bitCount_0f7a4_51 : decode cJ6_bitCount_0f7a4 51 = .ok (.iand, 1) := by decide +kernel
theorem dJ6_bitCount_0f7a4_52 : decode cJ6_bitCount_0f7a4 52 = .ok (.ireturn, 1) := by decide +kernel
theorem dJ9_min_7cf53_0 : decode cJ9_min_7cf53 0 = .ok (.iload_n 0, 1) := by decide +kernel
theorem dJ9_min_7cf53_1 : decode cJ9_min_7cf53 1 = .ok (.iload_n 1, 1) := by decide +kernel
theorem dJ9_min_7cf53_2 : decode cJ9_min_7cf53 2 = .ok (.if_icmp .gt 7, 3) := by decide +kernel
theorem dJ9_min_7cf53_5 : decode cJ9_min_7cf53 5 = .ok (.iload_n 0, 1) := by decide +kernel
theorem dJ9_min_7cf53_6 : decode cJ9_min_7cf53 6 = .ok (.goto 4, 3) := by decide +kernel
theorem dJ9_min_7cf53_9 : decode cJ9_min_7cf53 9 = .ok (.iload_n 1, 1) := by decide +kernel
theorem dJ9_min_7cf53_10 : decode cJ9_min_7cf53 10 = .ok (.ireturn, 1) := by decide +kernel
theorem dJ0_length_8abf5_0 : decode cJ0_length_8abf5 0 = .ok (.aload_n 0, 1) := by decide +kernel
theorem dJ0_length_8abf5_1 : decode cJ0_length_8abf5 1 = .ok (.getfield 9, 3) := by decide +kernel
theorem dJ0_length_8abf5_4 : decode cJ0_length_8abf5 4 = .ok (.arraylength, 1) := by decide +kernel
theorem dJ0_length_8abf5_5 : decode cJ0_length_8abf5 5 = .ok (.aload_n 0, 1) := by decide +kernel
theorem dJ0_length_8abf5_6 : decode cJ0_length_8abf5 6 = .ok (.invokevirtual 335, 3) := by decide +kernel
theorem dJ0_length_8abf5_9 : decode cJ0_length_8abf5 9 = .ok (.ishr, 1) := by decide +kernel
theorem dJ0_length_8abf5_10 : decode cJ0_length_8abf5 10 = .ok (.ireturn, 1) := by decide +kernel
theorem dJ0_charAt_5068e_0 : decode cJ0_charAt_5068e 0 = .ok (.aload_n 0, 1) := by decide +kernel
theorem dJ0_charAt_5068e_1 : decode cJ0_charAt_5068e 1 = .ok (.invokevirtual 492, 3) := by decide +kernel
theorem dJ0_charAt_5068e_4 : decode cJ0_charAt_5068e 4 = .ok (.ifCond .eq 12, 3) := by decide +kernel
theorem dJ0_charAt_5068e_7 : decode cJ0_charAt_5068e 7 = .ok (.aload_n 0, 1) := by decide +kernel
theorem dJ0_charAt_5068e_8 : decode cJ0_charAt_5068e 8 = .ok (.getfield 9, 3) := by decide +kernel
theorem dJ0_charAt_5068e_11 : decode cJ0_charAt_5068e 11 = .ok (.iload_n 1, 1) := by decide +kernel
theorem dJ0_charAt_5068e_12 : decode cJ0_charAt_5068e 12 = .ok (.invokestatic 495, 3) := by decide +kernel
theorem dJ0_charAt_5068e_15 : decode cJ0_charAt_5068e 15 = .ok (.ireturn, 1) := by decide +kernel
theorem dJ0_charAt_5068e_16 : decode cJ0_charAt_5068e 16 = .ok (.aload_n 0, 1) := by decide +kernel
theorem dJ0_charAt_5068e_17 : decode cJ0_charAt_5068e 17 = .ok (.getfield 9, 3) := by decide +kernel
theorem dJ0_charAt_5068e_20 : decode cJ0_charAt_5068e 20 = .ok (.iload_n 1, 1) := by decide +kernel
theorem dJ0_charAt_5068e_21 : decode cJ0_charAt_5068e 21 = .ok (.invokestatic 498, 3) := by decide +kernel
theorem dJ0_charAt_5068e_24 : decode cJ0_charAt_5068e 24 = .ok (.ireturn, 1) := by decide +kernel
theorem dJ0_coder_7d493_0 : decode cJ0_coder_7d493 0 = .ok (.getstatic 38, 3) := by decide +kernel
theorem dJ0_coder_7d493_3 : decode cJ0_coder_7d493 3 = .ok (.ifCond .eq 10, 3) := by decide +kernel
theorem dJ0_coder_7d493_6 : decode cJ0_coder_7d493 6 = .ok (.aload_n 0, 1) := by decide +kernel
theorem dJ0_coder_7d493_7 : decode cJ0_coder_7d493 7 = .ok (.getfield 15, 3) := by decide +kernel
theorem dJ0_coder_7d493_10 : decode cJ0_coder_7d493 10 = .ok (.goto 4, 3) := by decide +kernel
theorem dJ0_coder_7d493_13 : decode cJ0_coder_7d493 13 = .ok (.iconst 1, 1) := by decide +kernel
theorem dJ0_coder_7d493_14 : decode cJ0_coder_7d493 14 = .ok (.ireturn, 1) := by decide +kernel
theorem dJ0_isLatin1_aae02_0 : decode cJ0_isLatin1_aae02 0 = .ok (.getstatic 38, 3) := by decide +kernel
theorem dJ0_isLatin1_aae02_3 : decode cJ0_isLatin1_aae02 3 = .ok (.ifCond .eq 14, 3) := by decide +kernel
theorem dJ0_isLatin1_aae02_6 : decode cJ0_isLatin1_aae02 6 = .ok (.aload_n 0, 1) := by decide +kernel
theorem dJ0_isLatin1_aae02_7 : decode cJ0_isLatin1_aae02 7 = .ok (.getfield 15, 3) := by decide +kernel
theorem dJ0_isLatin1_aae02_10 : decode cJ0_isLatin1_aae02 10 = .ok (.ifCond .ne 7, 3) := by decide +kernel
theorem dJ0_isLatin1_aae02_13 : decode cJ0_isLatin1_aae02 13 = .ok (.iconst 1, 1) := by decide +kernel
theorem dJ0_isLatin1_aae02_14 : decode cJ0_isLatin1_aae02 14 = .ok (.goto 4, 3) := by decide +kernel
theorem dJ0_isLatin1_aae02_17 : decode cJ0_isLatin1_aae02 17 = .ok (.iconst 0, 1) := by decide +kernel
theorem dJ0_isLatin1_aae02_18 : decode cJ0_isLatin1_aae02 18 = .ok (.ireturn, 1) := by decide +kernel
theorem dJ0_checkIndex_df160_0 : decode cJ0_checkIndex_df160 0 = .ok (.iload_n 0, 1) := by decide +kernel
theorem dJ0_checkIndex_df160_1 : decode cJ0_checkIndex_df160 1 = .ok (.iload_n 1, 1) := by decide +kernel
theorem dJ0_checkIndex_df160_2 : decode cJ0_checkIndex_df160 2 = .ok (.getstatic 1053, 3) := by decide +kernel
theorem dJ0_checkIndex_df160_5 : decode cJ0_checkIndex_df160 5 = .ok (.invokestatic 1059, 3) := by decide +kernel
theorem dJ0_checkIndex_df160_8 : decode cJ0_checkIndex_df160 8 = .ok (.pop, 1) := by decide +kernel
theorem dJ0_checkIndex_df160_9 : decode cJ0_checkIndex_df160 9 = .ok (.return_, 1) := by decide +kernel
theorem dJ1_charAt_3b067_0 : decode cJ1_charAt_3b067 0 = .ok (.iload_n 1, 1) := by decide +kernel
theorem dJ1_charAt_3b067_1 : decode cJ1_charAt_3b067 1 = .ok (.aload_n 0, 1) := by decide +kernel
theorem dJ1_charAt_3b067_2 : decode cJ1_charAt_3b067 2 = .ok (.arraylength, 1) := by decide +kernel
theorem dJ1_charAt_3b067_3 : decode cJ1_charAt_3b067 3 = .ok (.invokestatic 9, 3) := by decide +kernel
theorem dJ1_charAt_3b067_6 : decode cJ1_charAt_3b067 6 = .ok (.aload_n 0, 1) := by decide +kernel
theorem dJ1_charAt_3b067_7 : decode cJ1_charAt_3b067 7 = .ok (.iload_n 1, 1) := by decide +kernel
theorem dJ1_charAt_3b067_8 : decode cJ1_charAt_3b067 8 = .ok (.baload, 1) := by decide +kernel
theorem dJ1_charAt_3b067_9 : decode cJ1_charAt_3b067 9 = .ok (.sipush 255, 3) := by decide +kernel
theorem dJ1_charAt_3b067_12 : decode cJ1_charAt_3b067 12 = .ok (.iand, 1) := by decide +kernel
theorem dJ1_charAt_3b067_13 : decode cJ1_charAt_3b067 13 = .ok (.i2c, 1) := by decide +kernel
theorem dJ1_charAt_3b067_14 : decode cJ1_charAt_3b067 14 = .ok (.ireturn, 1) := by decide +kernel
theorem dJ2_getChar_3b067_0 : decode cJ2_getChar_3b067 0 = .ok (.getstatic 44, 3) := by decide +kernel
theorem dJ2_getChar_3b067_3 : decode cJ2_getChar_3b067 3 = .ok (.ifCond .ne 25, 3) := by decide +kernel
theorem dJ2_getChar_3b067_6 : decode cJ2_getChar_3b067 6 = .ok (.iload_n 1, 1) := by decide +kernel
theorem dJ2_getChar_3b067_7 : decode cJ2_getChar_3b067 7 = .ok (.ifCond .lt 11, 3) := by decide +kernel
theorem dJ2_getChar_3b067_10 : decode cJ2_getChar_3b067 10 = .ok (.iload_n 1, 1) := by decide +kernel
theorem dJ2_getChar_3b067_11 : decode cJ2_getChar_3b067 11 = .ok (.aload_n 0, 1) := by decide +kernel
theorem dJ2_getChar_3b067_12 : decode cJ2_getChar_3b067 12 = .ok (.invokestatic 48, 3) := by decide +kernel
theorem dJ2_getChar_3b067_15 : decode cJ2_getChar_3b067 15 = .ok (.if_icmp .lt 13, 3) := by decide +kernel
theorem dJ2_getChar_3b067_18 : decode cJ2_getChar_3b067 18 = .ok (.new 52, 3) := by decide +kernel
theorem dJ2_getChar_3b067_21 : decode cJ2_getChar_3b067 21 = .ok (.dup, 1) := by decide +kernel
theorem dJ2_getChar_3b067_22 : decode cJ2_getChar_3b067 22 = .ok (.ldc 54, 2) := by decide +kernel
theorem dJ2_getChar_3b067_24 : decode cJ2_getChar_3b067 24 = .ok (.invokespecial 56, 3) := by decide +kernel
theorem dJ2_getChar_3b067_27 : decode cJ2_getChar_3b067 27 = .ok (.athrow, 1) := by decide +kernel
theorem dJ2_getChar_3b067_28 : decode cJ2_getChar_3b067 28 = .ok (.iload_n 1, 1) := by decide +kernel
theorem dJ2_getChar_3b067_29 : decode cJ2_getChar_3b067 29 = .ok (.iconst 1, 1) := by decide +kernel
theorem dJ2_getChar_3b067_30 : decode cJ2_getChar_3b067 30 = .ok (.ishl, 1) := by decide +kernel
theorem dJ2_getChar_3b067_31 : decode cJ2_getChar_3b067 31 = .ok (.istore_n 1, 1) := by decide +kernel
theorem dJ2_getChar_3b067_32 : decode cJ2_getChar_3b067 32 = .ok (.aload_n 0, 1) := by decide +kernel
theorem dJ2_getChar_3b067_33 : decode cJ2_getChar_3b067 33 = .ok (.iload_n 1, 1) := by decide +kernel
theorem dJ2_getChar_3b067_34 : decode cJ2_getChar_3b067 34 = .ok (.iinc 1 1, 3) := by decide +kernel
theorem dJ2_getChar_3b067_37 : decode cJ2_getChar_3b067 37 = .ok (.baload, 1) := by decide +kernel
theorem dJ2_getChar_3b067_38 : decode cJ2_getChar_3b067 38 = .ok (.sipush 255, 3) := by decide +kernel
theorem dJ2_getChar_3b067_41 : decode cJ2_getChar_3b067 41 = .ok (.iand, 1) := by decide +kernel
theorem dJ2_getChar_3b067_42 : decode cJ2_getChar_3b067 42 = .ok (.getstatic 59, 3) := by decide +kernel
theorem dJ2_getChar_3b067_45 : decode cJ2_getChar_3b067 45 = .ok (.ishl, 1) := by decide +kernel
theorem dJ2_getChar_3b067_46 : decode cJ2_getChar_3b067 46 = .ok (.aload_n 0, 1) := by decide +kernel
theorem dJ2_getChar_3b067_47 : decode cJ2_getChar_3b067 47 = .ok (.iload_n 1, 1) := by decide +kernel
theorem dJ2_getChar_3b067_48 : decode cJ2_getChar_3b067 48 = .ok (.baload, 1) := by decide +kernel
theorem dJ2_getChar_3b067_49 : decode cJ2_getChar_3b067 49 = .ok (.sipush 255, 3) := by decide +kernel
theorem dJ2_getChar_3b067_52 : decode cJ2_getChar_3b067 52 = .ok (.iand, 1) := by decide +kernel
theorem dJ2_getChar_3b067_53 : decode cJ2_getChar_3b067 53 = .ok (.getstatic 63, 3) := by decide +kernel
theorem dJ2_getChar_3b067_56 : decode cJ2_getChar_3b067 56 = .ok (.ishl, 1) := by decide +kernel
theorem dJ2_getChar_3b067_57 : decode cJ2_getChar_3b067 57 = .ok (.ior, 1) := by decide +kernel
theorem dJ2_getChar_3b067_58 : decode cJ2_getChar_3b067 58 = .ok (.i2c, 1) := by decide +kernel
theorem dJ2_getChar_3b067_59 : decode cJ2_getChar_3b067 59 = .ok (.ireturn, 1) := by decide +kernel
theorem dJ2_length_9d52b_0 : decode cJ2_length_9d52b 0 = .ok (.aload_n 0, 1) := by decide +kernel
theorem dJ2_length_9d52b_1 : decode cJ2_length_9d52b 1 = .ok (.arraylength, 1) := by decide +kernel
theorem dJ2_length_9d52b_2 : decode cJ2_length_9d52b 2 = .ok (.iconst 1, 1) := by decide +kernel
theorem dJ2_length_9d52b_3 : decode cJ2_length_9d52b 3 = .ok (.ishr, 1) := by decide +kernel
theorem dJ2_length_9d52b_4 : decode cJ2_length_9d52b 4 = .ok (.ireturn, 1) := by decide +kernel
theorem dJ2_charAt_3b067_0 : decode cJ2_charAt_3b067 0 = .ok (.iload_n 1, 1) := by decide +kernel
theorem dJ2_charAt_3b067_1 : decode cJ2_charAt_3b067 1 = .ok (.aload_n 0, 1) := by decide +kernel
theorem dJ2_charAt_3b067_2 : decode cJ2_charAt_3b067 2 = .ok (.invokestatic 67, 3) := by decide +kernel
theorem dJ2_charAt_3b067_5 : decode cJ2_charAt_3b067 5 = .ok (.aload_n 0, 1) := by decide +kernel
theorem dJ2_charAt_3b067_6 : decode cJ2_charAt_3b067 6 = .ok (.iload_n 1, 1) := by decide +kernel
theorem dJ2_charAt_3b067_7 : decode cJ2_charAt_3b067 7 = .ok (.invokestatic 71, 3) := by decide +kernel
theorem dJ2_charAt_3b067_10 : decode cJ2_charAt_3b067 10 = .ok (.ireturn, 1) := by decide +kernel
theorem dJ2_checkIndex_2214a_0 : decode cJ2_checkIndex_2214a 0 = .ok (.iload_n 0, 1) := by decide +kernel
theorem dJ2_checkIndex_2214a_1 : decode cJ2_checkIndex_2214a 1 = .ok (.aload_n 1, 1) := by decide +kernel
theorem dJ2_checkIndex_2214a_2 : decode cJ2_checkIndex_2214a 2 = .ok (.invokestatic 48, 3) := by decide +kernel
theorem dJ2_checkIndex_2214a_5 : decode cJ2_checkIndex_2214a 5 = .ok (.invokestatic 414, 3) := by decide +kernel
theorem dJ2_checkIndex_2214a_8 : decode cJ2_checkIndex_2214a 8 = .ok (.return_, 1) := by decide +kernel
theorem dJ3_checkIndex_8e157_0 : decode cJ3_checkIndex_8e157 0 = .ok (.iload_n 0, 1) := by decide +kernel
theorem dJ3_checkIndex_8e157_1 : decode cJ3_checkIndex_8e157 1 = .ok (.ifCond .lt 8, 3) := by decide +kernel
theorem dJ3_checkIndex_8e157_4 : decode cJ3_checkIndex_8e157 4 = .ok (.iload_n 0, 1) := by decide +kernel
theorem dJ3_checkIndex_8e157_5 : decode cJ3_checkIndex_8e157 5 = .ok (.iload_n 1, 1) := by decide +kernel
theorem dJ3_checkIndex_8e157_6 : decode cJ3_checkIndex_8e157 6 = .ok (.if_icmp .lt 10, 3) := by decide +kernel
theorem dJ3_checkIndex_8e157_9 : decode cJ3_checkIndex_8e157 9 = .ok (.aload_n 2, 1) := by decide +kernel
theorem dJ3_checkIndex_8e157_10 : decode cJ3_checkIndex_8e157 10 = .ok (.iload_n 0, 1) := by decide +kernel
theorem dJ3_checkIndex_8e157_11 : decode cJ3_checkIndex_8e157 11 = .ok (.iload_n 1, 1) := by decide +kernel
theorem dJ3_checkIndex_8e157_12 : decode cJ3_checkIndex_8e157 12 = .ok (.invokestatic 95, 3) := by decide +kernel
theorem dJ3_checkIndex_8e157_15 : decode cJ3_checkIndex_8e157 15 = .ok (.athrow, 1) := by decide +kernel
theorem dJ3_checkIndex_8e157_16 : decode cJ3_checkIndex_8e157 16 = .ok (.iload_n 0, 1) := by decide +kernel
theorem dJ3_checkIndex_8e157_17 : decode cJ3_checkIndex_8e157 17 = .ok (.ireturn, 1) := by decide +kernel
theorem dL_law_0 : decode cL_law 0 = .ok (.new 7, 3) := by decide +kernel
theorem dL_law_3 : decode cL_law 3 = .ok (.dup, 1) := by decide +kernel
theorem dL_law_4 : decode cL_law 4 = .ok (.invokespecial 9, 3) := by decide +kernel
theorem dL_law_7 : decode cL_law 7 = .ok (.astore_n 1, 1) := by decide +kernel
theorem dL_law_8 : decode cL_law 8 = .ok (.new 10, 3) := by decide +kernel
theorem dL_law_11 : decode cL_law 11 = .ok (.dup, 1) := by decide +kernel
theorem dL_law_12 : decode cL_law 12 = .ok (.invokespecial 12, 3) := by decide +kernel
theorem dL_law_15 : decode cL_law 15 = .ok (.astore_n 2, 1) := by decide +kernel
theorem dL_law_16 : decode cL_law 16 = .ok (.iconst 0, 1) := by decide +kernel
theorem dL_law_17 : decode cL_law 17 = .ok (.istore_n 3, 1) := by decide +kernel
theorem dL_law_18 : decode cL_law 18 = .ok (.iload_n 3, 1) := by decide +kernel
theorem dL_law_19 : decode cL_law 19 = .ok (.aload_n 0, 1) := by decide +kernel
theorem dL_law_20 : decode cL_law 20 = .ok (.arraylength, 1) := by decide +kernel
theorem dL_law_21 : decode cL_law 21 = .ok (.iconst 5, 1) := by decide +kernel
theorem dL_law_22 : decode cL_law 22 = .ok (.isub, 1) := by decide +kernel
theorem dL_law_23 : decode cL_law 23 = .ok (.if_icmp .gt 881, 3) := by decide +kernel
theorem dL_law_26 : decode cL_law 26 = .ok (.aload_n 0, 1) := by decide +kernel
theorem dL_law_27 : decode cL_law 27 = .ok (.iload_n 3, 1) := by decide +kernel
theorem dL_law_28 : decode cL_law 28 = .ok (.iaload, 1) := by decide +kernel
theorem dL_law_29 : decode cL_law 29 = .ok (.bipush 31, 2) := by decide +kernel
theorem dL_law_31 : decode cL_law 31 = .ok (.iand, 1) := by decide +kernel
theorem dL_law_32 : decode cL_law 32 = .ok (.tableswitch 866 0 26 #[124, 187, 200, 213, 246, 279, 312, 335, 368, 381, 414, 457, 480, 503, 526, 539, 562, 575, 618, 671, 704, 727, 750, 783, 806, 829, 852], 124) := by decide +kernel
theorem dL_law_156 : decode cL_law 156 = .ok (.aload_n 1, 1) := by decide +kernel
theorem dL_law_157 : decode cL_law 157 = .ok (.aload_n 0, 1) := by decide +kernel
theorem dL_law_158 : decode cL_law 158 = .ok (.iload_n 3, 1) := by decide +kernel
theorem dL_law_159 : decode cL_law 159 = .ok (.iconst 1, 1) := by decide +kernel
theorem dL_law_160 : decode cL_law 160 = .ok (.iadd, 1) := by decide +kernel
theorem dL_law_161 : decode cL_law 161 = .ok (.iaload, 1) := by decide +kernel
theorem dL_law_162 : decode cL_law 162 = .ok (.i2l, 1) := by decide +kernel
theorem dL_law_163 : decode cL_law 163 = .ok (.bipush 32, 2) := by decide +kernel
theorem dL_law_165 : decode cL_law 165 = .ok (.lshl, 1) := by decide +kernel
theorem dL_law_166 : decode cL_law 166 = .ok (.aload_n 0, 1) := by decide +kernel
theorem dL_law_167 : decode cL_law 167 = .ok (.iload_n 3, 1) := by decide +kernel
theorem dL_law_168 : decode cL_law 168 = .ok (.iconst 2, 1) := by decide +kernel
theorem dL_law_169 : decode cL_law 169 = .ok (.iadd, 1) := by decide +kernel
theorem dL_law_170 : decode cL_law 170 = .ok (.iaload, 1) := by decide +kernel
theorem dL_law_171 : decode cL_law 171 = .ok (.i2l, 1) := by decide +kernel
theorem dL_law_172 : decode cL_law 172 = .ok (.ldc2_w 13, 3) := by decide +kernel
theorem dL_law_175 : decode cL_law 175 = .ok (.land, 1) := by decide +kernel
theorem dL_law_176 : decode cL_law 176 = .ok (.lor, 1) := by decide +kernel
theorem dL_law_177 : decode cL_law 177 = .ok (.aload_n 0, 1) := by decide +kernel
theorem dL_law_178 : decode cL_law 178 = .ok (.iload_n 3, 1) := by decide +kernel
theorem dL_law_179 : decode cL_law 179 = .ok (.iconst 3, 1) := by decide +kernel
theorem dL_law_180 : decode cL_law 180 = .ok (.iadd, 1) := by decide +kernel
theorem dL_law_181 : decode cL_law 181 = .ok (.iaload, 1) := by decide +kernel
theorem dL_law_182 : decode cL_law 182 = .ok (.invokevirtual 15, 3) := by decide +kernel
theorem dL_law_185 : decode cL_law 185 = .ok (.aload_n 2, 1) := by decide +kernel
theorem dL_law_186 : decode cL_law 186 = .ok (.aload_n 0, 1) := by decide +kernel
theorem dL_law_187 : decode cL_law 187 = .ok (.iload_n 3, 1) := by decide +kernel
theorem dL_law_188 : decode cL_law 188 = .ok (.iconst 1, 1) := by decide +kernel
theorem dL_law_189 : decode cL_law 189 = .ok (.iadd, 1) := by decide +kernel
theorem dL_law_190 : decode cL_law 190 = .ok (.iaload, 1) := by decide +kernel
theorem dL_law_191 : decode cL_law 191 = .ok (.i2l, 1) := by decide +kernel
theorem dL_law_192 : decode cL_law 192 = .ok (.bipush 32, 2) := by decide +kernel
theorem dL_law_194 : decode cL_law 194 = .ok (.lshl, 1) := by decide +kernel
theorem dL_law_195 : decode cL_law 195 = .ok (.aload_n 0, 1) := by decide +kernel
theorem dL_law_196 : decode cL_law 196 = .ok (.iload_n 3, 1) := by decide +kernel
theorem dL_law_197 : decode cL_law 197 = .ok (.iconst 2, 1) := by decide +kernel
theorem dL_law_198 : decode cL_law 198 = .ok (.iadd, 1) := by decide +kernel
theorem dL_law_199 : decode cL_law 199 = .ok (.iaload, 1) := by decide +kernel
theorem dL_law_200 : decode cL_law 200 = .ok (.i2l, 1) := by decide +kernel
theorem dL_law_201 : decode cL_law 201 = .ok (.ldc2_w 13, 3) := by decide +kernel
theorem dL_law_204 : decode cL_law 204 = .ok (.land, 1) := by decide +kernel
theorem dL_law_205 : decode cL_law 205 = .ok (.lor, 1) := by decide +kernel
theorem dL_law_206 : decode cL_law 206 = .ok (.aload_n 0, 1) := by decide +kernel
theorem dL_law_207 : decode cL_law 207 = .ok (.iload_n 3, 1) := by decide +kernel
theorem dL_law_208 : decode cL_law 208 = .ok (.iconst 3, 1) := by decide +kernel
theorem dL_law_209 : decode cL_law 209 = .ok (.iadd, 1) := by decide +kernel
theorem dL_law_210 : decode cL_law 210 = .ok (.iaload, 1) := by decide +kernel
theorem dL_law_211 : decode cL_law 211 = .ok (.invokevirtual 19, 3) := by decide +kernel
theorem dL_law_214 : decode cL_law 214 = .ok (.if_icmp .eq 684, 3) := by decide +kernel
theorem dL_law_217 : decode cL_law 217 = .ok (.iconst 0, 1) := by decide +kernel
theorem dL_law_218 : decode cL_law 218 = .ok (.ireturn, 1) := by decide +kernel
theorem dL_law_219 : decode cL_law 219 = .ok (.aload_n 1, 1) := by decide +kernel
theorem dL_law_220 : decode cL_law 220 = .ok (.invokevirtual 20, 3) := by decide +kernel
theorem dL_law_223 : decode cL_law 223 = .ok (.aload_n 2, 1) := by decide +kernel
theorem dL_law_224 : decode cL_law 224 = .ok (.invokevirtual 24, 3) := by decide +kernel
theorem dL_law_227 : decode cL_law 227 = .ok (.if_icmp .eq 671, 3) := by decide +kernel
theorem dL_law_230 : decode cL_law 230 = .ok (.iconst 0, 1) := by decide +kernel
theorem dL_law_231 : decode cL_law 231 = .ok (.ireturn, 1) := by decide +kernel
theorem dL_law_232 : decode cL_law 232 = .ok (.aload_n 1, 1) := by decide +kernel
theorem dL_law_233 : decode cL_law 233 = .ok (.invokevirtual 25, 3) := by decide +kernel
theorem dL_law_236 : decode cL_law 236 = .ok (.aload_n 2, 1) := by decide +kernel
theorem dL_law_237 : decode cL_law 237 = .ok (.invokevirtual 28, 3) := by decide +kernel
theorem dL_law_240 : decode cL_law 240 = .ok (.if_icmp .eq 658, 3) := by decide +kernel
theorem dL_law_243 : decode cL_law 243 = .ok (.iconst 0, 1) := by decide +kernel
theorem dL_law_244 : decode cL_law 244 = .ok (.ireturn, 1) := by decide +kernel
theorem dL_law_245 : decode cL_law 245 = .ok (.aload_n 1, 1) := by decide +kernel
theorem dL_law_246 : decode cL_law 246 = .ok (.aload_n 0, 1) := by decide +kernel
theorem dL_law_247 : decode cL_law 247 = .ok (.iload_n 3, 1) := by decide +kernel
theorem dL_law_248 : decode cL_law 248 = .ok (.iconst 1, 1) := by decide +kernel
theorem dL_law_249 : decode cL_law 249 = .ok (.iadd, 1) := by decide +kernel
theorem dL_law_250 : decode cL_law 250 = .ok (.iaload, 1) := by decide +kernel
theorem dL_law_251 : decode cL_law 251 = .ok (.aload_n 0, 1) := by decide +kernel
theorem dL_law_252 : decode cL_law 252 = .ok (.iload_n 3, 1) := by decide +kernel
theorem dL_law_253 : decode cL_law 253 = .ok (.iconst 2, 1) := by decide +kernel
theorem dL_law_254 : decode cL_law 254 = .ok (.iadd, 1) := by decide +kernel
theorem dL_law_255 : decode cL_law 255 = .ok (.iaload, 1) := by decide +kernel
theorem dL_law_256 : decode cL_law 256 = .ok (.invokevirtual 29, 3) := by decide +kernel
theorem dL_law_259 : decode cL_law 259 = .ok (.aload_n 2, 1) := by decide +kernel
theorem dL_law_260 : decode cL_law 260 = .ok (.aload_n 0, 1) := by decide +kernel
theorem dL_law_261 : decode cL_law 261 = .ok (.iload_n 3, 1) := by decide +kernel
theorem dL_law_262 : decode cL_law 262 = .ok (.iconst 1, 1) := by decide +kernel
theorem dL_law_263 : decode cL_law 263 = .ok (.iadd, 1) := by decide +kernel
theorem dL_law_264 : decode cL_law 264 = .ok (.iaload, 1) := by decide +kernel
theorem dL_law_265 : decode cL_law 265 = .ok (.aload_n 0, 1) := by decide +kernel
theorem dL_law_266 : decode cL_law 266 = .ok (.iload_n 3, 1) := by decide +kernel
theorem dL_law_267 : decode cL_law 267 = .ok (.iconst 2, 1) := by decide +kernel
theorem dL_law_268 : decode cL_law 268 = .ok (.iadd, 1) := by decide +kernel
theorem dL_law_269 : decode cL_law 269 = .ok (.iaload, 1) := by decide +kernel
theorem dL_law_270 : decode cL_law 270 = .ok (.invokevirtual 33, 3) := by decide +kernel
theorem dL_law_273 : decode cL_law 273 = .ok (.if_icmp .eq 625, 3) := by decide +kernel
theorem dL_law_276 : decode cL_law 276 = .ok (.iconst 0, 1) := by decide +kernel
theorem dL_law_277 : decode cL_law 277 = .ok (.ireturn, 1) := by decide +kernel
theorem dL_law_278 : decode cL_law 278 = .ok (.aload_n 1, 1) := by decide +kernel
theorem dL_law_279 : decode cL_law 279 = .ok (.aload_n 0, 1) := by decide +kernel
theorem dL_law_280 : decode cL_law 280 = .ok (.iload_n 3, 1) := by decide +kernel
theorem dL_law_281 : decode cL_law 281 = .ok (.iconst 1, 1) := by decide +kernel
theorem dL_law_282 : decode cL_law 282 = .ok (.iadd, 1) := by decide +kernel
theorem dL_law_283 : decode cL_law 283 = .ok (.iaload, 1) := by decide +kernel
theorem dL_law_284 : decode cL_law 284 = .ok (.aload_n 0, 1) := by decide +kernel
theorem dL_law_285 : decode cL_law 285 = .ok (.iload_n 3, 1) := by decide +kernel
theorem dL_law_286 : decode cL_law 286 = .ok (.iconst 2, 1) := by decide +kernel
theorem dL_law_287 : decode cL_law 287 = .ok (.iadd, 1) := by decide +kernel
theorem dL_law_288 : decode cL_law 288 = .ok (.iaload, 1) := by decide +kernel
theorem dL_law_289 : decode cL_law 289 = .ok (.invokevirtual 34, 3) := by decide +kernel
theorem dL_law_292 : decode cL_law 292 = .ok (.aload_n 2, 1) := by decide +kernel
theorem dL_law_293 : decode cL_law 293 = .ok (.aload_n 0, 1) := by decide +kernel
theorem dL_law_294 : decode cL_law 294 = .ok (.iload_n 3, 1) := by decide +kernel
theorem dL_law_295 : decode cL_law 295 = .ok (.iconst 1, 1) := by decide +kernel
theorem dL_law_296 : decode cL_law 296 = .ok (.iadd, 1) := by decide +kernel
theorem dL_law_297 : decode cL_law 297 = .ok (.iaload, 1) := by decide +kernel
theorem dL_law_298 : decode cL_law 298 = .ok (.aload_n 0, 1) := by decide +kernel
theorem dL_law_299 : decode cL_law 299 = .ok (.iload_n 3, 1) := by decide +kernel
theorem dL_law_300 : decode cL_law 300 = .ok (.iconst 2, 1) := by decide +kernel
theorem dL_law_301 : decode cL_law 301 = .ok (.iadd, 1) := by decide +kernel
theorem dL_law_302 : decode cL_law 302 = .ok (.iaload, 1) := by decide +kernel
theorem dL_law_303 : decode cL_law 303 = .ok (.invokevirtual 37, 3) := by decide +kernel
theorem dL_law_306 : decode cL_law 306 = .ok (.if_icmp .eq 592, 3) := by decide +kernel
theorem dL_law_309 : decode cL_law 309 = .ok (.iconst 0, 1) := by decide +kernel
theorem dL_law_310 : decode cL_law 310 = .ok (.ireturn, 1) := by decide +kernel
theorem dL_law_311 : decode cL_law 311 = .ok (.aload_n 1, 1) := by decide +kernel
theorem dL_law_312 : decode cL_law 312 = .ok (.aload_n 0, 1) := by decide +kernel
theorem dL_law_313 : decode cL_law 313 = .ok (.iload_n 3, 1) := by decide +kernel
theorem dL_law_314 : decode cL_law 314 = .ok (.iconst 1, 1) := by decide +kernel
theorem dL_law_315 : decode cL_law 315 = .ok (.iadd, 1) := by decide +kernel
theorem dL_law_316 : decode cL_law 316 = .ok (.iaload, 1) := by decide +kernel
theorem dL_law_317 : decode cL_law 317 = .ok (.aload_n 0, 1) := by decide +kernel
theorem dL_law_318 : decode cL_law 318 = .ok (.iload_n 3, 1) := by decide +kernel
theorem dL_law_319 : decode cL_law 319 = .ok (.iconst 2, 1) := by decide +kernel
theorem dL_law_320 : decode cL_law 320 = .ok (.iadd, 1) := by decide +kernel
theorem dL_law_321 : decode cL_law 321 = .ok (.iaload, 1) := by decide +kernel
theorem dL_law_322 : decode cL_law 322 = .ok (.invokevirtual 38, 3) := by decide +kernel
theorem dL_law_325 : decode cL_law 325 = .ok (.aload_n 2, 1) := by decide +kernel
theorem dL_law_326 : decode cL_law 326 = .ok (.aload_n 0, 1) := by decide +kernel
theorem dL_law_327 : decode cL_law 327 = .ok (.iload_n 3, 1) := by decide +kernel
theorem dL_law_328 : decode cL_law 328 = .ok (.iconst 1, 1) := by decide +kernel
theorem dL_law_329 : decode cL_law 329 = .ok (.iadd, 1) := by decide +kernel
theorem dL_law_330 : decode cL_law 330 = .ok (.iaload, 1) := by decide +kernel
theorem dL_law_331 : decode cL_law 331 = .ok (.aload_n 0, 1) := by decide +kernel
theorem dL_law_332 : decode cL_law 332 = .ok (.iload_n 3, 1) := by decide +kernel
theorem dL_law_333 : decode cL_law 333 = .ok (.iconst 2, 1) := by decide +kernel
theorem dL_law_334 : decode cL_law 334 = .ok (.iadd, 1) := by decide +kernel
theorem dL_law_335 : decode cL_law 335 = .ok (.iaload, 1) := by decide +kernel
theorem dL_law_336 : decode cL_law 336 = .ok (.invokevirtual 41, 3) := by decide +kernel
theorem dL_law_339 : decode cL_law 339 = .ok (.if_icmp .eq 559, 3) := by decide +kernel
theorem dL_law_342 : decode cL_law 342 = .ok (.iconst 0, 1) := by decide +kernel
theorem dL_law_343 : decode cL_law 343 = .ok (.ireturn, 1) := by decide +kernel
theorem dL_law_344 : decode cL_law 344 = .ok (.aload_n 1, 1) := by decide +kernel
theorem dL_law_345 : decode cL_law 345 = .ok (.aload_n 0, 1) := by decide +kernel
theorem dL_law_346 : decode cL_law 346 = .ok (.iload_n 3, 1) := by decide +kernel
theorem dL_law_347 : decode cL_law 347 = .ok (.iconst 1, 1) := by decide +kernel
theorem dL_law_348 : decode cL_law 348 = .ok (.iadd, 1) := by decide +kernel
theorem dL_law_349 : decode cL_law 349 = .ok (.iaload, 1) := by decide +kernel
theorem dL_law_350 : decode cL_law 350 = .ok (.invokevirtual 42, 3) := by decide +kernel
theorem dL_law_353 : decode cL_law 353 = .ok (.aload_n 2, 1) := by decide +kernel
theorem dL_law_354 : decode cL_law 354 = .ok (.aload_n 0, 1) := by decide +kernel
theorem dL_law_355 : decode cL_law 355 = .ok (.iload_n 3, 1) := by decide +kernel
theorem dL_law_356 : decode cL_law 356 = .ok (.iconst 1, 1) := by decide +kernel
theorem dL_law_357 : decode cL_law 357 = .ok (.iadd, 1) := by decide +kernel
theorem dL_law_358 : decode cL_law 358 = .ok (.iaload, 1) := by decide +kernel
theorem dL_law_359 : decode cL_law 359 = .ok (.invokevirtual 46, 3) := by decide +kernel
theorem dL_law_362 : decode cL_law 362 = .ok (.if_icmp .eq 536, 3) := by decide +kernel
theorem dL_law_365 : decode cL_law 365 = .ok (.iconst 0, 1) := by decide +kernel
theorem dL_law_366 : decode cL_law 366 = .ok (.ireturn, 1) := by decide +kernel
theorem dL_law_367 : decode cL_law 367 = .ok (.aload_n 1, 1) := by decide +kernel
theorem dL_law_368 : decode cL_law 368 = .ok (.aload_n 0, 1) := by decide +kernel
theorem dL_law_369 : decode cL_law 369 = .ok (.iload_n 3, 1) := by decide +kernel
theorem dL_law_370 : decode cL_law 370 = .ok (.iconst 1, 1) := by decide +kernel
theorem dL_law_371 : decode cL_law 371 = .ok (.iadd, 1) := by decide +kernel
theorem dL_law_372 : decode cL_law 372 = .ok (.iaload, 1) := by decide +kernel
theorem dL_law_373 : decode cL_law 373 = .ok (.aload_n 0, 1) := by decide +kernel
theorem dL_law_374 : decode cL_law 374 = .ok (.iload_n 3, 1) := by decide +kernel
theorem dL_law_375 : decode cL_law 375 = .ok (.iconst 2, 1) := by decide +kernel
theorem dL_law_376 : decode cL_law 376 = .ok (.iadd, 1) := by decide +kernel
theorem dL_law_377 : decode cL_law 377 = .ok (.iaload, 1) := by decide +kernel
theorem dL_law_378 : decode cL_law 378 = .ok (.invokevirtual 47, 3) := by decide +kernel
theorem dL_law_381 : decode cL_law 381 = .ok (.aload_n 2, 1) := by decide +kernel
theorem dL_law_382 : decode cL_law 382 = .ok (.aload_n 0, 1) := by decide +kernel
theorem dL_law_383 : decode cL_law 383 = .ok (.iload_n 3, 1) := by decide +kernel
theorem dL_law_384 : decode cL_law 384 = .ok (.iconst 1, 1) := by decide +kernel
theorem dL_law_385 : decode cL_law 385 = .ok (.iadd, 1) := by decide +kernel
theorem dL_law_386 : decode cL_law 386 = .ok (.iaload, 1) := by decide +kernel
theorem dL_law_387 : decode cL_law 387 = .ok (.aload_n 0, 1) := by decide +kernel
theorem dL_law_388 : decode cL_law 388 = .ok (.iload_n 3, 1) := by decide +kernel
theorem dL_law_389 : decode cL_law 389 = .ok (.iconst 2, 1) := by decide +kernel
theorem dL_law_390 : decode cL_law 390 = .ok (.iadd, 1) := by decide +kernel
theorem dL_law_391 : decode cL_law 391 = .ok (.iaload, 1) := by decide +kernel
theorem dL_law_392 : decode cL_law 392 = .ok (.invokevirtual 50, 3) := by decide +kernel
theorem dL_law_395 : decode cL_law 395 = .ok (.if_icmp .eq 503, 3) := by decide +kernel
theorem dL_law_398 : decode cL_law 398 = .ok (.iconst 0, 1) := by decide +kernel
theorem dL_law_399 : decode cL_law 399 = .ok (.ireturn, 1) := by decide +kernel
theorem dL_law_400 : decode cL_law 400 = .ok (.aload_n 1, 1) := by decide +kernel
theorem dL_law_401 : decode cL_law 401 = .ok (.invokevirtual 51, 3) := by decide +kernel
theorem dL_law_404 : decode cL_law 404 = .ok (.aload_n 2, 1) := by decide +kernel
theorem dL_law_405 : decode cL_law 405 = .ok (.invokevirtual 54, 3) := by decide +kernel
theorem dL_law_408 : decode cL_law 408 = .ok (.if_icmp .eq 490, 3) := by decide +kernel
theorem dL_law_411 : decode cL_law 411 = .ok (.iconst 0, 1) := by decide +kernel
theorem dL_law_412 : decode cL_law 412 = .ok (.ireturn, 1) := by decide +kernel
theorem dL_law_413 : decode cL_law 413 = .ok (.aload_n 1, 1) := by decide +kernel
theorem dL_law_414 : decode cL_law 414 = .ok (.aload_n 0, 1) := by decide +kernel
theorem dL_law_415 : decode cL_law 415 = .ok (.iload_n 3, 1) := by decide +kernel
theorem dL_law_416 : decode cL_law 416 = .ok (.iconst 1, 1) := by decide +kernel
theorem dL_law_417 : decode cL_law 417 = .ok (.iadd, 1) := by decide +kernel
theorem dL_law_418 : decode cL_law 418 = .ok (.iaload, 1) := by decide +kernel
theorem dL_law_419 : decode cL_law 419 = .ok (.aload_n 0, 1) := by decide +kernel
theorem dL_law_420 : decode cL_law 420 = .ok (.iload_n 3, 1) := by decide +kernel
theorem dL_law_421 : decode cL_law 421 = .ok (.iconst 2, 1) := by decide +kernel
theorem dL_law_422 : decode cL_law 422 = .ok (.iadd, 1) := by decide +kernel
theorem dL_law_423 : decode cL_law 423 = .ok (.iaload, 1) := by decide +kernel
theorem dL_law_424 : decode cL_law 424 = .ok (.invokevirtual 55, 3) := by decide +kernel
theorem dL_law_427 : decode cL_law 427 = .ok (.aload_n 2, 1) := by decide +kernel
theorem dL_law_428 : decode cL_law 428 = .ok (.aload_n 0, 1) := by decide +kernel
theorem dL_law_429 : decode cL_law 429 = .ok (.iload_n 3, 1) := by decide +kernel
theorem dL_law_430 : decode cL_law 430 = .ok (.iconst 1, 1) := by decide +kernel
theorem dL_law_431 : decode cL_law 431 = .ok (.iadd, 1) := by decide +kernel
theorem dL_law_432 : decode cL_law 432 = .ok (.iaload, 1) := by decide +kernel
theorem dL_law_433 : decode cL_law 433 = .ok (.aload_n 0, 1) := by decide +kernel
theorem dL_law_434 : decode cL_law 434 = .ok (.iload_n 3, 1) := by decide +kernel
theorem dL_law_435 : decode cL_law 435 = .ok (.iconst 2, 1) := by decide +kernel
theorem dL_law_436 : decode cL_law 436 = .ok (.iadd, 1) := by decide +kernel
theorem dL_law_437 : decode cL_law 437 = .ok (.iaload, 1) := by decide +kernel
theorem dL_law_438 : decode cL_law 438 = .ok (.invokevirtual 58, 3) := by decide +kernel
theorem dL_law_441 : decode cL_law 441 = .ok (.if_icmp .eq 457, 3) := by decide +kernel
theorem dL_law_444 : decode cL_law 444 = .ok (.iconst 0, 1) := by decide +kernel
theorem dL_law_445 : decode cL_law 445 = .ok (.ireturn, 1) := by decide +kernel
theorem dL_law_446 : decode cL_law 446 = .ok (.aload_n 1, 1) := by decide +kernel
theorem dL_law_447 : decode cL_law 447 = .ok (.aload_n 0, 1) := by decide +kernel
theorem dL_law_448 : decode cL_law 448 = .ok (.iload_n 3, 1) := by decide +kernel
theorem dL_law_449 : decode cL_law 449 = .ok (.iconst 1, 1) := by decide +kernel
theorem dL_law_450 : decode cL_law 450 = .ok (.iadd, 1) := by decide +kernel
theorem dL_law_451 : decode cL_law 451 = .ok (.iaload, 1) := by decide +kernel
theorem dL_law_452 : decode cL_law 452 = .ok (.aload_n 0, 1) := by decide +kernel
theorem dL_law_453 : decode cL_law 453 = .ok (.iload_n 3, 1) := by decide +kernel
theorem dL_law_454 : decode cL_law 454 = .ok (.iconst 2, 1) := by decide +kernel
theorem dL_law_455 : decode cL_law 455 = .ok (.iadd, 1) := by decide +kernel
theorem dL_law_456 : decode cL_law 456 = .ok (.iaload, 1) := by decide +kernel
theorem dL_law_457 : decode cL_law 457 = .ok (.aload_n 0, 1) := by decide +kernel
theorem dL_law_458 : decode cL_law 458 = .ok (.iload_n 3, 1) := by decide +kernel
theorem dL_law_459 : decode cL_law 459 = .ok (.iconst 3, 1) := by decide +kernel
theorem dL_law_460 : decode cL_law 460 = .ok (.iadd, 1) := by decide +kernel
theorem dL_law_461 : decode cL_law 461 = .ok (.iaload, 1) := by decide +kernel
theorem dL_law_462 : decode cL_law 462 = .ok (.invokevirtual 59, 3) := by decide +kernel
theorem dL_law_465 : decode cL_law 465 = .ok (.aload_n 2, 1) := by decide +kernel
theorem dL_law_466 : decode cL_law 466 = .ok (.aload_n 0, 1) := by decide +kernel
theorem dL_law_467 : decode cL_law 467 = .ok (.iload_n 3, 1) := by decide +kernel
theorem dL_law_468 : decode cL_law 468 = .ok (.iconst 1, 1) := by decide +kernel
theorem dL_law_469 : decode cL_law 469 = .ok (.iadd, 1) := by decide +kernel
theorem dL_law_470 : decode cL_law 470 = .ok (.iaload, 1) := by decide +kernel
theorem dL_law_471 : decode cL_law 471 = .ok (.aload_n 0, 1) := by decide +kernel
theorem dL_law_472 : decode cL_law 472 = .ok (.iload_n 3, 1) := by decide +kernel
theorem dL_law_473 : decode cL_law 473 = .ok (.iconst 2, 1) := by decide +kernel
theorem dL_law_474 : decode cL_law 474 = .ok (.iadd, 1) := by decide +kernel
theorem dL_law_475 : decode cL_law 475 = .ok (.iaload, 1) := by decide +kernel
theorem dL_law_476 : decode cL_law 476 = .ok (.aload_n 0, 1) := by decide +kernel
theorem dL_law_477 : decode cL_law 477 = .ok (.iload_n 3, 1) := by decide +kernel
theorem dL_law_478 : decode cL_law 478 = .ok (.iconst 3, 1) := by decide +kernel
theorem dL_law_479 : decode cL_law 479 = .ok (.iadd, 1) := by decide +kernel
theorem dL_law_480 : decode cL_law 480 = .ok (.iaload, 1) := by decide +kernel
theorem dL_law_481 : decode cL_law 481 = .ok (.invokevirtual 63, 3) := by decide +kernel
theorem dL_law_484 : decode cL_law 484 = .ok (.if_icmp .eq 414, 3) := by decide +kernel
theorem dL_law_487 : decode cL_law 487 = .ok (.iconst 0, 1) := by decide +kernel
theorem dL_law_488 : decode cL_law 488 = .ok (.ireturn, 1) := by decide +kernel
theorem dL_law_489 : decode cL_law 489 = .ok (.aload_n 1, 1) := by decide +kernel
theorem dL_law_490 : decode cL_law 490 = .ok (.aload_n 0, 1) := by decide +kernel
theorem dL_law_491 : decode cL_law 491 = .ok (.iload_n 3, 1) := by decide +kernel
theorem dL_law_492 : decode cL_law 492 = .ok (.iconst 1, 1) := by decide +kernel
theorem dL_law_493 : decode cL_law 493 = .ok (.iadd, 1) := by decide +kernel
theorem dL_law_494 : decode cL_law 494 = .ok (.iaload, 1) := by decide +kernel
theorem dL_law_495 : decode cL_law 495 = .ok (.invokevirtual 64, 3) := by decide +kernel
theorem dL_law_498 : decode cL_law 498 = .ok (.aload_n 2, 1) := by decide +kernel
theorem dL_law_499 : decode cL_law 499 = .ok (.aload_n 0, 1) := by decide +kernel
theorem dL_law_500 : decode cL_law 500 = .ok (.iload_n 3, 1) := by decide +kernel
theorem dL_law_501 : decode cL_law 501 = .ok (.iconst 1, 1) := by decide +kernel
theorem dL_law_502 : decode cL_law 502 = .ok (.iadd, 1) := by decide +kernel
theorem dL_law_503 : decode cL_law 503 = .ok (.iaload, 1) := by decide +kernel
theorem dL_law_504 : decode cL_law 504 = .ok (.invokevirtual 67, 3) := by decide +kernel
theorem dL_law_507 : decode cL_law 507 = .ok (.if_icmp .eq 391, 3) := by decide +kernel
theorem dL_law_510 : decode cL_law 510 = .ok (.iconst 0, 1) := by decide +kernel
theorem dL_law_511 : decode cL_law 511 = .ok (.ireturn, 1) := by decide +kernel
theorem dL_law_512 : decode cL_law 512 = .ok (.aload_n 1, 1) := by decide +kernel
theorem dL_law_513 : decode cL_law 513 = .ok (.aload_n 0, 1) := by decide +kernel
theorem dL_law_514 : decode cL_law 514 = .ok (.iload_n 3, 1) := by decide +kernel
theorem dL_law_515 : decode cL_law 515 = .ok (.iconst 1, 1) := by decide +kernel
theorem dL_law_516 : decode cL_law 516 = .ok (.iadd, 1) := by decide +kernel
theorem dL_law_517 : decode cL_law 517 = .ok (.iaload, 1) := by decide +kernel
theorem dL_law_518 : decode cL_law 518 = .ok (.invokevirtual 68, 3) := by decide +kernel
theorem dL_law_521 : decode cL_law 521 = .ok (.aload_n 2, 1) := by decide +kernel
theorem dL_law_522 : decode cL_law 522 = .ok (.aload_n 0, 1) := by decide +kernel
theorem dL_law_523 : decode cL_law 523 = .ok (.iload_n 3, 1) := by decide +kernel
theorem dL_law_524 : decode cL_law 524 = .ok (.iconst 1, 1) := by decide +kernel
theorem dL_law_525 : decode cL_law 525 = .ok (.iadd, 1) := by decide +kernel
theorem dL_law_526 : decode cL_law 526 = .ok (.iaload, 1) := by decide +kernel
theorem dL_law_527 : decode cL_law 527 = .ok (.invokevirtual 71, 3) := by decide +kernel
theorem dL_law_530 : decode cL_law 530 = .ok (.if_icmp .eq 368, 3) := by decide +kernel
theorem dL_law_533 : decode cL_law 533 = .ok (.iconst 0, 1) := by decide +kernel
theorem dL_law_534 : decode cL_law 534 = .ok (.ireturn, 1) := by decide +kernel
theorem dL_law_535 : decode cL_law 535 = .ok (.aload_n 1, 1) := by decide +kernel
theorem dL_law_536 : decode cL_law 536 = .ok (.aload_n 0, 1) := by decide +kernel
theorem dL_law_537 : decode cL_law 537 = .ok (.iload_n 3, 1) := by decide +kernel
theorem dL_law_538 : decode cL_law 538 = .ok (.iconst 1, 1) := by decide +kernel
theorem dL_law_539 : decode cL_law 539 = .ok (.iadd, 1) := by decide +kernel
theorem dL_law_540 : decode cL_law 540 = .ok (.iaload, 1) := by decide +kernel
theorem dL_law_541 : decode cL_law 541 = .ok (.invokevirtual 72, 3) := by decide +kernel
theorem dL_law_544 : decode cL_law 544 = .ok (.aload_n 2, 1) := by decide +kernel
theorem dL_law_545 : decode cL_law 545 = .ok (.aload_n 0, 1) := by decide +kernel
theorem dL_law_546 : decode cL_law 546 = .ok (.iload_n 3, 1) := by decide +kernel
theorem dL_law_547 : decode cL_law 547 = .ok (.iconst 1, 1) := by decide +kernel
theorem dL_law_548 : decode cL_law 548 = .ok (.iadd, 1) := by decide +kernel
theorem dL_law_549 : decode cL_law 549 = .ok (.iaload, 1) := by decide +kernel
theorem dL_law_550 : decode cL_law 550 = .ok (.invokevirtual 75, 3) := by decide +kernel
theorem dL_law_553 : decode cL_law 553 = .ok (.if_icmp .eq 345, 3) := by decide +kernel
theorem dL_law_556 : decode cL_law 556 = .ok (.iconst 0, 1) := by decide +kernel
theorem dL_law_557 : decode cL_law 557 = .ok (.ireturn, 1) := by decide +kernel
theorem dL_law_558 : decode cL_law 558 = .ok (.aload_n 1, 1) := by decide +kernel
theorem dL_law_559 : decode cL_law 559 = .ok (.invokevirtual 76, 3) := by decide +kernel
theorem dL_law_562 : decode cL_law 562 = .ok (.aload_n 2, 1) := by decide +kernel
theorem dL_law_563 : decode cL_law 563 = .ok (.invokevirtual 79, 3) := by decide +kernel
theorem dL_law_566 : decode cL_law 566 = .ok (.if_icmp .eq 332, 3) := by decide +kernel
theorem dL_law_569 : decode cL_law 569 = .ok (.iconst 0, 1) := by decide +kernel
theorem dL_law_570 : decode cL_law 570 = .ok (.ireturn, 1) := by decide +kernel
theorem dL_law_571 : decode cL_law 571 = .ok (.aload_n 1, 1) := by decide +kernel
theorem dL_law_572 : decode cL_law 572 = .ok (.aload_n 0, 1) := by decide +kernel
theorem dL_law_573 : decode cL_law 573 = .ok (.iload_n 3, 1) := by decide +kernel
theorem dL_law_574 : decode cL_law 574 = .ok (.iconst 1, 1) := by decide +kernel
theorem dL_law_575 : decode cL_law 575 = .ok (.iadd, 1) := by decide +kernel
theorem dL_law_576 : decode cL_law 576 = .ok (.iaload, 1) := by decide +kernel
theorem dL_law_577 : decode cL_law 577 = .ok (.invokevirtual 80, 3) := by decide +kernel
theorem dL_law_580 : decode cL_law 580 = .ok (.aload_n 2, 1) := by decide +kernel
theorem dL_law_581 : decode cL_law 581 = .ok (.aload_n 0, 1) := by decide +kernel
theorem dL_law_582 : decode cL_law 582 = .ok (.iload_n 3, 1) := by decide +kernel
theorem dL_law_583 : decode cL_law 583 = .ok (.iconst 1, 1) := by decide +kernel
theorem dL_law_584 : decode cL_law 584 = .ok (.iadd, 1) := by decide +kernel
theorem dL_law_585 : decode cL_law 585 = .ok (.iaload, 1) := by decide +kernel
theorem dL_law_586 : decode cL_law 586 = .ok (.invokevirtual 83, 3) := by decide +kernel
theorem dL_law_589 : decode cL_law 589 = .ok (.if_icmp .eq 309, 3) := by decide +kernel
theorem dL_law_592 : decode cL_law 592 = .ok (.iconst 0, 1) := by decide +kernel
theorem dL_law_593 : decode cL_law 593 = .ok (.ireturn, 1) := by decide +kernel
theorem dL_law_594 : decode cL_law 594 = .ok (.aload_n 1, 1) := by decide +kernel
theorem dL_law_595 : decode cL_law 595 = .ok (.invokevirtual 84, 3) := by decide +kernel
theorem dL_law_598 : decode cL_law 598 = .ok (.aload_n 2, 1) := by decide +kernel
theorem dL_law_599 : decode cL_law 599 = .ok (.invokevirtual 87, 3) := by decide +kernel
theorem dL_law_602 : decode cL_law 602 = .ok (.if_icmp .eq 296, 3) := by decide +kernel
theorem dL_law_605 : decode cL_law 605 = .ok (.iconst 0, 1) := by decide +kernel
theorem dL_law_606 : decode cL_law 606 = .ok (.ireturn, 1) := by decide +kernel
theorem dL_law_607 : decode cL_law 607 = .ok (.aload_n 1, 1) := by decide +kernel
theorem dL_law_608 : decode cL_law 608 = .ok (.aload_n 0, 1) := by decide +kernel
theorem dL_law_609 : decode cL_law 609 = .ok (.iload_n 3, 1) := by decide +kernel
theorem dL_law_610 : decode cL_law 610 = .ok (.iconst 1, 1) := by decide +kernel
theorem dL_law_611 : decode cL_law 611 = .ok (.iadd, 1) := by decide +kernel
theorem dL_law_612 : decode cL_law 612 = .ok (.iaload, 1) := by decide +kernel
theorem dL_law_613 : decode cL_law 613 = .ok (.aload_n 0, 1) := by decide +kernel
theorem dL_law_614 : decode cL_law 614 = .ok (.iload_n 3, 1) := by decide +kernel
theorem dL_law_615 : decode cL_law 615 = .ok (.iconst 2, 1) := by decide +kernel
theorem dL_law_616 : decode cL_law 616 = .ok (.iadd, 1) := by decide +kernel
theorem dL_law_617 : decode cL_law 617 = .ok (.iaload, 1) := by decide +kernel
theorem dL_law_618 : decode cL_law 618 = .ok (.aload_n 0, 1) := by decide +kernel
theorem dL_law_619 : decode cL_law 619 = .ok (.iload_n 3, 1) := by decide +kernel
theorem dL_law_620 : decode cL_law 620 = .ok (.iconst 3, 1) := by decide +kernel
theorem dL_law_621 : decode cL_law 621 = .ok (.iadd, 1) := by decide +kernel
theorem dL_law_622 : decode cL_law 622 = .ok (.iaload, 1) := by decide +kernel
theorem dL_law_623 : decode cL_law 623 = .ok (.invokevirtual 88, 3) := by decide +kernel
theorem dL_law_626 : decode cL_law 626 = .ok (.aload_n 2, 1) := by decide +kernel
theorem dL_law_627 : decode cL_law 627 = .ok (.aload_n 0, 1) := by decide +kernel
theorem dL_law_628 : decode cL_law 628 = .ok (.iload_n 3, 1) := by decide +kernel
theorem dL_law_629 : decode cL_law 629 = .ok (.iconst 1, 1) := by decide +kernel
theorem dL_law_630 : decode cL_law 630 = .ok (.iadd, 1) := by decide +kernel
theorem dL_law_631 : decode cL_law 631 = .ok (.iaload, 1) := by decide +kernel
theorem dL_law_632 : decode cL_law 632 = .ok (.aload_n 0, 1) := by decide +kernel
theorem dL_law_633 : decode cL_law 633 = .ok (.iload_n 3, 1) := by decide +kernel
theorem dL_law_634 : decode cL_law 634 = .ok (.iconst 2, 1) := by decide +kernel
theorem dL_law_635 : decode cL_law 635 = .ok (.iadd, 1) := by decide +kernel
theorem dL_law_636 : decode cL_law 636 = .ok (.iaload, 1) := by decide +kernel
theorem dL_law_637 : decode cL_law 637 = .ok (.aload_n 0, 1) := by decide +kernel
theorem dL_law_638 : decode cL_law 638 = .ok (.iload_n 3, 1) := by decide +kernel
theorem dL_law_639 : decode cL_law 639 = .ok (.iconst 3, 1) := by decide +kernel
theorem dL_law_640 : decode cL_law 640 = .ok (.iadd, 1) := by decide +kernel
theorem dL_law_641 : decode cL_law 641 = .ok (.iaload, 1) := by decide +kernel
theorem dL_law_642 : decode cL_law 642 = .ok (.invokevirtual 91, 3) := by decide +kernel
theorem dL_law_645 : decode cL_law 645 = .ok (.if_icmp .eq 253, 3) := by decide +kernel
theorem dL_law_648 : decode cL_law 648 = .ok (.iconst 0, 1) := by decide +kernel
theorem dL_law_649 : decode cL_law 649 = .ok (.ireturn, 1) := by decide +kernel
theorem dL_law_650 : decode cL_law 650 = .ok (.aload_n 1, 1) := by decide +kernel
theorem dL_law_651 : decode cL_law 651 = .ok (.aload_n 0, 1) := by decide +kernel
theorem dL_law_652 : decode cL_law 652 = .ok (.iload_n 3, 1) := by decide +kernel
theorem dL_law_653 : decode cL_law 653 = .ok (.iconst 1, 1) := by decide +kernel
theorem dL_law_654 : decode cL_law 654 = .ok (.iadd, 1) := by decide +kernel
theorem dL_law_655 : decode cL_law 655 = .ok (.iaload, 1) := by decide +kernel
theorem dL_law_656 : decode cL_law 656 = .ok (.aload_n 0, 1) := by decide +kernel
theorem dL_law_657 : decode cL_law 657 = .ok (.iload_n 3, 1) := by decide +kernel
theorem dL_law_658 : decode cL_law 658 = .ok (.iconst 2, 1) := by decide +kernel
theorem dL_law_659 : decode cL_law 659 = .ok (.iadd, 1) := by decide +kernel
theorem dL_law_660 : decode cL_law 660 = .ok (.iaload, 1) := by decide +kernel
theorem dL_law_661 : decode cL_law 661 = .ok (.aload_n 0, 1) := by decide +kernel
theorem dL_law_662 : decode cL_law 662 = .ok (.iload_n 3, 1) := by decide +kernel
theorem dL_law_663 : decode cL_law 663 = .ok (.iconst 3, 1) := by decide +kernel
theorem dL_law_664 : decode cL_law 664 = .ok (.iadd, 1) := by decide +kernel
theorem dL_law_665 : decode cL_law 665 = .ok (.iaload, 1) := by decide +kernel
theorem dL_law_666 : decode cL_law 666 = .ok (.aload_n 0, 1) := by decide +kernel
theorem dL_law_667 : decode cL_law 667 = .ok (.iload_n 3, 1) := by decide +kernel
theorem dL_law_668 : decode cL_law 668 = .ok (.iconst 4, 1) := by decide +kernel
theorem dL_law_669 : decode cL_law 669 = .ok (.iadd, 1) := by decide +kernel
theorem dL_law_670 : decode cL_law 670 = .ok (.iaload, 1) := by decide +kernel
theorem dL_law_671 : decode cL_law 671 = .ok (.invokevirtual 92, 3) := by decide +kernel
theorem dL_law_674 : decode cL_law 674 = .ok (.aload_n 2, 1) := by decide +kernel
theorem dL_law_675 : decode cL_law 675 = .ok (.aload_n 0, 1) := by decide +kernel
theorem dL_law_676 : decode cL_law 676 = .ok (.iload_n 3, 1) := by decide +kernel
theorem dL_law_677 : decode cL_law 677 = .ok (.iconst 1, 1) := by decide +kernel
theorem dL_law_678 : decode cL_law 678 = .ok (.iadd, 1) := by decide +kernel
theorem dL_law_679 : decode cL_law 679 = .ok (.iaload, 1) := by decide +kernel
theorem dL_law_680 : decode cL_law 680 = .ok (.aload_n 0, 1) := by decide +kernel
theorem dL_law_681 : decode cL_law 681 = .ok (.iload_n 3, 1) := by decide +kernel
theorem dL_law_682 : decode cL_law 682 = .ok (.iconst 2, 1) := by decide +kernel
theorem dL_law_683 : decode cL_law 683 = .ok (.iadd, 1) := by decide +kernel
theorem dL_law_684 : decode cL_law 684 = .ok (.iaload, 1) := by decide +kernel
theorem dL_law_685 : decode cL_law 685 = .ok (.aload_n 0, 1) := by decide +kernel
theorem dL_law_686 : decode cL_law 686 = .ok (.iload_n 3, 1) := by decide +kernel
theorem dL_law_687 : decode cL_law 687 = .ok (.iconst 3, 1) := by decide +kernel
theorem dL_law_688 : decode cL_law 688 = .ok (.iadd, 1) := by decide +kernel
theorem dL_law_689 : decode cL_law 689 = .ok (.iaload, 1) := by decide +kernel
theorem dL_law_690 : decode cL_law 690 = .ok (.aload_n 0, 1) := by decide +kernel
theorem dL_law_691 : decode cL_law 691 = .ok (.iload_n 3, 1) := by decide +kernel
theorem dL_law_692 : decode cL_law 692 = .ok (.iconst 4, 1) := by decide +kernel
theorem dL_law_693 : decode cL_law 693 = .ok (.iadd, 1) := by decide +kernel
theorem dL_law_694 : decode cL_law 694 = .ok (.iaload, 1) := by decide +kernel
theorem dL_law_695 : decode cL_law 695 = .ok (.invokevirtual 96, 3) := by decide +kernel
theorem dL_law_698 : decode cL_law 698 = .ok (.if_icmp .eq 200, 3) := by decide +kernel
theorem dL_law_701 : decode cL_law 701 = .ok (.iconst 0, 1) := by decide +kernel
theorem dL_law_702 : decode cL_law 702 = .ok (.ireturn, 1) := by decide +kernel
theorem dL_law_703 : decode cL_law 703 = .ok (.aload_n 1, 1) := by decide +kernel
theorem dL_law_704 : decode cL_law 704 = .ok (.aload_n 0, 1) := by decide +kernel
theorem dL_law_705 : decode cL_law 705 = .ok (.iload_n 3, 1) := by decide +kernel
theorem dL_law_706 : decode cL_law 706 = .ok (.iconst 1, 1) := by decide +kernel
theorem dL_law_707 : decode cL_law 707 = .ok (.iadd, 1) := by decide +kernel
theorem dL_law_708 : decode cL_law 708 = .ok (.iaload, 1) := by decide +kernel
theorem dL_law_709 : decode cL_law 709 = .ok (.aload_n 0, 1) := by decide +kernel
theorem dL_law_710 : decode cL_law 710 = .ok (.iload_n 3, 1) := by decide +kernel
theorem dL_law_711 : decode cL_law 711 = .ok (.iconst 2, 1) := by decide +kernel
theorem dL_law_712 : decode cL_law 712 = .ok (.iadd, 1) := by decide +kernel
theorem dL_law_713 : decode cL_law 713 = .ok (.iaload, 1) := by decide +kernel
theorem dL_law_714 : decode cL_law 714 = .ok (.invokevirtual 97, 3) := by decide +kernel
theorem dL_law_717 : decode cL_law 717 = .ok (.aload_n 2, 1) := by decide +kernel
theorem dL_law_718 : decode cL_law 718 = .ok (.aload_n 0, 1) := by decide +kernel
theorem dL_law_719 : decode cL_law 719 = .ok (.iload_n 3, 1) := by decide +kernel
theorem dL_law_720 : decode cL_law 720 = .ok (.iconst 1, 1) := by decide +kernel
theorem dL_law_721 : decode cL_law 721 = .ok (.iadd, 1) := by decide +kernel
theorem dL_law_722 : decode cL_law 722 = .ok (.iaload, 1) := by decide +kernel
theorem dL_law_723 : decode cL_law 723 = .ok (.aload_n 0, 1) := by decide +kernel
theorem dL_law_724 : decode cL_law 724 = .ok (.iload_n 3, 1) := by decide +kernel
theorem dL_law_725 : decode cL_law 725 = .ok (.iconst 2, 1) := by decide +kernel
theorem dL_law_726 : decode cL_law 726 = .ok (.iadd, 1) := by decide +kernel
theorem dL_law_727 : decode cL_law 727 = .ok (.iaload, 1) := by decide +kernel
theorem dL_law_728 : decode cL_law 728 = .ok (.invokevirtual 100, 3) := by decide +kernel
theorem dL_law_731 : decode cL_law 731 = .ok (.if_icmp .eq 167, 3) := by decide +kernel
theorem dL_law_734 : decode cL_law 734 = .ok (.iconst 0, 1) := by decide +kernel
theorem dL_law_735 : decode cL_law 735 = .ok (.ireturn, 1) := by decide +kernel
theorem dL_law_736 : decode cL_law 736 = .ok (.aload_n 1, 1) := by decide +kernel
theorem dL_law_737 : decode cL_law 737 = .ok (.aload_n 0, 1) := by decide +kernel
theorem dL_law_738 : decode cL_law 738 = .ok (.iload_n 3, 1) := by decide +kernel
theorem dL_law_739 : decode cL_law 739 = .ok (.iconst 1, 1) := by decide +kernel
theorem dL_law_740 : decode cL_law 740 = .ok (.iadd, 1) := by decide +kernel
theorem dL_law_741 : decode cL_law 741 = .ok (.iaload, 1) := by decide +kernel
theorem dL_law_742 : decode cL_law 742 = .ok (.invokevirtual 101, 3) := by decide +kernel
theorem dL_law_745 : decode cL_law 745 = .ok (.aload_n 2, 1) := by decide +kernel
theorem dL_law_746 : decode cL_law 746 = .ok (.aload_n 0, 1) := by decide +kernel
theorem dL_law_747 : decode cL_law 747 = .ok (.iload_n 3, 1) := by decide +kernel
theorem dL_law_748 : decode cL_law 748 = .ok (.iconst 1, 1) := by decide +kernel
theorem dL_law_749 : decode cL_law 749 = .ok (.iadd, 1) := by decide +kernel
theorem dL_law_750 : decode cL_law 750 = .ok (.iaload, 1) := by decide +kernel
theorem dL_law_751 : decode cL_law 751 = .ok (.invokevirtual 104, 3) := by decide +kernel
theorem dL_law_754 : decode cL_law 754 = .ok (.if_icmp .eq 144, 3) := by decide +kernel
theorem dL_law_757 : decode cL_law 757 = .ok (.iconst 0, 1) := by decide +kernel
theorem dL_law_758 : decode cL_law 758 = .ok (.ireturn, 1) := by decide +kernel
theorem dL_law_759 : decode cL_law 759 = .ok (.aload_n 1, 1) := by decide +kernel
theorem dL_law_760 : decode cL_law 760 = .ok (.aload_n 0, 1) := by decide +kernel
theorem dL_law_761 : decode cL_law 761 = .ok (.iload_n 3, 1) := by decide +kernel
theorem dL_law_762 : decode cL_law 762 = .ok (.iconst 1, 1) := by decide +kernel
theorem dL_law_763 : decode cL_law 763 = .ok (.iadd, 1) := by decide +kernel
theorem dL_law_764 : decode cL_law 764 = .ok (.iaload, 1) := by decide +kernel
theorem dL_law_765 : decode cL_law 765 = .ok (.invokevirtual 105, 3) := by decide +kernel
theorem dL_law_768 : decode cL_law 768 = .ok (.aload_n 2, 1) := by decide +kernel
theorem dL_law_769 : decode cL_law 769 = .ok (.aload_n 0, 1) := by decide +kernel
theorem dL_law_770 : decode cL_law 770 = .ok (.iload_n 3, 1) := by decide +kernel
theorem dL_law_771 : decode cL_law 771 = .ok (.iconst 1, 1) := by decide +kernel
theorem dL_law_772 : decode cL_law 772 = .ok (.iadd, 1) := by decide +kernel
theorem dL_law_773 : decode cL_law 773 = .ok (.iaload, 1) := by decide +kernel
theorem dL_law_774 : decode cL_law 774 = .ok (.invokevirtual 108, 3) := by decide +kernel
theorem dL_law_777 : decode cL_law 777 = .ok (.if_icmp .eq 121, 3) := by decide +kernel
theorem dL_law_780 : decode cL_law 780 = .ok (.iconst 0, 1) := by decide +kernel
theorem dL_law_781 : decode cL_law 781 = .ok (.ireturn, 1) := by decide +kernel
theorem dL_law_782 : decode cL_law 782 = .ok (.aload_n 1, 1) := by decide +kernel
theorem dL_law_783 : decode cL_law 783 = .ok (.aload_n 0, 1) := by decide +kernel
theorem dL_law_784 : decode cL_law 784 = .ok (.iload_n 3, 1) := by decide +kernel
theorem dL_law_785 : decode cL_law 785 = .ok (.iconst 1, 1) := by decide +kernel
theorem dL_law_786 : decode cL_law 786 = .ok (.iadd, 1) := by decide +kernel
theorem dL_law_787 : decode cL_law 787 = .ok (.iaload, 1) := by decide +kernel
theorem dL_law_788 : decode cL_law 788 = .ok (.aload_n 0, 1) := by decide +kernel
theorem dL_law_789 : decode cL_law 789 = .ok (.iload_n 3, 1) := by decide +kernel
theorem dL_law_790 : decode cL_law 790 = .ok (.iconst 2, 1) := by decide +kernel
theorem dL_law_791 : decode cL_law 791 = .ok (.iadd, 1) := by decide +kernel
theorem dL_law_792 : decode cL_law 792 = .ok (.iaload, 1) := by decide +kernel
theorem dL_law_793 : decode cL_law 793 = .ok (.invokevirtual 109, 3) := by decide +kernel
theorem dL_law_796 : decode cL_law 796 = .ok (.aload_n 2, 1) := by decide +kernel
theorem dL_law_797 : decode cL_law 797 = .ok (.aload_n 0, 1) := by decide +kernel
theorem dL_law_798 : decode cL_law 798 = .ok (.iload_n 3, 1) := by decide +kernel
theorem dL_law_799 : decode cL_law 799 = .ok (.iconst 1, 1) := by decide +kernel
theorem dL_law_800 : decode cL_law 800 = .ok (.iadd, 1) := by decide +kernel
theorem dL_law_801 : decode cL_law 801 = .ok (.iaload, 1) := by decide +kernel
theorem dL_law_802 : decode cL_law 802 = .ok (.aload_n 0, 1) := by decide +kernel
theorem dL_law_803 : decode cL_law 803 = .ok (.iload_n 3, 1) := by decide +kernel
theorem dL_law_804 : decode cL_law 804 = .ok (.iconst 2, 1) := by decide +kernel
theorem dL_law_805 : decode cL_law 805 = .ok (.iadd, 1) := by decide +kernel
theorem dL_law_806 : decode cL_law 806 = .ok (.iaload, 1) := by decide +kernel
theorem dL_law_807 : decode cL_law 807 = .ok (.invokevirtual 112, 3) := by decide +kernel
theorem dL_law_810 : decode cL_law 810 = .ok (.if_icmp .eq 88, 3) := by decide +kernel
theorem dL_law_813 : decode cL_law 813 = .ok (.iconst 0, 1) := by decide +kernel
theorem dL_law_814 : decode cL_law 814 = .ok (.ireturn, 1) := by decide +kernel
theorem dL_law_815 : decode cL_law 815 = .ok (.aload_n 1, 1) := by decide +kernel
theorem dL_law_816 : decode cL_law 816 = .ok (.aload_n 0, 1) := by decide +kernel
theorem dL_law_817 : decode cL_law 817 = .ok (.iload_n 3, 1) := by decide +kernel
theorem dL_law_818 : decode cL_law 818 = .ok (.iconst 1, 1) := by decide +kernel
theorem dL_law_819 : decode cL_law 819 = .ok (.iadd, 1) := by decide +kernel
theorem dL_law_820 : decode cL_law 820 = .ok (.iaload, 1) := by decide +kernel
theorem dL_law_821 : decode cL_law 821 = .ok (.invokevirtual 113, 3) := by decide +kernel
theorem dL_law_824 : decode cL_law 824 = .ok (.aload_n 2, 1) := by decide +kernel
theorem dL_law_825 : decode cL_law 825 = .ok (.aload_n 0, 1) := by decide +kernel
theorem dL_law_826 : decode cL_law 826 = .ok (.iload_n 3, 1) := by decide +kernel
theorem dL_law_827 : decode cL_law 827 = .ok (.iconst 1, 1) := by decide +kernel
theorem dL_law_828 : decode cL_law 828 = .ok (.iadd, 1) := by decide +kernel
theorem dL_law_829 : decode cL_law 829 = .ok (.iaload, 1) := by decide +kernel
theorem dL_law_830 : decode cL_law 830 = .ok (.invokevirtual 116, 3) := by decide +kernel
theorem dL_law_833 : decode cL_law 833 = .ok (.if_icmp .eq 65, 3) := by decide +kernel
theorem dL_law_836 : decode cL_law 836 = .ok (.iconst 0, 1) := by decide +kernel
theorem dL_law_837 : decode cL_law 837 = .ok (.ireturn, 1) := by decide +kernel
theorem dL_law_838 : decode cL_law 838 = .ok (.aload_n 1, 1) := by decide +kernel
theorem dL_law_839 : decode cL_law 839 = .ok (.aload_n 0, 1) := by decide +kernel
theorem dL_law_840 : decode cL_law 840 = .ok (.iload_n 3, 1) := by decide +kernel
theorem dL_law_841 : decode cL_law 841 = .ok (.iconst 1, 1) := by decide +kernel
theorem dL_law_842 : decode cL_law 842 = .ok (.iadd, 1) := by decide +kernel
theorem dL_law_843 : decode cL_law 843 = .ok (.iaload, 1) := by decide +kernel
theorem dL_law_844 : decode cL_law 844 = .ok (.invokevirtual 117, 3) := by decide +kernel
theorem dL_law_847 : decode cL_law 847 = .ok (.aload_n 2, 1) := by decide +kernel
theorem dL_law_848 : decode cL_law 848 = .ok (.aload_n 0, 1) := by decide +kernel
theorem dL_law_849 : decode cL_law 849 = .ok (.iload_n 3, 1) := by decide +kernel
theorem dL_law_850 : decode cL_law 850 = .ok (.iconst 1, 1) := by decide +kernel
theorem dL_law_851 : decode cL_law 851 = .ok (.iadd, 1) := by decide +kernel
theorem dL_law_852 : decode cL_law 852 = .ok (.iaload, 1) := by decide +kernel
theorem dL_law_853 : decode cL_law 853 = .ok (.invokevirtual 120, 3) := by decide +kernel
theorem dL_law_856 : decode cL_law 856 = .ok (.if_icmp .eq 42, 3) := by decide +kernel
theorem dL_law_859 : decode cL_law 859 = .ok (.iconst 0, 1) := by decide +kernel
theorem dL_law_860 : decode cL_law 860 = .ok (.ireturn, 1) := by decide +kernel
theorem dL_law_861 : decode cL_law 861 = .ok (.aload_n 1, 1) := by decide +kernel
theorem dL_law_862 : decode cL_law 862 = .ok (.aload_n 0, 1) := by decide +kernel
theorem dL_law_863 : decode cL_law 863 = .ok (.iload_n 3, 1) := by decide +kernel
theorem dL_law_864 : decode cL_law 864 = .ok (.iconst 1, 1) := by decide +kernel
theorem dL_law_865 : decode cL_law 865 = .ok (.iadd, 1) := by decide +kernel
theorem dL_law_866 : decode cL_law 866 = .ok (.iaload, 1) := by decide +kernel
theorem dL_law_867 : decode cL_law 867 = .ok (.invokevirtual 121, 3) := by decide +kernel
theorem dL_law_870 : decode cL_law 870 = .ok (.aload_n 2, 1) := by decide +kernel
theorem dL_law_871 : decode cL_law 871 = .ok (.aload_n 0, 1) := by decide +kernel
theorem dL_law_872 : decode cL_law 872 = .ok (.iload_n 3, 1) := by decide +kernel
theorem dL_law_873 : decode cL_law 873 = .ok (.iconst 1, 1) := by decide +kernel
theorem dL_law_874 : decode cL_law 874 = .ok (.iadd, 1) := by decide +kernel
theorem dL_law_875 : decode cL_law 875 = .ok (.iaload, 1) := by decide +kernel
theorem dL_law_876 : decode cL_law 876 = .ok (.invokevirtual 124, 3) := by decide +kernel
theorem dL_law_879 : decode cL_law 879 = .ok (.if_icmp .eq 19, 3) := by decide +kernel
theorem dL_law_882 : decode cL_law 882 = .ok (.iconst 0, 1) := by decide +kernel
theorem dL_law_883 : decode cL_law 883 = .ok (.ireturn, 1) := by decide +kernel
theorem dL_law_884 : decode cL_law 884 = .ok (.aload_n 1, 1) := by decide +kernel
theorem dL_law_885 : decode cL_law 885 = .ok (.invokevirtual 125, 3) := by decide +kernel
theorem dL_law_888 : decode cL_law 888 = .ok (.aload_n 2, 1) := by decide +kernel
theorem dL_law_889 : decode cL_law 889 = .ok (.invokevirtual 129, 3) := by decide +kernel
theorem dL_law_892 : decode cL_law 892 = .ok (.lcmp, 1) := by decide +kernel
theorem dL_law_893 : decode cL_law 893 = .ok (.ifCond .eq 5, 3) := by decide +kernel
theorem dL_law_896 : decode cL_law 896 = .ok (.iconst 0, 1) := by decide +kernel
theorem dL_law_897 : decode cL_law 897 = .ok (.ireturn, 1) := by decide +kernel
theorem dL_law_898 : decode cL_law 898 = .ok (.iinc 3 5, 3) := by decide +kernel
theorem dL_law_901 : decode cL_law 901 = .ok (.goto (-883), 3) := by decide +kernel
theorem dL_law_904 : decode cL_law 904 = .ok (.iconst 1, 1) := by decide +kernel
theorem dL_law_905 : decode cL_law 905 = .ok (.ireturn, 1) := by decide +kernel
end
section
theorem dX7_init_0 : decode cX7_init 0 = .ok (.aload_n 0, 1) := by decide +kernel
theorem dX7_init_1 : decode cX7_init 1 = .ok (.invokespecial 1, 3) := by decide +kernel
theorem dX7_init_4 : decode cX7_init 4 = .ok (.aload_n 0, 1) := by decide +kernel
theorem dX7_init_5 : decode cX7_init 5 = .ok (.sipush 400, 3) := by decide +kernel
theorem dX7_init_8 : decode cX7_init 8 = .ok (.newarray .int, 2) := by decide +kernel
theorem dX7_init_10 : decode cX7_init 10 = .ok (.putfield 7, 3) := by decide +kernel
theorem dX7_init_13 : decode cX7_init 13 = .ok (.aload_n 0, 1) := by decide +kernel
theorem dX7_init_14 : decode cX7_init 14 = .ok (.bipush 16, 2) := by decide +kernel
theorem dX7_init_16 : decode cX7_init 16 = .ok (.newarray .int, 2) := by decide +kernel
theorem dX7_init_18 : decode cX7_init 18 = .ok (.putfield 13, 3) := by decide +kernel
theorem dX7_init_21 : decode cX7_init 21 = .ok (.aload_n 0, 1) := by decide +kernel
theorem dX7_init_22 : decode cX7_init 22 = .ok (.bipush 16, 2) := by decide +kernel
theorem dX7_init_24 : decode cX7_init 24 = .ok (.newarray .int, 2) := by decide +kernel
theorem dX7_init_26 : decode cX7_init 26 = .ok (.putfield 16, 3) := by decide +kernel
theorem dX7_init_29 : decode cX7_init 29 = .ok (.aload_n 0, 1) := by decide +kernel
theorem dX7_init_30 : decode cX7_init 30 = .ok (.bipush 82, 2) := by decide +kernel
theorem dX7_init_32 : decode cX7_init 32 = .ok (.newarray .int, 2) := by decide +kernel
theorem dX7_init_34 : decode cX7_init 34 = .ok (.putfield 19, 3) := by decide +kernel
theorem dX7_init_37 : decode cX7_init 37 = .ok (.aload_n 0, 1) := by decide +kernel
theorem dX7_init_38 : decode cX7_init 38 = .ok (.bipush 82, 2) := by decide +kernel
theorem dX7_init_40 : decode cX7_init 40 = .ok (.newarray .int, 2) := by decide +kernel
theorem dX7_init_42 : decode cX7_init 42 = .ok (.putfield 22, 3) := by decide +kernel
theorem dX7_init_45 : decode cX7_init 45 = .ok (.aload_n 0, 1) := by decide +kernel
theorem dX7_init_46 : decode cX7_init 46 = .ok (.sipush 164, 3) := by decide +kernel
theorem dX7_init_49 : decode cX7_init 49 = .ok (.newarray .int, 2) := by decide +kernel
theorem dX7_init_51 : decode cX7_init 51 = .ok (.putfield 25, 3) := by decide +kernel
theorem dX7_init_54 : decode cX7_init 54 = .ok (.aload_n 0, 1) := by decide +kernel
theorem dX7_init_55 : decode cX7_init 55 = .ok (.iconst 2, 1) := by decide +kernel
theorem dX7_init_56 : decode cX7_init 56 = .ok (.newarray .boolean, 2) := by decide +kernel
theorem dX7_init_58 : decode cX7_init 58 = .ok (.putfield 28, 3) := by decide +kernel
theorem dX7_init_61 : decode cX7_init 61 = .ok (.aload_n 0, 1) := by decide +kernel
theorem dX7_init_62 : decode cX7_init 62 = .ok (.bipush 40, 2) := by decide +kernel
theorem dX7_init_64 : decode cX7_init 64 = .ok (.newarray .int, 2) := by decide +kernel
theorem dX7_init_66 : decode cX7_init 66 = .ok (.putfield 32, 3) := by decide +kernel
theorem dX7_init_69 : decode cX7_init 69 = .ok (.aload_n 0, 1) := by decide +kernel
theorem dX7_init_70 : decode cX7_init 70 = .ok (.iconst 3, 1) := by decide +kernel
theorem dX7_init_71 : decode cX7_init 71 = .ok (.newarray .int, 2) := by decide +kernel
theorem dX7_init_73 : decode cX7_init 73 = .ok (.putfield 35, 3) := by decide +kernel
theorem dX7_init_76 : decode cX7_init 76 = .ok (.aload_n 0, 1) := by decide +kernel
theorem dX7_init_77 : decode cX7_init 77 = .ok (.bipush 24, 2) := by decide +kernel
theorem dX7_init_79 : decode cX7_init 79 = .ok (.newarray .int, 2) := by decide +kernel
theorem dX7_init_81 : decode cX7_init 81 = .ok (.putfield 38, 3) := by decide +kernel
theorem dX7_init_84 : decode cX7_init 84 = .ok (.aload_n 0, 1) := by decide +kernel
theorem dX7_init_85 : decode cX7_init 85 = .ok (.iconst 3, 1) := by decide +kernel
theorem dX7_init_86 : decode cX7_init 86 = .ok (.newarray .int, 2) := by decide +kernel
theorem dX7_init_88 : decode cX7_init 88 = .ok (.putfield 41, 3) := by decide +kernel
theorem dX7_init_91 : decode cX7_init 91 = .ok (.aload_n 0, 1) := by decide +kernel
theorem dX7_init_92 : decode cX7_init 92 = .ok (.iconst 2, 1) := by decide +kernel
theorem dX7_init_93 : decode cX7_init 93 = .ok (.putfield 44, 3) := by decide +kernel
theorem dX7_init_96 : decode cX7_init 96 = .ok (.iconst 0, 1) := by decide +kernel
theorem dX7_init_97 : decode cX7_init 97 = .ok (.istore_n 1, 1) := by decide +kernel
theorem dX7_init_98 : decode cX7_init 98 = .ok (.iload_n 1, 1) := by decide +kernel
theorem dX7_init_99 : decode cX7_init 99 = .ok (.bipush 8, 2) := by decide +kernel
theorem dX7_init_101 : decode cX7_init 101 = .ok (.if_icmp .ge 17, 3) := by decide +kernel
theorem dX7_init_104 : decode cX7_init 104 = .ok (.aload_n 0, 1) := by decide +kernel
theorem dX7_init_105 : decode cX7_init 105 = .ok (.getfield 16, 3) := by decide +kernel
theorem dX7_init_108 : decode cX7_init 108 = .ok (.iload_n 1, 1) := by decide +kernel
theorem dX7_init_109 : decode cX7_init 109 = .ok (.bipush (-9), 2) := by decide +kernel
theorem dX7_init_111 : decode cX7_init 111 = .ok (.iastore, 1) := by decide +kernel
theorem dX7_init_112 : decode cX7_init 112 = .ok (.iinc 1 1, 3) := by decide +kernel
theorem dX7_init_115 : decode cX7_init 115 = .ok (.goto (-17), 3) := by decide +kernel
theorem dX7_init_118 : decode cX7_init 118 = .ok (.aload_n 0, 1) := by decide +kernel
theorem dX7_init_119 : decode cX7_init 119 = .ok (.invokevirtual 48, 3) := by decide +kernel
theorem dX7_init_122 : decode cX7_init 122 = .ok (.return_, 1) := by decide +kernel
theorem dX7_in_0 : decode cX7_in 0 = .ok (.iload_n 0, 1) := by decide +kernel
theorem dX7_in_1 : decode cX7_in 1 = .ok (.iload_n 1, 1) := by decide +kernel
theorem dX7_in_2 : decode cX7_in 2 = .ok (.if_icmp .lt 12, 3) := by decide +kernel
theorem dX7_in_5 : decode cX7_in 5 = .ok (.iload_n 0, 1) := by decide +kernel
theorem dX7_in_6 : decode cX7_in 6 = .ok (.iload_n 2, 1) := by decide +kernel
theorem dX7_in_7 : decode cX7_in 7 = .ok (.if_icmp .gt 7, 3) := by decide +kernel
theorem dX7_in_10 : decode cX7_in 10 = .ok (.iconst 1, 1) := by decide +kernel
theorem dX7_in_11 : decode cX7_in 11 = .ok (.goto 4, 3) := by decide +kernel
theorem dX7_in_14 : decode cX7_in 14 = .ok (.iconst 0, 1) := by decide +kernel
theorem dX7_in_15 : decode cX7_in 15 = .ok (.ireturn, 1) := by decide +kernel
theorem dX7_type_0 : decode cX7_type 0 = .ok (.aload_n 0, 1) := by decide +kernel
theorem dX7_type_1 : decode cX7_type 1 = .ok (.iconst 0, 1) := by decide +kernel
theorem dX7_type_2 : decode cX7_type 2 = .ok (.putfield 51, 3) := by decide +kernel
theorem dX7_type_5 : decode cX7_type 5 = .ok (.iload_n 3, 1) := by decide +kernel
theorem dX7_type_6 : decode cX7_type 6 = .ok (.iconst 1, 1) := by decide +kernel
theorem dX7_type_7 : decode cX7_type 7 = .ok (.bipush 8, 2) := by decide +kernel
theorem dX7_type_9 : decode cX7_type 9 = .ok (.invokestatic 54, 3) := by decide +kernel
theorem dX7_type_12 : decode cX7_type 12 = .ok (.ifCond .ne 5, 3) := by decide +kernel
theorem dX7_type_15 : decode cX7_type 15 = .ok (.iconst (-1), 1) := by decide +kernel
theorem dX7_type_16 : decode cX7_type 16 = .ok (.ireturn, 1) := by decide +kernel
theorem dX7_type_17 : decode cX7_type 17 = .ok (.aload_n 0, 1) := by decide +kernel
theorem dX7_type_18 : decode cX7_type 18 = .ok (.getfield 58, 3) := by decide +kernel
theorem dX7_type_21 : decode cX7_type 21 = .ok (.iload_n 3, 1) := by decide +kernel
theorem dX7_type_22 : decode cX7_type 22 = .ok (.iadd, 1) := by decide +kernel
theorem dX7_type_23 : decode cX7_type 23 = .ok (.sipush 400, 3) := by decide +kernel
theorem dX7_type_26 : decode cX7_type 26 = .ok (.if_icmp .le 6, 3) := by decide +kernel
theorem dX7_type_29 : decode cX7_type 29 = .ok (.bipush (-3), 2) := by decide +kernel
theorem dX7_type_31 : decode cX7_type 31 = .ok (.ireturn, 1) := by decide +kernel
theorem dX7_type_32 : decode cX7_type 32 = .ok (.iload_n 3, 1) := by decide +kernel
theorem dX7_type_33 : decode cX7_type 33 = .ok (.iconst 1, 1) := by decide +kernel
theorem dX7_type_34 : decode cX7_type 34 = .ok (.isub, 1) := by decide +kernel
theorem dX7_type_35 : decode cX7_type 35 = .ok (.istore 4, 2) := by decide +kernel
theorem dX7_type_37 : decode cX7_type 37 = .ok (.iload 4, 2) := by decide +kernel
theorem dX7_type_39 : decode cX7_type 39 = .ok (.ifCond .lt 40, 3) := by decide +kernel
theorem dX7_type_42 : decode cX7_type 42 = .ok (.aload_n 0, 1) := by decide +kernel
theorem dX7_type_43 : decode cX7_type 43 = .ok (.getfield 7, 3) := by decide +kernel
theorem dX7_type_46 : decode cX7_type 46 = .ok (.aload_n 0, 1) := by decide +kernel
theorem dX7_type_47 : decode cX7_type 47 = .ok (.getfield 58, 3) := by decide +kernel
theorem dX7_type_50 : decode cX7_type 50 = .ok (.lload_n 1, 1) := by decide +kernel
theorem dX7_type_51 : decode cX7_type 51 = .ok (.bipush 8, 2) := by decide +kernel
theorem dX7_type_53 : decode cX7_type 53 = .ok (.iload 4, 2) := by decide +kernel
theorem dX7_type_55 : decode cX7_type 55 = .ok (.imul, 1) := by decide +kernel
theorem dX7_type_56 : decode cX7_type 56 = .ok (.lshr, 1) := by decide +kernel
theorem dX7_type_57 : decode cX7_type 57 = .ok (.ldc2_w 61, 3) := by decide +kernel
theorem dX7_type_60 : decode cX7_type 60 = .ok (.land, 1) := by decide +kernel
theorem dX7_type_61 : decode cX7_type 61 = .ok (.l2i, 1) := by decide +kernel
theorem dX7_type_62 : decode cX7_type 62 = .ok (.iastore, 1) := by decide +kernel
theorem dX7_type_63 : decode cX7_type 63 = .ok (.aload_n 0, 1) := by decide +kernel
theorem dX7_type_64 : decode cX7_type 64 = .ok (.dup, 1) := by decide +kernel
theorem dX7_type_65 : decode cX7_type 65 = .ok (.getfield 58, 3) := by decide +kernel
theorem dX7_type_68 : decode cX7_type 68 = .ok (.iconst 1, 1) := by decide +kernel
theorem dX7_type_69 : decode cX7_type 69 = .ok (.iadd, 1) := by decide +kernel
theorem dX7_type_70 : decode cX7_type 70 = .ok (.putfield 58, 3) := by decide +kernel
theorem dX7_type_73 : decode cX7_type 73 = .ok (.iinc 4 (-1), 3) := by decide +kernel
theorem dX7_type_76 : decode cX7_type 76 = .ok (.goto (-39), 3) := by decide +kernel
theorem dX7_type_79 : decode cX7_type 79 = .ok (.aload_n 0, 1) := by decide +kernel
theorem dX7_type_80 : decode cX7_type 80 = .ok (.getfield 58, 3) := by decide +kernel
theorem dX7_type_83 : decode cX7_type 83 = .ok (.ireturn, 1) := by decide +kernel
theorem dX7_clear_0 : decode cX7_clear 0 = .ok (.aload_n 0, 1) := by decide +kernel
theorem dX7_clear_1 : decode cX7_clear 1 = .ok (.iconst 0, 1) := by decide +kernel
theorem dX7_clear_2 : decode cX7_clear 2 = .ok (.putfield 51, 3) := by decide +kernel
theorem dX7_clear_5 : decode cX7_clear 5 = .ok (.aload_n 0, 1) := by decide +kernel
theorem dX7_clear_6 : decode cX7_clear 6 = .ok (.getfield 58, 3) := by decide +kernel
theorem dX7_clear_9 : decode cX7_clear 9 = .ok (.istore_n 1, 1) := by decide +kernel
theorem dX7_clear_10 : decode cX7_clear 10 = .ok (.aload_n 0, 1) := by decide +kernel
theorem dX7_clear_11 : decode cX7_clear 11 = .ok (.iconst 0, 1) := by decide +kernel
theorem dX7_clear_12 : decode cX7_clear 12 = .ok (.putfield 58, 3) := by decide +kernel
theorem dX7_clear_15 : decode cX7_clear 15 = .ok (.iload_n 1, 1) := by decide +kernel
theorem dX7_clear_16 : decode cX7_clear 16 = .ok (.ireturn, 1) := by decide +kernel
theorem dX7_byteAt_0 : decode cX7_byteAt 0 = .ok (.iload_n 1, 1) := by decide +kernel
theorem dX7_byteAt_1 : decode cX7_byteAt 1 = .ok (.aload_n 0, 1) := by decide +kernel
theorem dX7_byteAt_2 : decode cX7_byteAt 2 = .ok (.getfield 58, 3) := by decide +kernel
theorem dX7_byteAt_5 : decode cX7_byteAt 5 = .ok (.if_icmp .ge 12, 3) := by decide +kernel
theorem dX7_byteAt_8 : decode cX7_byteAt 8 = .ok (.aload_n 0, 1) := by decide +kernel
theorem dX7_byteAt_9 : decode cX7_byteAt 9 = .ok (.getfield 7, 3) := by decide +kernel
theorem dX7_byteAt_12 : decode cX7_byteAt 12 = .ok (.iload_n 1, 1) := by decide +kernel
theorem dX7_byteAt_13 : decode cX7_byteAt 13 = .ok (.iaload, 1) := by decide +kernel
theorem dX7_byteAt_14 : decode cX7_byteAt 14 = .ok (.goto 4, 3) := by decide +kernel
theorem dX7_byteAt_17 : decode cX7_byteAt 17 = .ok (.iconst (-1), 1) := by decide +kernel
theorem dX7_byteAt_18 : decode cX7_byteAt 18 = .ok (.ireturn, 1) := by decide +kernel
theorem dX7_add_0 : decode cX7_add 0 = .ok (.iload_n 2, 1) := by decide +kernel
theorem dX7_add_1 : decode cX7_add 1 = .ok (.ifCond .ne 7, 3) := by decide +kernel
theorem dX7_add_4 : decode cX7_add 4 = .ok (.lload_n 0, 1) := by decide +kernel
theorem dX7_add_5 : decode cX7_add 5 = .ok (.goto 11, 3) := by decide +kernel
theorem dX7_add_8 : decode cX7_add 8 = .ok (.ldc2_w 63, 3) := by decide +kernel
theorem dX7_add_11 : decode cX7_add 11 = .ok (.lload_n 0, 1) := by decide +kernel
theorem dX7_add_12 : decode cX7_add 12 = .ok (.lmul, 1) := by decide +kernel
theorem dX7_add_13 : decode cX7_add 13 = .ok (.iload_n 2, 1) := by decide +kernel
theorem dX7_add_14 : decode cX7_add 14 = .ok (.i2l, 1) := by decide +kernel
theorem dX7_add_15 : decode cX7_add 15 = .ok (.ladd, 1) := by decide +kernel
theorem dX7_add_16 : decode cX7_add 16 = .ok (.lreturn, 1) := by decide +kernel
theorem dX7_named_0 : decode cX7_named 0 = .ok (.lconst 0, 1) := by decide +kernel
theorem dX7_named_1 : decode cX7_named 1 = .ok (.iload_n 0, 1) := by decide +kernel
theorem dX7_named_2 : decode cX7_named 2 = .ok (.invokestatic 65, 3) := by decide +kernel
theorem dX7_named_5 : decode cX7_named 5 = .ok (.iload_n 1, 1) := by decide +kernel
theorem dX7_named_6 : decode cX7_named 6 = .ok (.invokestatic 65, 3) := by decide +kernel
theorem dX7_named_9 : decode cX7_named 9 = .ok (.iload_n 2, 1) := by decide +kernel
theorem dX7_named_10 : decode cX7_named 10 = .ok (.invokestatic 65, 3) := by decide +kernel
theorem dX7_named_13 : decode cX7_named 13 = .ok (.iload_n 3, 1) := by decide +kernel
theorem dX7_named_14 : decode cX7_named 14 = .ok (.invokestatic 65, 3) := by decide +kernel
theorem dX7_named_17 : decode cX7_named 17 = .ok (.iload 4, 2) := by decide +kernel
theorem dX7_named_19 : decode cX7_named 19 = .ok (.invokestatic 65, 3) := by decide +kernel
theorem dX7_named_22 : decode cX7_named 22 = .ok (.iload 5, 2) := by decide +kernel
theorem dX7_named_24 : decode cX7_named 24 = .ok (.invokestatic 65, 3) := by decide +kernel
theorem dX7_named_27 : decode cX7_named 27 = .ok (.lreturn, 1) := by decide +kernel
theorem dX7_wordOf_0 : decode cX7_wordOf 0 = .ok (.lload_n 0, 1) := by decide +kernel
theorem dX7_wordOf_1 : decode cX7_wordOf 1 = .ok (.bipush 102, 2) := by decide +kernel
theorem dX7_wordOf_3 : decode cX7_wordOf 3 = .ok (.bipush 111, 2) := by decide +kernel
theorem dX7_wordOf_5 : decode cX7_wordOf 5 = .ok (.bipush 114, 2) := by decide +kernel
theorem dX7_wordOf_7 : decode cX7_wordOf 7 = .ok (.bipush 103, 2) := by decide +kernel
theorem dX7_wordOf_9 : decode cX7_wordOf 9 = .ok (.bipush 101, 2) := by decide +kernel
theorem dX7_wordOf_11 : decode cX7_wordOf 11 = .ok (.bipush 116, 2) := by decide +kernel
theorem dX7_wordOf_13 : decode cX7_wordOf 13 = .ok (.invokestatic 69, 3) := by decide +kernel
theorem dX7_wordOf_16 : decode cX7_wordOf 16 = .ok (.bipush 115, 2) := by decide +kernel
theorem dX7_wordOf_18 : decode cX7_wordOf 18 = .ok (.invokestatic 65, 3) := by decide +kernel
theorem dX7_wordOf_21 : decode cX7_wordOf 21 = .ok (.lcmp, 1) := by decide +kernel
theorem dX7_wordOf_22 : decode cX7_wordOf 22 = .ok (.ifCond .ne 5, 3) := by decide +kernel
theorem dX7_wordOf_25 : decode cX7_wordOf 25 = .ok (.iconst 4, 1) := by decide +kernel
theorem dX7_wordOf_26 : decode cX7_wordOf 26 = .ok (.ireturn, 1) := by decide +kernel
theorem dX7_wordOf_27 : decode cX7_wordOf 27 = .ok (.lload_n 0, 1) := by decide +kernel
theorem dX7_wordOf_28 : decode cX7_wordOf 28 = .ok (.bipush 112, 2) := by decide +kernel
theorem dX7_wordOf_30 : decode cX7_wordOf 30 = .ok (.bipush 101, 2) := by decide +kernel
theorem dX7_wordOf_32 : decode cX7_wordOf 32 = .ok (.bipush 114, 2) := by decide +kernel
theorem dX7_wordOf_34 : decode cX7_wordOf 34 = .ok (.bipush 115, 2) := by decide +kernel
theorem dX7_wordOf_36 : decode cX7_wordOf 36 = .ok (.bipush 111, 2) := by decide +kernel
theorem dX7_wordOf_38 : decode cX7_wordOf 38 = .ok (.bipush 110, 2) := by decide +kernel
theorem dX7_wordOf_40 : decode cX7_wordOf 40 = .ok (.invokestatic 69, 3) := by decide +kernel
theorem dX7_wordOf_43 : decode cX7_wordOf 43 = .ok (.lcmp, 1) := by decide +kernel
theorem dX7_wordOf_44 : decode cX7_wordOf 44 = .ok (.ifCond .ne 7, 3) := by decide +kernel
theorem dX7_wordOf_47 : decode cX7_wordOf 47 = .ok (.iconst 0, 1) := by decide +kernel
theorem dX7_wordOf_48 : decode cX7_wordOf 48 = .ok (.goto 75, 3) := by decide +kernel
theorem dX7_wordOf_51 : decode cX7_wordOf 51 = .ok (.lload_n 0, 1) := by decide +kernel
theorem dX7_wordOf_52 : decode cX7_wordOf 52 = .ok (.bipush 107, 2) := by decide +kernel
theorem dX7_wordOf_54 : decode cX7_wordOf 54 = .ok (.bipush 110, 2) := by decide +kernel
theorem dX7_wordOf_56 : decode cX7_wordOf 56 = .ok (.bipush 111, 2) := by decide +kernel
theorem dX7_wordOf_58 : decode cX7_wordOf 58 = .ok (.bipush 119, 2) := by decide +kernel
theorem dX7_wordOf_60 : decode cX7_wordOf 60 = .ok (.bipush 115, 2) := by decide +kernel
theorem dX7_wordOf_62 : decode cX7_wordOf 62 = .ok (.iconst 0, 1) := by decide +kernel
theorem dX7_wordOf_63 : decode cX7_wordOf 63 = .ok (.invokestatic 69, 3) := by decide +kernel
theorem dX7_wordOf_66 : decode cX7_wordOf 66 = .ok (.lcmp, 1) := by decide +kernel
theorem dX7_wordOf_67 : decode cX7_wordOf 67 = .ok (.ifCond .ne 7, 3) := by decide +kernel
theorem dX7_wordOf_70 : decode cX7_wordOf 70 = .ok (.iconst 1, 1) := by decide +kernel
theorem dX7_wordOf_71 : decode cX7_wordOf 71 = .ok (.goto 52, 3) := by decide +kernel
theorem dX7_wordOf_74 : decode cX7_wordOf 74 = .ok (.lload_n 0, 1) := by decide +kernel
theorem dX7_wordOf_75 : decode cX7_wordOf 75 = .ok (.bipush 109, 2) := by decide +kernel
theorem dX7_wordOf_77 : decode cX7_wordOf 77 = .ok (.bipush 117, 2) := by decide +kernel
theorem dX7_wordOf_79 : decode cX7_wordOf 79 = .ok (.bipush 116, 2) := by decide +kernel
theorem dX7_wordOf_81 : decode cX7_wordOf 81 = .ok (.bipush 117, 2) := by decide +kernel
theorem dX7_wordOf_83 : decode cX7_wordOf 83 = .ok (.bipush 97, 2) := by decide +kernel
theorem dX7_wordOf_85 : decode cX7_wordOf 85 = .ok (.bipush 108, 2) := by decide +kernel
theorem dX7_wordOf_87 : decode cX7_wordOf 87 = .ok (.invokestatic 69, 3) := by decide +kernel
theorem dX7_wordOf_90 : decode cX7_wordOf 90 = .ok (.lcmp, 1) := by decide +kernel
theorem dX7_wordOf_91 : decode cX7_wordOf 91 = .ok (.ifCond .ne 7, 3) := by decide +kernel
theorem dX7_wordOf_94 : decode cX7_wordOf 94 = .ok (.iconst 2, 1) := by decide +kernel
theorem dX7_wordOf_95 : decode cX7_wordOf 95 = .ok (.goto 28, 3) := by decide +kernel
theorem dX7_wordOf_98 : decode cX7_wordOf 98 = .ok (.lload_n 0, 1) := by decide +kernel
theorem dX7_wordOf_99 : decode cX7_wordOf 99 = .ok (.bipush 99, 2) := by decide +kernel
theorem dX7_wordOf_101 : decode cX7_wordOf 101 = .ok (.bipush 97, 2) := by decide +kernel
theorem dX7_wordOf_103 : decode cX7_wordOf 103 = .ok (.bipush 108, 2) := by decide +kernel
theorem dX7_wordOf_105 : decode cX7_wordOf 105 = .ok (.bipush 108, 2) := by decide +kernel
theorem dX7_wordOf_107 : decode cX7_wordOf 107 = .ok (.bipush 115, 2) := by decide +kernel
theorem dX7_wordOf_109 : decode cX7_wordOf 109 = .ok (.iconst 0, 1) := by decide +kernel
theorem dX7_wordOf_110 : decode cX7_wordOf 110 = .ok (.invokestatic 69, 3) := by decide +kernel
theorem dX7_wordOf_113 : decode cX7_wordOf 113 = .ok (.lcmp, 1) := by decide +kernel
theorem dX7_wordOf_114 : decode cX7_wordOf 114 = .ok (.ifCond .ne 7, 3) := by decide +kernel
theorem dX7_wordOf_117 : decode cX7_wordOf 117 = .ok (.iconst 3, 1) := by decide +kernel
theorem dX7_wordOf_118 : decode cX7_wordOf 118 = .ok (.goto 5, 3) := by decide +kernel
theorem dX7_wordOf_121 : decode cX7_wordOf 121 = .ok (.bipush (-9), 2) := by decide +kernel
theorem dX7_wordOf_123 : decode cX7_wordOf 123 = .ok (.istore_n 2, 1) := by decide +kernel
theorem dX7_wordOf_124 : decode cX7_wordOf 124 = .ok (.iload_n 2, 1) := by decide +kernel
theorem dX7_wordOf_125 : decode cX7_wordOf 125 = .ok (.bipush (-9), 2) := by decide +kernel
theorem dX7_wordOf_127 : decode cX7_wordOf 127 = .ok (.if_icmp .eq 5, 3) := by decide +kernel
theorem dX7_wordOf_130 : decode cX7_wordOf 130 = .ok (.iload_n 2, 1) := by decide +kernel
theorem dX7_wordOf_131 : decode cX7_wordOf 131 = .ok (.ireturn, 1) := by decide +kernel
theorem dX7_wordOf_132 : decode cX7_wordOf 132 = .ok (.lload_n 0, 1) := by decide +kernel
theorem dX7_wordOf_133 : decode cX7_wordOf 133 = .ok (.bipush 108, 2) := by decide +kernel
theorem dX7_wordOf_135 : decode cX7_wordOf 135 = .ok (.bipush 97, 2) := by decide +kernel
theorem dX7_wordOf_137 : decode cX7_wordOf 137 = .ok (.bipush 119, 2) := by decide +kernel
theorem dX7_wordOf_139 : decode cX7_wordOf 139 = .ok (.iconst 0, 1) := by decide +kernel
theorem dX7_wordOf_140 : decode cX7_wordOf 140 = .ok (.iconst 0, 1) := by decide +kernel
theorem dX7_wordOf_141 : decode cX7_wordOf 141 = .ok (.iconst 0, 1) := by decide +kernel
theorem dX7_wordOf_142 : decode cX7_wordOf 142 = .ok (.invokestatic 69, 3) := by decide +kernel
theorem dX7_wordOf_145 : decode cX7_wordOf 145 = .ok (.lcmp, 1) := by decide +kernel
theorem dX7_wordOf_146 : decode cX7_wordOf 146 = .ok (.ifCond .ne 7, 3) := by decide +kernel
theorem dX7_wordOf_149 : decode cX7_wordOf 149 = .ok (.iconst 5, 1) := by decide +kernel
theorem dX7_wordOf_150 : decode cX7_wordOf 150 = .ok (.goto 54, 3) := by decide +kernel
theorem dX7_wordOf_153 : decode cX7_wordOf 153 = .ok (.lload_n 0, 1) := by decide +kernel
theorem dX7_wordOf_154 : decode cX7_wordOf 154 = .ok (.bipush 108, 2) := by decide +kernel
theorem dX7_wordOf_156 : decode cX7_wordOf 156 = .ok (.bipush 101, 2) := by decide +kernel
theorem dX7_wordOf_158 : decode cX7_wordOf 158 = .ok (.bipush 97, 2) := by decide +kernel
theorem dX7_wordOf_160 : decode cX7_wordOf 160 = .ok (.bipush 115, 2) := by decide +kernel
theorem dX7_wordOf_162 : decode cX7_wordOf 162 = .ok (.bipush 116, 2) := by decide +kernel
theorem dX7_wordOf_164 : decode cX7_wordOf 164 = .ok (.iconst 0, 1) := by decide +kernel
theorem dX7_wordOf_165 : decode cX7_wordOf 165 = .ok (.invokestatic 69, 3) := by decide +kernel
theorem dX7_wordOf_168 : decode cX7_wordOf 168 = .ok (.lcmp, 1) := by decide +kernel
theorem dX7_wordOf_169 : decode cX7_wordOf 169 = .ok (.ifCond .ne 8, 3) := by decide +kernel
theorem dX7_wordOf_172 : decode cX7_wordOf 172 = .ok (.bipush 6, 2) := by decide +kernel
theorem dX7_wordOf_174 : decode cX7_wordOf 174 = .ok (.goto 30, 3) := by decide +kernel
theorem dX7_wordOf_177 : decode cX7_wordOf 177 = .ok (.lload_n 0, 1) := by decide +kernel
theorem dX7_wordOf_178 : decode cX7_wordOf 178 = .ok (.bipush 115, 2) := by decide +kernel
theorem dX7_wordOf_180 : decode cX7_wordOf 180 = .ok (.bipush 101, 2) := by decide +kernel
theorem dX7_wordOf_182 : decode cX7_wordOf 182 = .ok (.bipush 99, 2) := by decide +kernel
theorem dX7_wordOf_184 : decode cX7_wordOf 184 = .ok (.bipush 111, 2) := by decide +kernel
theorem dX7_wordOf_186 : decode cX7_wordOf 186 = .ok (.bipush 110, 2) := by decide +kernel
theorem dX7_wordOf_188 : decode cX7_wordOf 188 = .ok (.bipush 100, 2) := by decide +kernel
theorem dX7_wordOf_190 : decode cX7_wordOf 190 = .ok (.invokestatic 69, 3) := by decide +kernel
theorem dX7_wordOf_193 : decode cX7_wordOf 193 = .ok (.lcmp, 1) := by decide +kernel
theorem dX7_wordOf_194 : decode cX7_wordOf 194 = .ok (.ifCond .ne 8, 3) := by decide +kernel
theorem dX7_wordOf_197 : decode cX7_wordOf 197 = .ok (.bipush 7, 2) := by decide +kernel
theorem dX7_wordOf_199 : decode cX7_wordOf 199 = .ok (.goto 5, 3) := by decide +kernel
theorem dX7_wordOf_202 : decode cX7_wordOf 202 = .ok (.bipush (-9), 2) := by decide +kernel
theorem dX7_wordOf_204 : decode cX7_wordOf 204 = .ok (.istore_n 3, 1) := by decide +kernel
theorem dX7_wordOf_205 : decode cX7_wordOf 205 = .ok (.iload_n 3, 1) := by decide +kernel
theorem dX7_wordOf_206 : decode cX7_wordOf 206 = .ok (.bipush (-9), 2) := by decide +kernel
theorem dX7_wordOf_208 : decode cX7_wordOf 208 = .ok (.if_icmp .eq 7, 3) := by decide +kernel
theorem dX7_wordOf_211 : decode cX7_wordOf 211 = .ok (.iload_n 3, 1) := by decide +kernel
theorem dX7_wordOf_212 : decode cX7_wordOf 212 = .ok (.goto 52, 3) := by decide +kernel
theorem dX7_wordOf_215 : decode cX7_wordOf 215 = .ok (.lload_n 0, 1) := by decide +kernel
theorem dX7_wordOf_216 : decode cX7_wordOf 216 = .ok (.bipush 106, 2) := by decide +kernel
theorem dX7_wordOf_218 : decode cX7_wordOf 218 = .ok (.bipush 117, 2) := by decide +kernel
theorem dX7_wordOf_220 : decode cX7_wordOf 220 = .ok (.bipush 115, 2) := by decide +kernel
theorem dX7_wordOf_222 : decode cX7_wordOf 222 = .ok (.bipush 116, 2) := by decide +kernel
theorem dX7_wordOf_224 : decode cX7_wordOf 224 = .ok (.iconst 0, 1) := by decide +kernel
theorem dX7_wordOf_225 : decode cX7_wordOf 225 = .ok (.iconst 0, 1) := by decide +kernel
theorem dX7_wordOf_226 : decode cX7_wordOf 226 = .ok (.invokestatic 69, 3) := by decide +kernel
theorem dX7_wordOf_229 : decode cX7_wordOf 229 = .ok (.lcmp, 1) := by decide +kernel
theorem dX7_wordOf_230 : decode cX7_wordOf 230 = .ok (.ifCond .ne 8, 3) := by decide +kernel
theorem dX7_wordOf_233 : decode cX7_wordOf 233 = .ok (.bipush 8, 2) := by decide +kernel
theorem dX7_wordOf_235 : decode cX7_wordOf 235 = .ok (.goto 29, 3) := by decide +kernel
theorem dX7_wordOf_238 : decode cX7_wordOf 238 = .ok (.lload_n 0, 1) := by decide +kernel
theorem dX7_wordOf_239 : decode cX7_wordOf 239 = .ok (.bipush 110, 2) := by decide +kernel
theorem dX7_wordOf_241 : decode cX7_wordOf 241 = .ok (.bipush 101, 2) := by decide +kernel
theorem dX7_wordOf_243 : decode cX7_wordOf 243 = .ok (.bipush 118, 2) := by decide +kernel
theorem dX7_wordOf_245 : decode cX7_wordOf 245 = .ok (.bipush 101, 2) := by decide +kernel
theorem dX7_wordOf_247 : decode cX7_wordOf 247 = .ok (.bipush 114, 2) := by decide +kernel
theorem dX7_wordOf_249 : decode cX7_wordOf 249 = .ok (.iconst 0, 1) := by decide +kernel
theorem dX7_wordOf_250 : decode cX7_wordOf 250 = .ok (.invokestatic 69, 3) := by decide +kernel
theorem dX7_wordOf_253 : decode cX7_wordOf 253 = .ok (.lcmp, 1) := by decide +kernel
theorem dX7_wordOf_254 : decode cX7_wordOf 254 = .ok (.ifCond .ne 8, 3) := by decide +kernel
theorem dX7_wordOf_257 : decode cX7_wordOf 257 = .ok (.bipush 9, 2) := by decide +kernel
theorem dX7_wordOf_259 : decode cX7_wordOf 259 = .ok (.goto 5, 3) := by decide +kernel
theorem dX7_wordOf_262 : decode cX7_wordOf 262 = .ok (.bipush (-9), 2) := by decide +kernel
theorem dX7_wordOf_264 : decode cX7_wordOf 264 = .ok (.ireturn, 1) := by decide +kernel
theorem dX7_advances_0 : decode cX7_advances 0 = .ok (.aload_n 0, 1) := by decide +kernel
theorem dX7_advances_1 : decode cX7_advances 1 = .ok (.aload_n 0, 1) := by decide +kernel
theorem dX7_advances_2 : decode cX7_advances 2 = .ok (.getfield 73, 3) := by decide +kernel
theorem dX7_advances_5 : decode cX7_advances 5 = .ok (.invokevirtual 76, 3) := by decide +kernel
theorem dX7_advances_8 : decode cX7_advances 8 = .ok (.bipush 32, 2) := by decide +kernel
theorem dX7_advances_10 : decode cX7_advances 10 = .ok (.if_icmp .ne 16, 3) := by decide +kernel
theorem dX7_advances_13 : decode cX7_advances 13 = .ok (.aload_n 0, 1) := by decide +kernel
theorem dX7_advances_14 : decode cX7_advances 14 = .ok (.dup, 1) := by decide +kernel
theorem dX7_advances_15 : decode cX7_advances 15 = .ok (.getfield 73, 3) := by decide +kernel
theorem dX7_advances_18 : decode cX7_advances 18 = .ok (.iconst 1, 1) := by decide +kernel
theorem dX7_advances_19 : decode cX7_advances 19 = .ok (.iadd, 1) := by decide +kernel
theorem dX7_advances_20 : decode cX7_advances 20 = .ok (.putfield 73, 3) := by decide +kernel
theorem dX7_advances_23 : decode cX7_advances 23 = .ok (.goto (-23), 3) := by decide +kernel
theorem dX7_advances_26 : decode cX7_advances 26 = .ok (.aload_n 0, 1) := by decide +kernel
theorem dX7_advances_27 : decode cX7_advances 27 = .ok (.aload_n 0, 1) := by decide +kernel
theorem dX7_advances_28 : decode cX7_advances 28 = .ok (.getfield 73, 3) := by decide +kernel
theorem dX7_advances_31 : decode cX7_advances 31 = .ok (.putfield 80, 3) := by decide +kernel
theorem dX7_advances_34 : decode cX7_advances 34 = .ok (.aload_n 0, 1) := by decide +kernel
theorem dX7_advances_35 : decode cX7_advances 35 = .ok (.aload_n 0, 1) := by decide +kernel
theorem dX7_advances_36 : decode cX7_advances 36 = .ok (.getfield 73, 3) := by decide +kernel
theorem dX7_advances_39 : decode cX7_advances 39 = .ok (.invokevirtual 76, 3) := by decide +kernel
theorem dX7_advances_42 : decode cX7_advances 42 = .ok (.istore_n 1, 1) := by decide +kernel
theorem dX7_advances_43 : decode cX7_advances 43 = .ok (.iload_n 1, 1) := by decide +kernel
theorem dX7_advances_44 : decode cX7_advances 44 = .ok (.ifCond .ge 11, 3) := by decide +kernel
theorem dX7_advances_47 : decode cX7_advances 47 = .ok (.aload_n 0, 1) := by decide +kernel
theorem dX7_advances_48 : decode cX7_advances 48 = .ok (.iconst 0, 1) := by decide +kernel
theorem dX7_advances_49 : decode cX7_advances 49 = .ok (.putfield 83, 3) := by decide +kernel
theorem dX7_advances_52 : decode cX7_advances 52 = .ok (.goto 277, 3) := by decide +kernel
theorem dX7_advances_55 : decode cX7_advances 55 = .ok (.iload_n 1, 1) := by decide +kernel
theorem dX7_advances_56 : decode cX7_advances 56 = .ok (.bipush 97, 2) := by decide +kernel
theorem dX7_advances_58 : decode cX7_advances 58 = .ok (.bipush 122, 2) := by decide +kernel
theorem dX7_advances_60 : decode cX7_advances 60 = .ok (.invokestatic 54, 3) := by decide +kernel
theorem dX7_advances_63 : decode cX7_advances 63 = .ok (.ifCond .eq 115, 3) := by decide +kernel
theorem dX7_advances_66 : decode cX7_advances 66 = .ok (.lconst 0, 1) := by decide +kernel
theorem dX7_advances_67 : decode cX7_advances 67 = .ok (.lstore_n 2, 1) := by decide +kernel
theorem dX7_advances_68 : decode cX7_advances 68 = .ok (.aload_n 0, 1) := by decide +kernel
theorem dX7_advances_69 : decode cX7_advances 69 = .ok (.aload_n 0, 1) := by decide +kernel
theorem dX7_advances_70 : decode cX7_advances 70 = .ok (.getfield 73, 3) := by decide +kernel
theorem dX7_advances_73 : decode cX7_advances 73 = .ok (.invokevirtual 76, 3) := by decide +kernel
theorem dX7_advances_76 : decode cX7_advances 76 = .ok (.bipush 97, 2) := by decide +kernel
theorem dX7_advances_78 : decode cX7_advances 78 = .ok (.bipush 122, 2) := by decide +kernel
theorem dX7_advances_80 : decode cX7_advances 80 = .ok (.invokestatic 54, 3) := by decide +kernel
theorem dX7_advances_83 : decode cX7_advances 83 = .ok (.ifCond .eq 47, 3) := by decide +kernel
theorem dX7_advances_86 : decode cX7_advances 86 = .ok (.aload_n 0, 1) := by decide +kernel
theorem dX7_advances_87 : decode cX7_advances 87 = .ok (.getfield 73, 3) := by decide +kernel
theorem dX7_advances_90 : decode cX7_advances 90 = .ok (.aload_n 0, 1) := by decide +kernel
theorem dX7_advances_91 : decode cX7_advances 91 = .ok (.getfield 80, 3) := by decide +kernel
theorem dX7_advances_94 : decode cX7_advances 94 = .ok (.isub, 1) := by decide +kernel
theorem dX7_advances_95 : decode cX7_advances 95 = .ok (.bipush 8, 2) := by decide +kernel
theorem dX7_advances_97 : decode cX7_advances 97 = .ok (.if_icmp .ge 18, 3) := by decide +kernel
theorem dX7_advances_100 : decode cX7_advances 100 = .ok (.lload_n 2, 1) := by decide +kernel
theorem dX7_advances_101 : decode cX7_advances 101 = .ok (.aload_n 0, 1) := by decide +kernel
theorem dX7_advances_102 : decode cX7_advances 102 = .ok (.aload_n 0, 1) := by decide +kernel
theorem dX7_advances_103 : decode cX7_advances 103 = .ok (.getfield 73, 3) := by decide +kernel
theorem dX7_advances_106 : decode cX7_advances 106 = .ok (.invokevirtual 76, 3) := by decide +kernel
theorem dX7_advances_109 : decode cX7_advances 109 = .ok (.invokestatic 65, 3) := by decide +kernel
theorem dX7_advances_112 : decode cX7_advances 112 = .ok (.goto 4, 3) := by decide +kernel
theorem dX7_advances_115 : decode cX7_advances 115 = .ok (.lload_n 2, 1) := by decide +kernel
theorem dX7_advances_116 : decode cX7_advances 116 = .ok (.lstore_n 2, 1) := by decide +kernel
theorem dX7_advances_117 : decode cX7_advances 117 = .ok (.aload_n 0, 1) := by decide +kernel
theorem dX7_advances_118 : decode cX7_advances 118 = .ok (.dup, 1) := by decide +kernel
theorem dX7_advances_119 : decode cX7_advances 119 = .ok (.getfield 73, 3) := by decide +kernel
theorem dX7_advances_122 : decode cX7_advances 122 = .ok (.iconst 1, 1) := by decide +kernel
theorem dX7_advances_123 : decode cX7_advances 123 = .ok (.iadd, 1) := by decide +kernel
theorem dX7_advances_124 : decode cX7_advances 124 = .ok (.putfield 73, 3) := by decide +kernel
theorem dX7_advances_127 : decode cX7_advances 127 = .ok (.goto (-59), 3) := by decide +kernel
theorem dX7_advances_130 : decode cX7_advances 130 = .ok (.aload_n 0, 1) := by decide +kernel
theorem dX7_advances_131 : decode cX7_advances 131 = .ok (.aload_n 0, 1) := by decide +kernel
theorem dX7_advances_132 : decode cX7_advances 132 = .ok (.getfield 73, 3) := by decide +kernel
theorem dX7_advances_135 : decode cX7_advances 135 = .ok (.aload_n 0, 1) := by decide +kernel
theorem dX7_advances_136 : decode cX7_advances 136 = .ok (.getfield 80, 3) := by decide +kernel
theorem dX7_advances_139 : decode cX7_advances 139 = .ok (.isub, 1) := by decide +kernel
theorem dX7_advances_140 : decode cX7_advances 140 = .ok (.bipush 7, 2) := by decide +kernel
theorem dX7_advances_142 : decode cX7_advances 142 = .ok (.if_icmp .le 8, 3) := by decide +kernel
theorem dX7_advances_145 : decode cX7_advances 145 = .ok (.bipush (-9), 2) := by decide +kernel
theorem dX7_advances_147 : decode cX7_advances 147 = .ok (.goto 7, 3) := by decide +kernel
theorem dX7_advances_150 : decode cX7_advances 150 = .ok (.lload_n 2, 1) := by decide +kernel
theorem dX7_advances_151 : decode cX7_advances 151 = .ok (.invokestatic 86, 3) := by decide +kernel
theorem dX7_advances_154 : decode cX7_advances 154 = .ok (.putfield 90, 3) := by decide +kernel
theorem dX7_advances_157 : decode cX7_advances 157 = .ok (.aload_n 0, 1) := by decide +kernel
theorem dX7_advances_158 : decode cX7_advances 158 = .ok (.aload_n 0, 1) := by decide +kernel
theorem dX7_advances_159 : decode cX7_advances 159 = .ok (.getfield 90, 3) := by decide +kernel
theorem dX7_advances_162 : decode cX7_advances 162 = .ok (.bipush (-9), 2) := by decide +kernel
theorem dX7_advances_164 : decode cX7_advances 164 = .ok (.if_icmp .ne 7, 3) := by decide +kernel
theorem dX7_advances_167 : decode cX7_advances 167 = .ok (.iconst 4, 1) := by decide +kernel
theorem dX7_advances_168 : decode cX7_advances 168 = .ok (.goto 4, 3) := by decide +kernel
theorem dX7_advances_171 : decode cX7_advances 171 = .ok (.iconst 1, 1) := by decide +kernel
theorem dX7_advances_172 : decode cX7_advances 172 = .ok (.putfield 83, 3) := by decide +kernel
theorem dX7_advances_175 : decode cX7_advances 175 = .ok (.goto 154, 3) := by decide +kernel
theorem dX7_advances_178 : decode cX7_advances 178 = .ok (.iload_n 1, 1) := by decide +kernel
theorem dX7_advances_179 : decode cX7_advances 179 = .ok (.bipush 48, 2) := by decide +kernel
theorem dX7_advances_181 : decode cX7_advances 181 = .ok (.bipush 57, 2) := by decide +kernel
theorem dX7_advances_183 : decode cX7_advances 183 = .ok (.invokestatic 54, 3) := by decide +kernel
theorem dX7_advances_186 : decode cX7_advances 186 = .ok (.ifCond .eq 118, 3) := by decide +kernel
theorem dX7_advances_189 : decode cX7_advances 189 = .ok (.aload_n 0, 1) := by decide +kernel
theorem dX7_advances_190 : decode cX7_advances 190 = .ok (.iconst 0, 1) := by decide +kernel
theorem dX7_advances_191 : decode cX7_advances 191 = .ok (.putfield 90, 3) := by decide +kernel
theorem dX7_advances_194 : decode cX7_advances 194 = .ok (.aload_n 0, 1) := by decide +kernel
theorem dX7_advances_195 : decode cX7_advances 195 = .ok (.aload_n 0, 1) := by decide +kernel
theorem dX7_advances_196 : decode cX7_advances 196 = .ok (.getfield 73, 3) := by decide +kernel
theorem dX7_advances_199 : decode cX7_advances 199 = .ok (.invokevirtual 76, 3) := by decide +kernel
theorem dX7_advances_202 : decode cX7_advances 202 = .ok (.bipush 48, 2) := by decide +kernel
theorem dX7_advances_204 : decode cX7_advances 204 = .ok (.bipush 57, 2) := by decide +kernel
theorem dX7_advances_206 : decode cX7_advances 206 = .ok (.invokestatic 54, 3) := by decide +kernel
theorem dX7_advances_209 : decode cX7_advances 209 = .ok (.ifCond .eq 55, 3) := by decide +kernel
theorem dX7_advances_212 : decode cX7_advances 212 = .ok (.aload_n 0, 1) := by decide +kernel
theorem dX7_advances_213 : decode cX7_advances 213 = .ok (.aload_n 0, 1) := by decide +kernel
theorem dX7_advances_214 : decode cX7_advances 214 = .ok (.getfield 90, 3) := by decide +kernel
theorem dX7_advances_217 : decode cX7_advances 217 = .ok (.bipush 99, 2) := by decide +kernel
theorem dX7_advances_219 : decode cX7_advances 219 = .ok (.if_icmp .le 10, 3) := by decide +kernel
theorem dX7_advances_222 : decode cX7_advances 222 = .ok (.aload_n 0, 1) := by decide +kernel
theorem dX7_advances_223 : decode cX7_advances 223 = .ok (.getfield 90, 3) := by decide +kernel
theorem dX7_advances_226 : decode cX7_advances 226 = .ok (.goto 22, 3) := by decide +kernel
theorem dX7_advances_229 : decode cX7_advances 229 = .ok (.bipush 10, 2) := by decide +kernel
theorem dX7_advances_231 : decode cX7_advances 231 = .ok (.aload_n 0, 1) := by decide +kernel
theorem dX7_advances_232 : decode cX7_advances 232 = .ok (.getfield 90, 3) := by decide +kernel
theorem dX7_advances_235 : decode cX7_advances 235 = .ok (.imul, 1) := by decide +kernel
theorem dX7_advances_236 : decode cX7_advances 236 = .ok (.aload_n 0, 1) := by decide +kernel
theorem dX7_advances_237 : decode cX7_advances 237 = .ok (.aload_n 0, 1) := by decide +kernel
theorem dX7_advances_238 : decode cX7_advances 238 = .ok (.getfield 73, 3) := by decide +kernel
theorem dX7_advances_241 : decode cX7_advances 241 = .ok (.invokevirtual 76, 3) := by decide +kernel
theorem dX7_advances_244 : decode cX7_advances 244 = .ok (.iadd, 1) := by decide +kernel
theorem dX7_advances_245 : decode cX7_advances 245 = .ok (.bipush 48, 2) := by decide +kernel
theorem dX7_advances_247 : decode cX7_advances 247 = .ok (.isub, 1) := by decide +kernel
theorem dX7_advances_248 : decode cX7_advances 248 = .ok (.putfield 90, 3) := by decide +kernel
theorem dX7_advances_251 : decode cX7_advances 251 = .ok (.aload_n 0, 1) := by decide +kernel
theorem dX7_advances_252 : decode cX7_advances 252 = .ok (.dup, 1) := by decide +kernel
theorem dX7_advances_253 : decode cX7_advances 253 = .ok (.getfield 73, 3) := by decide +kernel
theorem dX7_advances_256 : decode cX7_advances 256 = .ok (.iconst 1, 1) := by decide +kernel
theorem dX7_advances_257 : decode cX7_advances 257 = .ok (.iadd, 1) := by decide +kernel
theorem dX7_advances_258 : decode cX7_advances 258 = .ok (.putfield 73, 3) := by decide +kernel
theorem dX7_advances_261 : decode cX7_advances 261 = .ok (.goto (-67), 3) := by decide +kernel
theorem dX7_advances_264 : decode cX7_advances 264 = .ok (.aload_n 0, 1) := by decide +kernel
theorem dX7_advances_265 : decode cX7_advances 265 = .ok (.aload_n 0, 1) := by decide +kernel
theorem dX7_advances_266 : decode cX7_advances 266 = .ok (.getfield 90, 3) := by decide +kernel
theorem dX7_advances_269 : decode cX7_advances 269 = .ok (.bipush 99, 2) := by decide +kernel
theorem dX7_advances_271 : decode cX7_advances 271 = .ok (.if_icmp .gt 22, 3) := by decide +kernel
theorem dX7_advances_274 : decode cX7_advances 274 = .ok (.iload_n 1, 1) := by decide +kernel
theorem dX7_advances_275 : decode cX7_advances 275 = .ok (.bipush 48, 2) := by decide +kernel
theorem dX7_advances_277 : decode cX7_advances 277 = .ok (.if_icmp .ne 20, 3) := by decide +kernel
theorem dX7_advances_280 : decode cX7_advances 280 = .ok (.aload_n 0, 1) := by decide +kernel
theorem dX7_advances_281 : decode cX7_advances 281 = .ok (.getfield 73, 3) := by decide +kernel
theorem dX7_advances_284 : decode cX7_advances 284 = .ok (.aload_n 0, 1) := by decide +kernel
theorem dX7_advances_285 : decode cX7_advances 285 = .ok (.getfield 80, 3) := by decide +kernel
theorem dX7_advances_288 : decode cX7_advances 288 = .ok (.isub, 1) := by decide +kernel
theorem dX7_advances_289 : decode cX7_advances 289 = .ok (.iconst 1, 1) := by decide +kernel
theorem dX7_advances_290 : decode cX7_advances 290 = .ok (.if_icmp .le 7, 3) := by decide +kernel
theorem dX7_advances_293 : decode cX7_advances 293 = .ok (.iconst 4, 1) := by decide +kernel
theorem dX7_advances_294 : decode cX7_advances 294 = .ok (.goto 4, 3) := by decide +kernel
theorem dX7_advances_297 : decode cX7_advances 297 = .ok (.iconst 2, 1) := by decide +kernel
theorem dX7_advances_298 : decode cX7_advances 298 = .ok (.putfield 83, 3) := by decide +kernel
theorem dX7_advances_301 : decode cX7_advances 301 = .ok (.goto 28, 3) := by decide +kernel
theorem dX7_advances_304 : decode cX7_advances 304 = .ok (.aload_n 0, 1) := by decide +kernel
theorem dX7_advances_305 : decode cX7_advances 305 = .ok (.dup, 1) := by decide +kernel
theorem dX7_advances_306 : decode cX7_advances 306 = .ok (.getfield 73, 3) := by decide +kernel
theorem dX7_advances_309 : decode cX7_advances 309 = .ok (.iconst 1, 1) := by decide +kernel
theorem dX7_advances_310 : decode cX7_advances 310 = .ok (.iadd, 1) := by decide +kernel
theorem dX7_advances_311 : decode cX7_advances 311 = .ok (.putfield 73, 3) := by decide +kernel
theorem dX7_advances_314 : decode cX7_advances 314 = .ok (.aload_n 0, 1) := by decide +kernel
theorem dX7_advances_315 : decode cX7_advances 315 = .ok (.iload_n 1, 1) := by decide +kernel
theorem dX7_advances_316 : decode cX7_advances 316 = .ok (.bipush 59, 2) := by decide +kernel
theorem dX7_advances_318 : decode cX7_advances 318 = .ok (.if_icmp .ne 7, 3) := by decide +kernel
theorem dX7_advances_321 : decode cX7_advances 321 = .ok (.iconst 3, 1) := by decide +kernel
theorem dX7_advances_322 : decode cX7_advances 322 = .ok (.goto 4, 3) := by decide +kernel
theorem dX7_advances_325 : decode cX7_advances 325 = .ok (.iconst 4, 1) := by decide +kernel
theorem dX7_advances_326 : decode cX7_advances 326 = .ok (.putfield 83, 3) := by decide +kernel
theorem dX7_advances_329 : decode cX7_advances 329 = .ok (.return_, 1) := by decide +kernel
theorem dX7_isWell_0 : decode cX7_isWell 0 = .ok (.aload_n 0, 1) := by decide +kernel
theorem dX7_isWell_1 : decode cX7_isWell 1 = .ok (.getfield 93, 3) := by decide +kernel
theorem dX7_isWell_4 : decode cX7_isWell 4 = .ok (.ifCond .ge 7, 3) := by decide +kernel
theorem dX7_isWell_7 : decode cX7_isWell 7 = .ok (.iconst 1, 1) := by decide +kernel
theorem dX7_isWell_8 : decode cX7_isWell 8 = .ok (.goto 4, 3) := by decide +kernel
theorem dX7_isWell_11 : decode cX7_isWell 11 = .ok (.iconst 0, 1) := by decide +kernel
theorem dX7_isWell_12 : decode cX7_isWell 12 = .ok (.ireturn, 1) := by decide +kernel
theorem dX7_takes_0 : decode cX7_takes 0 = .ok (.aload_n 0, 1) := by decide +kernel
theorem dX7_takes_1 : decode cX7_takes 1 = .ok (.invokevirtual 96, 3) := by decide +kernel
theorem dX7_takes_4 : decode cX7_takes 4 = .ok (.ifCond .ne 5, 3) := by decide +kernel
theorem dX7_takes_7 : decode cX7_takes 7 = .ok (.iconst 0, 1) := by decide +kernel
theorem dX7_takes_8 : decode cX7_takes 8 = .ok (.ireturn, 1) := by decide +kernel
theorem dX7_takes_9 : decode cX7_takes 9 = .ok (.iload_n 1, 1) := by decide +kernel
theorem dX7_takes_10 : decode cX7_takes 10 = .ok (.ifCond .ne 13, 3) := by decide +kernel
theorem dX7_takes_13 : decode cX7_takes 13 = .ok (.aload_n 0, 1) := by decide +kernel
theorem dX7_takes_14 : decode cX7_takes 14 = .ok (.aload_n 0, 1) := by decide +kernel
theorem dX7_takes_15 : decode cX7_takes 15 = .ok (.getfield 80, 3) := by decide +kernel
theorem dX7_takes_18 : decode cX7_takes 18 = .ok (.putfield 93, 3) := by decide +kernel
theorem dX7_takes_21 : decode cX7_takes 21 = .ok (.iconst 0, 1) := by decide +kernel
theorem dX7_takes_22 : decode cX7_takes 22 = .ok (.ireturn, 1) := by decide +kernel
theorem dX7_takes_23 : decode cX7_takes 23 = .ok (.aload_n 0, 1) := by decide +kernel
theorem dX7_takes_24 : decode cX7_takes 24 = .ok (.getfield 90, 3) := by decide +kernel
theorem dX7_takes_27 : decode cX7_takes 27 = .ok (.istore_n 2, 1) := by decide +kernel
theorem dX7_takes_28 : decode cX7_takes 28 = .ok (.aload_n 0, 1) := by decide +kernel
theorem dX7_takes_29 : decode cX7_takes 29 = .ok (.invokevirtual 100, 3) := by decide +kernel
theorem dX7_takes_32 : decode cX7_takes 32 = .ok (.iload_n 2, 1) := by decide +kernel
theorem dX7_takes_33 : decode cX7_takes 33 = .ok (.ireturn, 1) := by decide +kernel
theorem dX7_number_0 : decode cX7_number 0 = .ok (.aload_n 0, 1) := by decide +kernel
theorem dX7_number_1 : decode cX7_number 1 = .ok (.aload_n 0, 1) := by decide +kernel
theorem dX7_number_2 : decode cX7_number 2 = .ok (.getfield 83, 3) := by decide +kernel
theorem dX7_number_5 : decode cX7_number 5 = .ok (.iconst 2, 1) := by decide +kernel
theorem dX7_number_6 : decode cX7_number 6 = .ok (.if_icmp .ne 19, 3) := by decide +kernel
theorem dX7_number_9 : decode cX7_number 9 = .ok (.aload_n 0, 1) := by decide +kernel
theorem dX7_number_10 : decode cX7_number 10 = .ok (.getfield 90, 3) := by decide +kernel
theorem dX7_number_13 : decode cX7_number 13 = .ok (.iload_n 1, 1) := by decide +kernel
theorem dX7_number_14 : decode cX7_number 14 = .ok (.iload_n 2, 1) := by decide +kernel
theorem dX7_number_15 : decode cX7_number 15 = .ok (.invokestatic 54, 3) := by decide +kernel
theorem dX7_number_18 : decode cX7_number 18 = .ok (.ifCond .eq 7, 3) := by decide +kernel
theorem dX7_number_21 : decode cX7_number 21 = .ok (.iconst 1, 1) := by decide +kernel
theorem dX7_number_22 : decode cX7_number 22 = .ok (.goto 4, 3) := by decide +kernel
theorem dX7_number_25 : decode cX7_number 25 = .ok (.iconst 0, 1) := by decide +kernel
theorem dX7_number_26 : decode cX7_number 26 = .ok (.invokevirtual 103, 3) := by decide +kernel
theorem dX7_number_29 : decode cX7_number 29 = .ok (.ireturn, 1) := by decide +kernel
theorem dX7_readsTwo_0 : decode cX7_readsTwo 0 = .ok (.aload_n 0, 1) := by decide +kernel
theorem dX7_readsTwo_1 : decode cX7_readsTwo 1 = .ok (.aload_n 0, 1) := by decide +kernel
theorem dX7_readsTwo_2 : decode cX7_readsTwo 2 = .ok (.getfield 83, 3) := by decide +kernel
theorem dX7_readsTwo_5 : decode cX7_readsTwo 5 = .ok (.iconst 2, 1) := by decide +kernel
theorem dX7_readsTwo_6 : decode cX7_readsTwo 6 = .ok (.if_icmp .ne 46, 3) := by decide +kernel
theorem dX7_readsTwo_9 : decode cX7_readsTwo 9 = .ok (.aload_n 0, 1) := by decide +kernel
theorem dX7_readsTwo_10 : decode cX7_readsTwo 10 = .ok (.getfield 90, 3) := by decide +kernel
theorem dX7_readsTwo_13 : decode cX7_readsTwo 13 = .ok (.iconst 0, 1) := by decide +kernel
theorem dX7_readsTwo_14 : decode cX7_readsTwo 14 = .ok (.aload_n 0, 1) := by decide +kernel
theorem dX7_readsTwo_15 : decode cX7_readsTwo 15 = .ok (.getfield 107, 3) := by decide +kernel
theorem dX7_readsTwo_18 : decode cX7_readsTwo 18 = .ok (.iconst 1, 1) := by decide +kernel
theorem dX7_readsTwo_19 : decode cX7_readsTwo 19 = .ok (.isub, 1) := by decide +kernel
theorem dX7_readsTwo_20 : decode cX7_readsTwo 20 = .ok (.invokestatic 54, 3) := by decide +kernel
theorem dX7_readsTwo_23 : decode cX7_readsTwo 23 = .ok (.ifCond .eq 29, 3) := by decide +kernel
theorem dX7_readsTwo_26 : decode cX7_readsTwo 26 = .ok (.iload_n 1, 1) := by decide +kernel
theorem dX7_readsTwo_27 : decode cX7_readsTwo 27 = .ok (.iconst 3, 1) := by decide +kernel
theorem dX7_readsTwo_28 : decode cX7_readsTwo 28 = .ok (.if_icmp .ne 20, 3) := by decide +kernel
theorem dX7_readsTwo_31 : decode cX7_readsTwo 31 = .ok (.aload_n 0, 1) := by decide +kernel
theorem dX7_readsTwo_32 : decode cX7_readsTwo 32 = .ok (.getfield 16, 3) := by decide +kernel
theorem dX7_readsTwo_35 : decode cX7_readsTwo 35 = .ok (.bipush 8, 2) := by decide +kernel
theorem dX7_readsTwo_37 : decode cX7_readsTwo 37 = .ok (.aload_n 0, 1) := by decide +kernel
theorem dX7_readsTwo_38 : decode cX7_readsTwo 38 = .ok (.getfield 90, 3) := by decide +kernel
theorem dX7_readsTwo_41 : decode cX7_readsTwo 41 = .ok (.iadd, 1) := by decide +kernel
theorem dX7_readsTwo_42 : decode cX7_readsTwo 42 = .ok (.iaload, 1) := by decide +kernel
theorem dX7_readsTwo_43 : decode cX7_readsTwo 43 = .ok (.bipush (-9), 2) := by decide +kernel
theorem dX7_readsTwo_45 : decode cX7_readsTwo 45 = .ok (.if_icmp .ne 7, 3) := by decide +kernel
theorem dX7_readsTwo_48 : decode cX7_readsTwo 48 = .ok (.iconst 1, 1) := by decide +kernel
theorem dX7_readsTwo_49 : decode cX7_readsTwo 49 = .ok (.goto 4, 3) := by decide +kernel
theorem dX7_readsTwo_52 : decode cX7_readsTwo 52 = .ok (.iconst 0, 1) := by decide +kernel
theorem dX7_readsTwo_53 : decode cX7_readsTwo 53 = .ok (.invokevirtual 103, 3) := by decide +kernel
theorem dX7_readsTwo_56 : decode cX7_readsTwo 56 = .ok (.istore_n 2, 1) := by decide +kernel
theorem dX7_readsTwo_57 : decode cX7_readsTwo 57 = .ok (.aload_n 0, 1) := by decide +kernel
theorem dX7_readsTwo_58 : decode cX7_readsTwo 58 = .ok (.aload_n 0, 1) := by decide +kernel
theorem dX7_readsTwo_59 : decode cX7_readsTwo 59 = .ok (.getfield 83, 3) := by decide +kernel
theorem dX7_readsTwo_62 : decode cX7_readsTwo 62 = .ok (.iconst 2, 1) := by decide +kernel
theorem dX7_readsTwo_63 : decode cX7_readsTwo 63 = .ok (.if_icmp .ne 32, 3) := by decide +kernel
theorem dX7_readsTwo_66 : decode cX7_readsTwo 66 = .ok (.aload_n 0, 1) := by decide +kernel
theorem dX7_readsTwo_67 : decode cX7_readsTwo 67 = .ok (.getfield 90, 3) := by decide +kernel
theorem dX7_readsTwo_70 : decode cX7_readsTwo 70 = .ok (.iconst 0, 1) := by decide +kernel
theorem dX7_readsTwo_71 : decode cX7_readsTwo 71 = .ok (.aload_n 0, 1) := by decide +kernel
theorem dX7_readsTwo_72 : decode cX7_readsTwo 72 = .ok (.getfield 107, 3) := by decide +kernel
theorem dX7_readsTwo_75 : decode cX7_readsTwo 75 = .ok (.iconst 1, 1) := by decide +kernel
theorem dX7_readsTwo_76 : decode cX7_readsTwo 76 = .ok (.isub, 1) := by decide +kernel
theorem dX7_readsTwo_77 : decode cX7_readsTwo 77 = .ok (.invokestatic 54, 3) := by decide +kernel
theorem dX7_readsTwo_80 : decode cX7_readsTwo 80 = .ok (.ifCond .eq 15, 3) := by decide +kernel
theorem dX7_readsTwo_83 : decode cX7_readsTwo 83 = .ok (.aload_n 0, 1) := by decide +kernel
theorem dX7_readsTwo_84 : decode cX7_readsTwo 84 = .ok (.getfield 90, 3) := by decide +kernel
theorem dX7_readsTwo_87 : decode cX7_readsTwo 87 = .ok (.iload_n 2, 1) := by decide +kernel
theorem dX7_readsTwo_88 : decode cX7_readsTwo 88 = .ok (.if_icmp .eq 7, 3) := by decide +kernel
theorem dX7_readsTwo_91 : decode cX7_readsTwo 91 = .ok (.iconst 1, 1) := by decide +kernel
theorem dX7_readsTwo_92 : decode cX7_readsTwo 92 = .ok (.goto 4, 3) := by decide +kernel
theorem dX7_readsTwo_95 : decode cX7_readsTwo 95 = .ok (.iconst 0, 1) := by decide +kernel
theorem dX7_readsTwo_96 : decode cX7_readsTwo 96 = .ok (.invokevirtual 103, 3) := by decide +kernel
theorem dX7_readsTwo_99 : decode cX7_readsTwo 99 = .ok (.istore_n 3, 1) := by decide +kernel
theorem dX7_readsTwo_100 : decode cX7_readsTwo 100 = .ok (.aload_n 0, 1) := by decide +kernel
theorem dX7_readsTwo_101 : decode cX7_readsTwo 101 = .ok (.invokevirtual 96, 3) := by decide +kernel
theorem dX7_readsTwo_104 : decode cX7_readsTwo 104 = .ok (.ifCond .ne 4, 3) := by decide +kernel
theorem dX7_readsTwo_107 : decode cX7_readsTwo 107 = .ok (.return_, 1) := by decide +kernel
theorem dX7_readsTwo_108 : decode cX7_readsTwo 108 = .ok (.iload_n 1, 1) := by decide +kernel
theorem dX7_readsTwo_109 : decode cX7_readsTwo 109 = .ok (.iconst 3, 1) := by decide +kernel
theorem dX7_readsTwo_110 : decode cX7_readsTwo 110 = .ok (.if_icmp .ne 16, 3) := by decide +kernel
theorem dX7_readsTwo_113 : decode cX7_readsTwo 113 = .ok (.aload_n 0, 1) := by decide +kernel
theorem dX7_readsTwo_114 : decode cX7_readsTwo 114 = .ok (.getfield 16, 3) := by decide +kernel
theorem dX7_readsTwo_117 : decode cX7_readsTwo 117 = .ok (.bipush 8, 2) := by decide +kernel
theorem dX7_readsTwo_119 : decode cX7_readsTwo 119 = .ok (.iload_n 2, 1) := by decide +kernel
theorem dX7_readsTwo_120 : decode cX7_readsTwo 120 = .ok (.iadd, 1) := by decide +kernel
theorem dX7_readsTwo_121 : decode cX7_readsTwo 121 = .ok (.iload_n 3, 1) := by decide +kernel
theorem dX7_readsTwo_122 : decode cX7_readsTwo 122 = .ok (.iastore, 1) := by decide +kernel
theorem dX7_readsTwo_123 : decode cX7_readsTwo 123 = .ok (.goto 42, 3) := by decide +kernel
theorem dX7_readsTwo_126 : decode cX7_readsTwo 126 = .ok (.aload_n 0, 1) := by decide +kernel
theorem dX7_readsTwo_127 : decode cX7_readsTwo 127 = .ok (.getfield 13, 3) := by decide +kernel
theorem dX7_readsTwo_130 : decode cX7_readsTwo 130 = .ok (.bipush 8, 2) := by decide +kernel
theorem dX7_readsTwo_132 : decode cX7_readsTwo 132 = .ok (.iload_n 2, 1) := by decide +kernel
theorem dX7_readsTwo_133 : decode cX7_readsTwo 133 = .ok (.iadd, 1) := by decide +kernel
theorem dX7_readsTwo_134 : decode cX7_readsTwo 134 = .ok (.dup2, 1) := by decide +kernel
theorem dX7_readsTwo_135 : decode cX7_readsTwo 135 = .ok (.iaload, 1) := by decide +kernel
theorem dX7_readsTwo_136 : decode cX7_readsTwo 136 = .ok (.iconst 1, 1) := by decide +kernel
theorem dX7_readsTwo_137 : decode cX7_readsTwo 137 = .ok (.iload_n 3, 1) := by decide +kernel
theorem dX7_readsTwo_138 : decode cX7_readsTwo 138 = .ok (.ishl, 1) := by decide +kernel
theorem dX7_readsTwo_139 : decode cX7_readsTwo 139 = .ok (.ior, 1) := by decide +kernel
theorem dX7_readsTwo_140 : decode cX7_readsTwo 140 = .ok (.iastore, 1) := by decide +kernel
theorem dX7_readsTwo_141 : decode cX7_readsTwo 141 = .ok (.aload_n 0, 1) := by decide +kernel
theorem dX7_readsTwo_142 : decode cX7_readsTwo 142 = .ok (.getfield 13, 3) := by decide +kernel
theorem dX7_readsTwo_145 : decode cX7_readsTwo 145 = .ok (.bipush 8, 2) := by decide +kernel
theorem dX7_readsTwo_147 : decode cX7_readsTwo 147 = .ok (.iload_n 3, 1) := by decide +kernel
theorem dX7_readsTwo_148 : decode cX7_readsTwo 148 = .ok (.iadd, 1) := by decide +kernel
theorem dX7_readsTwo_149 : decode cX7_readsTwo 149 = .ok (.dup2, 1) := by decide +kernel
theorem dX7_readsTwo_150 : decode cX7_readsTwo 150 = .ok (.iaload, 1) := by decide +kernel
theorem dX7_readsTwo_151 : decode cX7_readsTwo 151 = .ok (.iload_n 1, 1) := by decide +kernel
theorem dX7_readsTwo_152 : decode cX7_readsTwo 152 = .ok (.iconst 2, 1) := by decide +kernel
theorem dX7_readsTwo_153 : decode cX7_readsTwo 153 = .ok (.if_icmp .ne 9, 3) := by decide +kernel
theorem dX7_readsTwo_156 : decode cX7_readsTwo 156 = .ok (.iconst 1, 1) := by decide +kernel
theorem dX7_readsTwo_157 : decode cX7_readsTwo 157 = .ok (.iload_n 2, 1) := by decide +kernel
theorem dX7_readsTwo_158 : decode cX7_readsTwo 158 = .ok (.ishl, 1) := by decide +kernel
theorem dX7_readsTwo_159 : decode cX7_readsTwo 159 = .ok (.goto 4, 3) := by decide +kernel
theorem dX7_readsTwo_162 : decode cX7_readsTwo 162 = .ok (.iconst 0, 1) := by decide +kernel
theorem dX7_readsTwo_163 : decode cX7_readsTwo 163 = .ok (.ior, 1) := by decide +kernel
theorem dX7_readsTwo_164 : decode cX7_readsTwo 164 = .ok (.iastore, 1) := by decide +kernel
theorem dX7_readsTwo_165 : decode cX7_readsTwo 165 = .ok (.return_, 1) := by decide +kernel
theorem dX7_readsItem_0 : decode cX7_readsItem 0 = .ok (.iload_n 1, 1) := by decide +kernel
theorem dX7_readsItem_1 : decode cX7_readsItem 1 = .ok (.ifCond .ne 43, 3) := by decide +kernel
theorem dX7_readsItem_4 : decode cX7_readsItem 4 = .ok (.aload_n 0, 1) := by decide +kernel
theorem dX7_readsItem_5 : decode cX7_readsItem 5 = .ok (.getfield 13, 3) := by decide +kernel
theorem dX7_readsItem_8 : decode cX7_readsItem 8 = .ok (.bipush 8, 2) := by decide +kernel
theorem dX7_readsItem_10 : decode cX7_readsItem 10 = .ok (.aload_n 0, 1) := by decide +kernel
theorem dX7_readsItem_11 : decode cX7_readsItem 11 = .ok (.getfield 107, 3) := by decide +kernel
theorem dX7_readsItem_14 : decode cX7_readsItem 14 = .ok (.iadd, 1) := by decide +kernel
theorem dX7_readsItem_15 : decode cX7_readsItem 15 = .ok (.iconst 0, 1) := by decide +kernel
theorem dX7_readsItem_16 : decode cX7_readsItem 16 = .ok (.iastore, 1) := by decide +kernel
theorem dX7_readsItem_17 : decode cX7_readsItem 17 = .ok (.aload_n 0, 1) := by decide +kernel
theorem dX7_readsItem_18 : decode cX7_readsItem 18 = .ok (.getfield 16, 3) := by decide +kernel
theorem dX7_readsItem_21 : decode cX7_readsItem 21 = .ok (.bipush 8, 2) := by decide +kernel
theorem dX7_readsItem_23 : decode cX7_readsItem 23 = .ok (.aload_n 0, 1) := by decide +kernel
theorem dX7_readsItem_24 : decode cX7_readsItem 24 = .ok (.getfield 107, 3) := by decide +kernel
theorem dX7_readsItem_27 : decode cX7_readsItem 27 = .ok (.iadd, 1) := by decide +kernel
theorem dX7_readsItem_28 : decode cX7_readsItem 28 = .ok (.bipush (-9), 2) := by decide +kernel
theorem dX7_readsItem_30 : decode cX7_readsItem 30 = .ok (.iastore, 1) := by decide +kernel
theorem dX7_readsItem_31 : decode cX7_readsItem 31 = .ok (.aload_n 0, 1) := by decide +kernel
theorem dX7_readsItem_32 : decode cX7_readsItem 32 = .ok (.dup, 1) := by decide +kernel
theorem dX7_readsItem_33 : decode cX7_readsItem 33 = .ok (.getfield 107, 3) := by decide +kernel
theorem dX7_readsItem_36 : decode cX7_readsItem 36 = .ok (.iconst 1, 1) := by decide +kernel
theorem dX7_readsItem_37 : decode cX7_readsItem 37 = .ok (.iadd, 1) := by decide +kernel
theorem dX7_readsItem_38 : decode cX7_readsItem 38 = .ok (.putfield 107, 3) := by decide +kernel
theorem dX7_readsItem_41 : decode cX7_readsItem 41 = .ok (.goto 104, 3) := by decide +kernel
theorem dX7_readsItem_44 : decode cX7_readsItem 44 = .ok (.iload_n 1, 1) := by decide +kernel
theorem dX7_readsItem_45 : decode cX7_readsItem 45 = .ok (.iconst 4, 1) := by decide +kernel
theorem dX7_readsItem_46 : decode cX7_readsItem 46 = .ok (.if_icmp .ne 22, 3) := by decide +kernel
theorem dX7_readsItem_49 : decode cX7_readsItem 49 = .ok (.aload_n 0, 1) := by decide +kernel
theorem dX7_readsItem_50 : decode cX7_readsItem 50 = .ok (.aload_n 0, 1) := by decide +kernel
theorem dX7_readsItem_51 : decode cX7_readsItem 51 = .ok (.iconst 0, 1) := by decide +kernel
theorem dX7_readsItem_52 : decode cX7_readsItem 52 = .ok (.bipush 9, 2) := by decide +kernel
theorem dX7_readsItem_54 : decode cX7_readsItem 54 = .ok (.invokevirtual 110, 3) := by decide +kernel
theorem dX7_readsItem_57 : decode cX7_readsItem 57 = .ok (.putfield 114, 3) := by decide +kernel
theorem dX7_readsItem_60 : decode cX7_readsItem 60 = .ok (.aload_n 0, 1) := by decide +kernel
theorem dX7_readsItem_61 : decode cX7_readsItem 61 = .ok (.iconst 1, 1) := by decide +kernel
theorem dX7_readsItem_62 : decode cX7_readsItem 62 = .ok (.putfield 117, 3) := by decide +kernel
theorem dX7_readsItem_65 : decode cX7_readsItem 65 = .ok (.goto 80, 3) := by decide +kernel
theorem dX7_readsItem_68 : decode cX7_readsItem 68 = .ok (.iload_n 1, 1) := by decide +kernel
theorem dX7_readsItem_69 : decode cX7_readsItem 69 = .ok (.iconst 5, 1) := by decide +kernel
theorem dX7_readsItem_70 : decode cX7_readsItem 70 = .ok (.if_icmp .ne 70, 3) := by decide +kernel
theorem dX7_readsItem_73 : decode cX7_readsItem 73 = .ok (.aload_n 0, 1) := by decide +kernel
theorem dX7_readsItem_74 : decode cX7_readsItem 74 = .ok (.aload_n 0, 1) := by decide +kernel
theorem dX7_readsItem_75 : decode cX7_readsItem 75 = .ok (.getfield 83, 3) := by decide +kernel
theorem dX7_readsItem_78 : decode cX7_readsItem 78 = .ok (.iconst 1, 1) := by decide +kernel
theorem dX7_readsItem_79 : decode cX7_readsItem 79 = .ok (.if_icmp .ne 16, 3) := by decide +kernel
theorem dX7_readsItem_82 : decode cX7_readsItem 82 = .ok (.aload_n 0, 1) := by decide +kernel
theorem dX7_readsItem_83 : decode cX7_readsItem 83 = .ok (.getfield 90, 3) := by decide +kernel
theorem dX7_readsItem_86 : decode cX7_readsItem 86 = .ok (.bipush 6, 2) := by decide +kernel
theorem dX7_readsItem_88 : decode cX7_readsItem 88 = .ok (.if_icmp .lt 7, 3) := by decide +kernel
theorem dX7_readsItem_91 : decode cX7_readsItem 91 = .ok (.iconst 1, 1) := by decide +kernel
theorem dX7_readsItem_92 : decode cX7_readsItem 92 = .ok (.goto 4, 3) := by decide +kernel
theorem dX7_readsItem_95 : decode cX7_readsItem 95 = .ok (.iconst 0, 1) := by decide +kernel
theorem dX7_readsItem_96 : decode cX7_readsItem 96 = .ok (.invokevirtual 103, 3) := by decide +kernel
theorem dX7_readsItem_99 : decode cX7_readsItem 99 = .ok (.istore_n 2, 1) := by decide +kernel
theorem dX7_readsItem_100 : decode cX7_readsItem 100 = .ok (.aload_n 0, 1) := by decide +kernel
theorem dX7_readsItem_101 : decode cX7_readsItem 101 = .ok (.iload_n 2, 1) := by decide +kernel
theorem dX7_readsItem_102 : decode cX7_readsItem 102 = .ok (.bipush 6, 2) := by decide +kernel
theorem dX7_readsItem_104 : decode cX7_readsItem 104 = .ok (.isub, 1) := by decide +kernel
theorem dX7_readsItem_105 : decode cX7_readsItem 105 = .ok (.putfield 121, 3) := by decide +kernel
theorem dX7_readsItem_108 : decode cX7_readsItem 108 = .ok (.aload_n 0, 1) := by decide +kernel
theorem dX7_readsItem_109 : decode cX7_readsItem 109 = .ok (.invokevirtual 96, 3) := by decide +kernel
theorem dX7_readsItem_112 : decode cX7_readsItem 112 = .ok (.ifCond .eq 20, 3) := by decide +kernel
theorem dX7_readsItem_115 : decode cX7_readsItem 115 = .ok (.iload_n 2, 1) := by decide +kernel
theorem dX7_readsItem_116 : decode cX7_readsItem 116 = .ok (.bipush 8, 2) := by decide +kernel
theorem dX7_readsItem_118 : decode cX7_readsItem 118 = .ok (.if_icmp .ne 14, 3) := by decide +kernel
theorem dX7_readsItem_121 : decode cX7_readsItem 121 = .ok (.aload_n 0, 1) := by decide +kernel
theorem dX7_readsItem_122 : decode cX7_readsItem 122 = .ok (.aload_n 0, 1) := by decide +kernel
theorem dX7_readsItem_123 : decode cX7_readsItem 123 = .ok (.iconst 0, 1) := by decide +kernel
theorem dX7_readsItem_124 : decode cX7_readsItem 124 = .ok (.bipush 7, 2) := by decide +kernel
theorem dX7_readsItem_126 : decode cX7_readsItem 126 = .ok (.invokevirtual 110, 3) := by decide +kernel
theorem dX7_readsItem_129 : decode cX7_readsItem 129 = .ok (.putfield 124, 3) := by decide +kernel
theorem dX7_readsItem_132 : decode cX7_readsItem 132 = .ok (.aload_n 0, 1) := by decide +kernel
theorem dX7_readsItem_133 : decode cX7_readsItem 133 = .ok (.iconst 1, 1) := by decide +kernel
theorem dX7_readsItem_134 : decode cX7_readsItem 134 = .ok (.putfield 127, 3) := by decide +kernel
theorem dX7_readsItem_137 : decode cX7_readsItem 137 = .ok (.goto 8, 3) := by decide +kernel
theorem dX7_readsItem_140 : decode cX7_readsItem 140 = .ok (.aload_n 0, 1) := by decide +kernel
theorem dX7_readsItem_141 : decode cX7_readsItem 141 = .ok (.iload_n 1, 1) := by decide +kernel
theorem dX7_readsItem_142 : decode cX7_readsItem 142 = .ok (.invokevirtual 130, 3) := by decide +kernel
theorem dX7_readsItem_145 : decode cX7_readsItem 145 = .ok (.return_, 1) := by decide +kernel
theorem dX7_town_0 : decode cX7_town 0 = .ok (.aload_n 0, 1) := by decide +kernel
theorem dX7_town_1 : decode cX7_town 1 = .ok (.iconst 0, 1) := by decide +kernel
theorem dX7_town_2 : decode cX7_town 2 = .ok (.putfield 51, 3) := by decide +kernel
theorem dX7_town_5 : decode cX7_town 5 = .ok (.aload_n 0, 1) := by decide +kernel
theorem dX7_town_6 : decode cX7_town 6 = .ok (.iconst (-1), 1) := by decide +kernel
theorem dX7_town_7 : decode cX7_town 7 = .ok (.putfield 93, 3) := by decide +kernel
theorem dX7_town_10 : decode cX7_town 10 = .ok (.aload_n 0, 1) := by decide +kernel
theorem dX7_town_11 : decode cX7_town 11 = .ok (.iconst 0, 1) := by decide +kernel
theorem dX7_town_12 : decode cX7_town 12 = .ok (.putfield 73, 3) := by decide +kernel
theorem dX7_town_15 : decode cX7_town 15 = .ok (.iconst 0, 1) := by decide +kernel
theorem dX7_town_16 : decode cX7_town 16 = .ok (.istore_n 1, 1) := by decide +kernel
theorem dX7_town_17 : decode cX7_town 17 = .ok (.aload_n 0, 1) := by decide +kernel
theorem dX7_town_18 : decode cX7_town 18 = .ok (.iconst 0, 1) := by decide +kernel
theorem dX7_town_19 : decode cX7_town 19 = .ok (.putfield 107, 3) := by decide +kernel
theorem dX7_town_22 : decode cX7_town 22 = .ok (.aload_n 0, 1) := by decide +kernel
theorem dX7_town_23 : decode cX7_town 23 = .ok (.iconst 0, 1) := by decide +kernel
theorem dX7_town_24 : decode cX7_town 24 = .ok (.putfield 114, 3) := by decide +kernel
theorem dX7_town_27 : decode cX7_town 27 = .ok (.aload_n 0, 1) := by decide +kernel
theorem dX7_town_28 : decode cX7_town 28 = .ok (.iconst 0, 1) := by decide +kernel
theorem dX7_town_29 : decode cX7_town 29 = .ok (.putfield 121, 3) := by decide +kernel
theorem dX7_town_32 : decode cX7_town 32 = .ok (.aload_n 0, 1) := by decide +kernel
theorem dX7_town_33 : decode cX7_town 33 = .ok (.iconst 2, 1) := by decide +kernel
theorem dX7_town_34 : decode cX7_town 34 = .ok (.putfield 124, 3) := by decide +kernel
theorem dX7_town_37 : decode cX7_town 37 = .ok (.aload_n 0, 1) := by decide +kernel
theorem dX7_town_38 : decode cX7_town 38 = .ok (.iconst 0, 1) := by decide +kernel
theorem dX7_town_39 : decode cX7_town 39 = .ok (.putfield 117, 3) := by decide +kernel
theorem dX7_town_42 : decode cX7_town 42 = .ok (.aload_n 0, 1) := by decide +kernel
theorem dX7_town_43 : decode cX7_town 43 = .ok (.iconst 0, 1) := by decide +kernel
theorem dX7_town_44 : decode cX7_town 44 = .ok (.putfield 127, 3) := by decide +kernel
theorem dX7_town_47 : decode cX7_town 47 = .ok (.aload_n 0, 1) := by decide +kernel
theorem dX7_town_48 : decode cX7_town 48 = .ok (.invokevirtual 100, 3) := by decide +kernel
theorem dX7_town_51 : decode cX7_town 51 = .ok (.aload_n 0, 1) := by decide +kernel
theorem dX7_town_52 : decode cX7_town 52 = .ok (.invokevirtual 96, 3) := by decide +kernel
theorem dX7_town_55 : decode cX7_town 55 = .ok (.ifCond .eq 152, 3) := by decide +kernel
theorem dX7_town_58 : decode cX7_town 58 = .ok (.aload_n 0, 1) := by decide +kernel
theorem dX7_town_59 : decode cX7_town 59 = .ok (.getfield 83, 3) := by decide +kernel
theorem dX7_town_62 : decode cX7_town 62 = .ok (.ifCond .eq 145, 3) := by decide +kernel
theorem dX7_town_65 : decode cX7_town 65 = .ok (.aload_n 0, 1) := by decide +kernel
theorem dX7_town_66 : decode cX7_town 66 = .ok (.getfield 90, 3) := by decide +kernel
theorem dX7_town_69 : decode cX7_town 69 = .ok (.ifCond .ne 20, 3) := by decide +kernel
theorem dX7_town_72 : decode cX7_town 72 = .ok (.aload_n 0, 1) := by decide +kernel
theorem dX7_town_73 : decode cX7_town 73 = .ok (.getfield 107, 3) := by decide +kernel
theorem dX7_town_76 : decode cX7_town 76 = .ok (.bipush 8, 2) := by decide +kernel
theorem dX7_town_78 : decode cX7_town 78 = .ok (.if_icmp .ge 7, 3) := by decide +kernel
theorem dX7_town_81 : decode cX7_town 81 = .ok (.iconst 1, 1) := by decide +kernel
theorem dX7_town_82 : decode cX7_town 82 = .ok (.goto 66, 3) := by decide +kernel
theorem dX7_town_85 : decode cX7_town 85 = .ok (.iconst 0, 1) := by decide +kernel
theorem dX7_town_86 : decode cX7_town 86 = .ok (.goto 62, 3) := by decide +kernel
theorem dX7_town_89 : decode cX7_town 89 = .ok (.aload_n 0, 1) := by decide +kernel
theorem dX7_town_90 : decode cX7_town 90 = .ok (.getfield 90, 3) := by decide +kernel
theorem dX7_town_93 : decode cX7_town 93 = .ok (.iconst 4, 1) := by decide +kernel
theorem dX7_town_94 : decode cX7_town 94 = .ok (.if_icmp .ne 18, 3) := by decide +kernel
theorem dX7_town_97 : decode cX7_town 97 = .ok (.aload_n 0, 1) := by decide +kernel
theorem dX7_town_98 : decode cX7_town 98 = .ok (.getfield 117, 3) := by decide +kernel
theorem dX7_town_101 : decode cX7_town 101 = .ok (.ifCond .ne 7, 3) := by decide +kernel
theorem dX7_town_104 : decode cX7_town 104 = .ok (.iconst 1, 1) := by decide +kernel
theorem dX7_town_105 : decode cX7_town 105 = .ok (.goto 43, 3) := by decide +kernel
theorem dX7_town_108 : decode cX7_town 108 = .ok (.iconst 0, 1) := by decide +kernel
theorem dX7_town_109 : decode cX7_town 109 = .ok (.goto 39, 3) := by decide +kernel
theorem dX7_town_112 : decode cX7_town 112 = .ok (.aload_n 0, 1) := by decide +kernel
theorem dX7_town_113 : decode cX7_town 113 = .ok (.getfield 90, 3) := by decide +kernel
theorem dX7_town_116 : decode cX7_town 116 = .ok (.iconst 5, 1) := by decide +kernel
theorem dX7_town_117 : decode cX7_town 117 = .ok (.if_icmp .ne 18, 3) := by decide +kernel
theorem dX7_town_120 : decode cX7_town 120 = .ok (.aload_n 0, 1) := by decide +kernel
theorem dX7_town_121 : decode cX7_town 121 = .ok (.getfield 127, 3) := by decide +kernel
theorem dX7_town_124 : decode cX7_town 124 = .ok (.ifCond .ne 7, 3) := by decide +kernel
theorem dX7_town_127 : decode cX7_town 127 = .ok (.iconst 1, 1) := by decide +kernel
theorem dX7_town_128 : decode cX7_town 128 = .ok (.goto 20, 3) := by decide +kernel
theorem dX7_town_131 : decode cX7_town 131 = .ok (.iconst 0, 1) := by decide +kernel
theorem dX7_town_132 : decode cX7_town 132 = .ok (.goto 16, 3) := by decide +kernel
theorem dX7_town_135 : decode cX7_town 135 = .ok (.aload_n 0, 1) := by decide +kernel
theorem dX7_town_136 : decode cX7_town 136 = .ok (.getfield 90, 3) := by decide +kernel
theorem dX7_town_139 : decode cX7_town 139 = .ok (.iconst 4, 1) := by decide +kernel
theorem dX7_town_140 : decode cX7_town 140 = .ok (.if_icmp .ge 7, 3) := by decide +kernel
theorem dX7_town_143 : decode cX7_town 143 = .ok (.iconst 1, 1) := by decide +kernel
theorem dX7_town_144 : decode cX7_town 144 = .ok (.goto 4, 3) := by decide +kernel
theorem dX7_town_147 : decode cX7_town 147 = .ok (.iconst 0, 1) := by decide +kernel
theorem dX7_town_148 : decode cX7_town 148 = .ok (.istore_n 2, 1) := by decide +kernel
theorem dX7_town_149 : decode cX7_town 149 = .ok (.aload_n 0, 1) := by decide +kernel
theorem dX7_town_150 : decode cX7_town 150 = .ok (.aload_n 0, 1) := by decide +kernel
theorem dX7_town_151 : decode cX7_town 151 = .ok (.getfield 83, 3) := by decide +kernel
theorem dX7_town_154 : decode cX7_town 154 = .ok (.iconst 1, 1) := by decide +kernel
theorem dX7_town_155 : decode cX7_town 155 = .ok (.if_icmp .ne 11, 3) := by decide +kernel
theorem dX7_town_158 : decode cX7_town 158 = .ok (.iload_n 2, 1) := by decide +kernel
theorem dX7_town_159 : decode cX7_town 159 = .ok (.ifCond .eq 7, 3) := by decide +kernel
theorem dX7_town_162 : decode cX7_town 162 = .ok (.iconst 1, 1) := by decide +kernel
theorem dX7_town_163 : decode cX7_town 163 = .ok (.goto 4, 3) := by decide +kernel
theorem dX7_town_166 : decode cX7_town 166 = .ok (.iconst 0, 1) := by decide +kernel
theorem dX7_town_167 : decode cX7_town 167 = .ok (.invokevirtual 103, 3) := by decide +kernel
theorem dX7_town_170 : decode cX7_town 170 = .ok (.istore_n 3, 1) := by decide +kernel
theorem dX7_town_171 : decode cX7_town 171 = .ok (.aload_n 0, 1) := by decide +kernel
theorem dX7_town_172 : decode cX7_town 172 = .ok (.invokevirtual 96, 3) := by decide +kernel
theorem dX7_town_175 : decode cX7_town 175 = .ok (.ifCond .eq 8, 3) := by decide +kernel
theorem dX7_town_178 : decode cX7_town 178 = .ok (.aload_n 0, 1) := by decide +kernel
theorem dX7_town_179 : decode cX7_town 179 = .ok (.iload_n 3, 1) := by decide +kernel
theorem dX7_town_180 : decode cX7_town 180 = .ok (.invokevirtual 134, 3) := by decide +kernel
theorem dX7_town_183 : decode cX7_town 183 = .ok (.aload_n 0, 1) := by decide +kernel
theorem dX7_town_184 : decode cX7_town 184 = .ok (.aload_n 0, 1) := by decide +kernel
theorem dX7_town_185 : decode cX7_town 185 = .ok (.getfield 83, 3) := by decide +kernel
theorem dX7_town_188 : decode cX7_town 188 = .ok (.iconst 3, 1) := by decide +kernel
theorem dX7_town_189 : decode cX7_town 189 = .ok (.if_icmp .ne 7, 3) := by decide +kernel
theorem dX7_town_192 : decode cX7_town 192 = .ok (.iconst 1, 1) := by decide +kernel
theorem dX7_town_193 : decode cX7_town 193 = .ok (.goto 4, 3) := by decide +kernel
theorem dX7_town_196 : decode cX7_town 196 = .ok (.iconst 0, 1) := by decide +kernel
theorem dX7_town_197 : decode cX7_town 197 = .ok (.invokevirtual 103, 3) := by decide +kernel
theorem dX7_town_200 : decode cX7_town 200 = .ok (.pop, 1) := by decide +kernel
theorem dX7_town_201 : decode cX7_town 201 = .ok (.iinc 1 1, 3) := by decide +kernel
theorem dX7_town_204 : decode cX7_town 204 = .ok (.goto (-153), 3) := by decide +kernel
theorem dX7_town_207 : decode cX7_town 207 = .ok (.aload_n 0, 1) := by decide +kernel
theorem dX7_town_208 : decode cX7_town 208 = .ok (.invokevirtual 96, 3) := by decide +kernel
theorem dX7_town_211 : decode cX7_town 211 = .ok (.ifCond .ne 11, 3) := by decide +kernel
theorem dX7_town_214 : decode cX7_town 214 = .ok (.bipush (-10), 2) := by decide +kernel
theorem dX7_town_216 : decode cX7_town 216 = .ok (.aload_n 0, 1) := by decide +kernel
theorem dX7_town_217 : decode cX7_town 217 = .ok (.getfield 93, 3) := by decide +kernel
theorem dX7_town_220 : decode cX7_town 220 = .ok (.isub, 1) := by decide +kernel
theorem dX7_town_221 : decode cX7_town 221 = .ok (.ireturn, 1) := by decide +kernel
theorem dX7_town_222 : decode cX7_town 222 = .ok (.aload_n 0, 1) := by decide +kernel
theorem dX7_town_223 : decode cX7_town 223 = .ok (.aload_n 0, 1) := by decide +kernel
theorem dX7_town_224 : decode cX7_town 224 = .ok (.getfield 107, 3) := by decide +kernel
theorem dX7_town_227 : decode cX7_town 227 = .ok (.putfield 137, 3) := by decide +kernel
theorem dX7_town_230 : decode cX7_town 230 = .ok (.aload_n 0, 1) := by decide +kernel
theorem dX7_town_231 : decode cX7_town 231 = .ok (.aload_n 0, 1) := by decide +kernel
theorem dX7_town_232 : decode cX7_town 232 = .ok (.getfield 114, 3) := by decide +kernel
theorem dX7_town_235 : decode cX7_town 235 = .ok (.putfield 140, 3) := by decide +kernel
theorem dX7_town_238 : decode cX7_town 238 = .ok (.aload_n 0, 1) := by decide +kernel
theorem dX7_town_239 : decode cX7_town 239 = .ok (.aload_n 0, 1) := by decide +kernel
theorem dX7_town_240 : decode cX7_town 240 = .ok (.getfield 121, 3) := by decide +kernel
theorem dX7_town_243 : decode cX7_town 243 = .ok (.putfield 143, 3) := by decide +kernel
theorem dX7_town_246 : decode cX7_town 246 = .ok (.aload_n 0, 1) := by decide +kernel
theorem dX7_town_247 : decode cX7_town 247 = .ok (.aload_n 0, 1) := by decide +kernel
theorem dX7_town_248 : decode cX7_town 248 = .ok (.getfield 124, 3) := by decide +kernel
theorem dX7_town_251 : decode cX7_town 251 = .ok (.putfield 44, 3) := by decide +kernel
theorem dX7_town_254 : decode cX7_town 254 = .ok (.iconst 0, 1) := by decide +kernel
theorem dX7_town_255 : decode cX7_town 255 = .ok (.istore_n 2, 1) := by decide +kernel
theorem dX7_town_256 : decode cX7_town 256 = .ok (.iload_n 2, 1) := by decide +kernel
theorem dX7_town_257 : decode cX7_town 257 = .ok (.bipush 8, 2) := by decide +kernel
theorem dX7_town_259 : decode cX7_town 259 = .ok (.if_icmp .ge 64, 3) := by decide +kernel
theorem dX7_town_262 : decode cX7_town 262 = .ok (.aload_n 0, 1) := by decide +kernel
theorem dX7_town_263 : decode cX7_town 263 = .ok (.getfield 13, 3) := by decide +kernel
theorem dX7_town_266 : decode cX7_town 266 = .ok (.iload_n 2, 1) := by decide +kernel
theorem dX7_town_267 : decode cX7_town 267 = .ok (.iload_n 2, 1) := by decide +kernel
theorem dX7_town_268 : decode cX7_town 268 = .ok (.aload_n 0, 1) := by decide +kernel
theorem dX7_town_269 : decode cX7_town 269 = .ok (.getfield 137, 3) := by decide +kernel
theorem dX7_town_272 : decode cX7_town 272 = .ok (.if_icmp .ge 15, 3) := by decide +kernel
theorem dX7_town_275 : decode cX7_town 275 = .ok (.aload_n 0, 1) := by decide +kernel
theorem dX7_town_276 : decode cX7_town 276 = .ok (.getfield 13, 3) := by decide +kernel
theorem dX7_town_279 : decode cX7_town 279 = .ok (.bipush 8, 2) := by decide +kernel
theorem dX7_town_281 : decode cX7_town 281 = .ok (.iload_n 2, 1) := by decide +kernel
theorem dX7_town_282 : decode cX7_town 282 = .ok (.iadd, 1) := by decide +kernel
theorem dX7_town_283 : decode cX7_town 283 = .ok (.iaload, 1) := by decide +kernel
theorem dX7_town_284 : decode cX7_town 284 = .ok (.goto 4, 3) := by decide +kernel
theorem dX7_town_287 : decode cX7_town 287 = .ok (.iconst 0, 1) := by decide +kernel
theorem dX7_town_288 : decode cX7_town 288 = .ok (.iastore, 1) := by decide +kernel
theorem dX7_town_289 : decode cX7_town 289 = .ok (.aload_n 0, 1) := by decide +kernel
theorem dX7_town_290 : decode cX7_town 290 = .ok (.getfield 16, 3) := by decide +kernel
theorem dX7_town_293 : decode cX7_town 293 = .ok (.iload_n 2, 1) := by decide +kernel
theorem dX7_town_294 : decode cX7_town 294 = .ok (.iload_n 2, 1) := by decide +kernel
theorem dX7_town_295 : decode cX7_town 295 = .ok (.aload_n 0, 1) := by decide +kernel
theorem dX7_town_296 : decode cX7_town 296 = .ok (.getfield 137, 3) := by decide +kernel
theorem dX7_town_299 : decode cX7_town 299 = .ok (.if_icmp .ge 15, 3) := by decide +kernel
theorem dX7_town_302 : decode cX7_town 302 = .ok (.aload_n 0, 1) := by decide +kernel
theorem dX7_town_303 : decode cX7_town 303 = .ok (.getfield 16, 3) := by decide +kernel
theorem dX7_town_306 : decode cX7_town 306 = .ok (.bipush 8, 2) := by decide +kernel
theorem dX7_town_308 : decode cX7_town 308 = .ok (.iload_n 2, 1) := by decide +kernel
theorem dX7_town_309 : decode cX7_town 309 = .ok (.iadd, 1) := by decide +kernel
theorem dX7_town_310 : decode cX7_town 310 = .ok (.iaload, 1) := by decide +kernel
theorem dX7_town_311 : decode cX7_town 311 = .ok (.goto 5, 3) := by decide +kernel
theorem dX7_town_314 : decode cX7_town 314 = .ok (.bipush (-9), 2) := by decide +kernel
theorem dX7_town_316 : decode cX7_town 316 = .ok (.iastore, 1) := by decide +kernel
theorem dX7_town_317 : decode cX7_town 317 = .ok (.iinc 2 1, 3) := by decide +kernel
theorem dX7_town_320 : decode cX7_town 320 = .ok (.goto (-64), 3) := by decide +kernel
theorem dX7_town_323 : decode cX7_town 323 = .ok (.aload_n 0, 1) := by decide +kernel
theorem dX7_town_324 : decode cX7_town 324 = .ok (.iconst 0, 1) := by decide +kernel
theorem dX7_town_325 : decode cX7_town 325 = .ok (.putfield 58, 3) := by decide +kernel
theorem dX7_town_328 : decode cX7_town 328 = .ok (.aload_n 0, 1) := by decide +kernel
theorem dX7_town_329 : decode cX7_town 329 = .ok (.getfield 28, 3) := by decide +kernel
theorem dX7_town_332 : decode cX7_town 332 = .ok (.iconst 0, 1) := by decide +kernel
theorem dX7_town_333 : decode cX7_town 333 = .ok (.iconst 0, 1) := by decide +kernel
theorem dX7_town_334 : decode cX7_town 334 = .ok (.bastore, 1) := by decide +kernel
theorem dX7_town_335 : decode cX7_town 335 = .ok (.aload_n 0, 1) := by decide +kernel
theorem dX7_town_336 : decode cX7_town 336 = .ok (.getfield 28, 3) := by decide +kernel
theorem dX7_town_339 : decode cX7_town 339 = .ok (.iconst 1, 1) := by decide +kernel
theorem dX7_town_340 : decode cX7_town 340 = .ok (.iconst 0, 1) := by decide +kernel
theorem dX7_town_341 : decode cX7_town 341 = .ok (.bastore, 1) := by decide +kernel
theorem dX7_town_342 : decode cX7_town 342 = .ok (.aload_n 0, 1) := by decide +kernel
theorem dX7_town_343 : decode cX7_town 343 = .ok (.invokevirtual 48, 3) := by decide +kernel
theorem dX7_town_346 : decode cX7_town 346 = .ok (.iload_n 1, 1) := by decide +kernel
theorem dX7_town_347 : decode cX7_town 347 = .ok (.ireturn, 1) := by decide +kernel
theorem dX7_begins_0 : decode cX7_begins 0 = .ok (.iconst 0, 1) := by decide +kernel
theorem dX7_begins_1 : decode cX7_begins 1 = .ok (.istore_n 1, 1) := by decide +kernel
theorem dX7_begins_2 : decode cX7_begins 2 = .ok (.iload_n 1, 1) := by decide +kernel
theorem dX7_begins_3 : decode cX7_begins 3 = .ok (.bipush 82, 2) := by decide +kernel
theorem dX7_begins_5 : decode cX7_begins 5 = .ok (.if_icmp .ge 52, 3) := by decide +kernel
theorem dX7_begins_8 : decode cX7_begins 8 = .ok (.aload_n 0, 1) := by decide +kernel
theorem dX7_begins_9 : decode cX7_begins 9 = .ok (.getfield 19, 3) := by decide +kernel
theorem dX7_begins_12 : decode cX7_begins 12 = .ok (.iload_n 1, 1) := by decide +kernel
theorem dX7_begins_13 : decode cX7_begins 13 = .ok (.iload_n 1, 1) := by decide +kernel
theorem dX7_begins_14 : decode cX7_begins 14 = .ok (.bipush 8, 2) := by decide +kernel
theorem dX7_begins_16 : decode cX7_begins 16 = .ok (.if_icmp .ge 12, 3) := by decide +kernel
theorem dX7_begins_19 : decode cX7_begins 19 = .ok (.aload_n 0, 1) := by decide +kernel
theorem dX7_begins_20 : decode cX7_begins 20 = .ok (.getfield 13, 3) := by decide +kernel
theorem dX7_begins_23 : decode cX7_begins 23 = .ok (.iload_n 1, 1) := by decide +kernel
theorem dX7_begins_24 : decode cX7_begins 24 = .ok (.iaload, 1) := by decide +kernel
theorem dX7_begins_25 : decode cX7_begins 25 = .ok (.goto 25, 3) := by decide +kernel
theorem dX7_begins_28 : decode cX7_begins 28 = .ok (.iload_n 1, 1) := by decide +kernel
theorem dX7_begins_29 : decode cX7_begins 29 = .ok (.bipush 72, 2) := by decide +kernel
theorem dX7_begins_31 : decode cX7_begins 31 = .ok (.if_icmp .ge 7, 3) := by decide +kernel
theorem dX7_begins_34 : decode cX7_begins 34 = .ok (.iconst (-1), 1) := by decide +kernel
theorem dX7_begins_35 : decode cX7_begins 35 = .ok (.goto 15, 3) := by decide +kernel
theorem dX7_begins_38 : decode cX7_begins 38 = .ok (.iload_n 1, 1) := by decide +kernel
theorem dX7_begins_39 : decode cX7_begins 39 = .ok (.bipush 81, 2) := by decide +kernel
theorem dX7_begins_41 : decode cX7_begins 41 = .ok (.if_icmp .ne 8, 3) := by decide +kernel
theorem dX7_begins_44 : decode cX7_begins 44 = .ok (.bipush (-9), 2) := by decide +kernel
theorem dX7_begins_46 : decode cX7_begins 46 = .ok (.goto 4, 3) := by decide +kernel
theorem dX7_begins_49 : decode cX7_begins 49 = .ok (.iconst 0, 1) := by decide +kernel
theorem dX7_begins_50 : decode cX7_begins 50 = .ok (.iastore, 1) := by decide +kernel
theorem dX7_begins_51 : decode cX7_begins 51 = .ok (.iinc 1 1, 3) := by decide +kernel
theorem dX7_begins_54 : decode cX7_begins 54 = .ok (.goto (-52), 3) := by decide +kernel
theorem dX7_begins_57 : decode cX7_begins 57 = .ok (.return_, 1) := by decide +kernel
theorem dX7_isPerson_0 : decode cX7_isPerson 0 = .ok (.iload_n 1, 1) := by decide +kernel
theorem dX7_isPerson_1 : decode cX7_isPerson 1 = .ok (.iconst 0, 1) := by decide +kernel
theorem dX7_isPerson_2 : decode cX7_isPerson 2 = .ok (.aload_n 0, 1) := by decide +kernel
theorem dX7_isPerson_3 : decode cX7_isPerson 3 = .ok (.getfield 137, 3) := by decide +kernel
theorem dX7_isPerson_6 : decode cX7_isPerson 6 = .ok (.iconst 1, 1) := by decide +kernel
theorem dX7_isPerson_7 : decode cX7_isPerson 7 = .ok (.isub, 1) := by decide +kernel
theorem dX7_isPerson_8 : decode cX7_isPerson 8 = .ok (.invokestatic 54, 3) := by decide +kernel
theorem dX7_isPerson_11 : decode cX7_isPerson 11 = .ok (.ireturn, 1) := by decide +kernel
theorem dX7_areTwo_0 : decode cX7_areTwo 0 = .ok (.aload_n 0, 1) := by decide +kernel
theorem dX7_areTwo_1 : decode cX7_areTwo 1 = .ok (.iload_n 1, 1) := by decide +kernel
theorem dX7_areTwo_2 : decode cX7_areTwo 2 = .ok (.invokevirtual 146, 3) := by decide +kernel
theorem dX7_areTwo_5 : decode cX7_areTwo 5 = .ok (.ifCond .eq 20, 3) := by decide +kernel
theorem dX7_areTwo_8 : decode cX7_areTwo 8 = .ok (.aload_n 0, 1) := by decide +kernel
theorem dX7_areTwo_9 : decode cX7_areTwo 9 = .ok (.iload_n 2, 1) := by decide +kernel
theorem dX7_areTwo_10 : decode cX7_areTwo 10 = .ok (.invokevirtual 146, 3) := by decide +kernel
theorem dX7_areTwo_13 : decode cX7_areTwo 13 = .ok (.ifCond .eq 12, 3) := by decide +kernel
theorem dX7_areTwo_16 : decode cX7_areTwo 16 = .ok (.iload_n 1, 1) := by decide +kernel
theorem dX7_areTwo_17 : decode cX7_areTwo 17 = .ok (.iload_n 2, 1) := by decide +kernel
theorem dX7_areTwo_18 : decode cX7_areTwo 18 = .ok (.if_icmp .eq 7, 3) := by decide +kernel
theorem dX7_areTwo_21 : decode cX7_areTwo 21 = .ok (.iconst 1, 1) := by decide +kernel
theorem dX7_areTwo_22 : decode cX7_areTwo 22 = .ok (.goto 4, 3) := by decide +kernel
theorem dX7_areTwo_25 : decode cX7_areTwo 25 = .ok (.iconst 0, 1) := by decide +kernel
theorem dX7_areTwo_26 : decode cX7_areTwo 26 = .ok (.ireturn, 1) := by decide +kernel
theorem dX7_isKnown_0 : decode cX7_isKnown 0 = .ok (.aload_n 0, 1) := by decide +kernel
theorem dX7_isKnown_1 : decode cX7_isKnown 1 = .ok (.getfield 19, 3) := by decide +kernel
theorem dX7_isKnown_4 : decode cX7_isKnown 4 = .ok (.iload_n 1, 1) := by decide +kernel
theorem dX7_isKnown_5 : decode cX7_isKnown 5 = .ok (.iaload, 1) := by decide +kernel
theorem dX7_isKnown_6 : decode cX7_isKnown 6 = .ok (.iload_n 2, 1) := by decide +kernel
theorem dX7_isKnown_7 : decode cX7_isKnown 7 = .ok (.ishr, 1) := by decide +kernel
theorem dX7_isKnown_8 : decode cX7_isKnown 8 = .ok (.iconst 1, 1) := by decide +kernel
theorem dX7_isKnown_9 : decode cX7_isKnown 9 = .ok (.iand, 1) := by decide +kernel
theorem dX7_isKnown_10 : decode cX7_isKnown 10 = .ok (.iconst 1, 1) := by decide +kernel
theorem dX7_isKnown_11 : decode cX7_isKnown 11 = .ok (.if_icmp .ne 7, 3) := by decide +kernel
theorem dX7_isKnown_14 : decode cX7_isKnown 14 = .ok (.iconst 1, 1) := by decide +kernel
theorem dX7_isKnown_15 : decode cX7_isKnown 15 = .ok (.goto 4, 3) := by decide +kernel
theorem dX7_isKnown_18 : decode cX7_isKnown 18 = .ok (.iconst 0, 1) := by decide +kernel
theorem dX7_isKnown_19 : decode cX7_isKnown 19 = .ok (.ireturn, 1) := by decide +kernel
theorem dX7_knows_0 : decode cX7_knows 0 = .ok (.aload_n 0, 1) := by decide +kernel
theorem dX7_knows_1 : decode cX7_knows 1 = .ok (.iconst 0, 1) := by decide +kernel
theorem dX7_knows_2 : decode cX7_knows 2 = .ok (.putfield 51, 3) := by decide +kernel
theorem dX7_knows_5 : decode cX7_knows 5 = .ok (.aload_n 0, 1) := by decide +kernel
theorem dX7_knows_6 : decode cX7_knows 6 = .ok (.iload_n 1, 1) := by decide +kernel
theorem dX7_knows_7 : decode cX7_knows 7 = .ok (.iload_n 2, 1) := by decide +kernel
theorem dX7_knows_8 : decode cX7_knows 8 = .ok (.invokevirtual 150, 3) := by decide +kernel
theorem dX7_knows_11 : decode cX7_knows 11 = .ok (.ifCond .ne 7, 3) := by decide +kernel
theorem dX7_knows_14 : decode cX7_knows 14 = .ok (.iconst (-1), 1) := by decide +kernel
theorem dX7_knows_15 : decode cX7_knows 15 = .ok (.goto 17, 3) := by decide +kernel
theorem dX7_knows_18 : decode cX7_knows 18 = .ok (.aload_n 0, 1) := by decide +kernel
theorem dX7_knows_19 : decode cX7_knows 19 = .ok (.iload_n 1, 1) := by decide +kernel
theorem dX7_knows_20 : decode cX7_knows 20 = .ok (.iload_n 2, 1) := by decide +kernel
theorem dX7_knows_21 : decode cX7_knows 21 = .ok (.invokevirtual 154, 3) := by decide +kernel
theorem dX7_knows_24 : decode cX7_knows 24 = .ok (.ifCond .eq 7, 3) := by decide +kernel
theorem dX7_knows_27 : decode cX7_knows 27 = .ok (.iconst 1, 1) := by decide +kernel
theorem dX7_knows_28 : decode cX7_knows 28 = .ok (.goto 4, 3) := by decide +kernel
theorem dX7_knows_31 : decode cX7_knows 31 = .ok (.iconst 0, 1) := by decide +kernel
theorem dX7_knows_32 : decode cX7_knows 32 = .ok (.ireturn, 1) := by decide +kernel
theorem dX7_seen_0 : decode cX7_seen 0 = .ok (.aload_n 0, 1) := by decide +kernel
theorem dX7_seen_1 : decode cX7_seen 1 = .ok (.iconst 0, 1) := by decide +kernel
theorem dX7_seen_2 : decode cX7_seen 2 = .ok (.putfield 51, 3) := by decide +kernel
theorem dX7_seen_5 : decode cX7_seen 5 = .ok (.aload_n 0, 1) := by decide +kernel
theorem dX7_seen_6 : decode cX7_seen 6 = .ok (.iload_n 1, 1) := by decide +kernel
theorem dX7_seen_7 : decode cX7_seen 7 = .ok (.iload_n 2, 1) := by decide +kernel
theorem dX7_seen_8 : decode cX7_seen 8 = .ok (.invokevirtual 150, 3) := by decide +kernel
theorem dX7_seen_11 : decode cX7_seen 11 = .ok (.ifCond .eq 29, 3) := by decide +kernel
theorem dX7_seen_14 : decode cX7_seen 14 = .ok (.aload_n 0, 1) := by decide +kernel
theorem dX7_seen_15 : decode cX7_seen 15 = .ok (.iload_n 1, 1) := by decide +kernel
theorem dX7_seen_16 : decode cX7_seen 16 = .ok (.iload_n 2, 1) := by decide +kernel
theorem dX7_seen_17 : decode cX7_seen 17 = .ok (.invokevirtual 154, 3) := by decide +kernel
theorem dX7_seen_20 : decode cX7_seen 20 = .ok (.ifCond .eq 20, 3) := by decide +kernel
theorem dX7_seen_23 : decode cX7_seen 23 = .ok (.aload_n 0, 1) := by decide +kernel
theorem dX7_seen_24 : decode cX7_seen 24 = .ok (.getfield 19, 3) := by decide +kernel
theorem dX7_seen_27 : decode cX7_seen 27 = .ok (.bipush 8, 2) := by decide +kernel
theorem dX7_seen_29 : decode cX7_seen 29 = .ok (.bipush 8, 2) := by decide +kernel
theorem dX7_seen_31 : decode cX7_seen 31 = .ok (.iload_n 1, 1) := by decide +kernel
theorem dX7_seen_32 : decode cX7_seen 32 = .ok (.imul, 1) := by decide +kernel
theorem dX7_seen_33 : decode cX7_seen 33 = .ok (.iadd, 1) := by decide +kernel
theorem dX7_seen_34 : decode cX7_seen 34 = .ok (.iload_n 2, 1) := by decide +kernel
theorem dX7_seen_35 : decode cX7_seen 35 = .ok (.iadd, 1) := by decide +kernel
theorem dX7_seen_36 : decode cX7_seen 36 = .ok (.iaload, 1) := by decide +kernel
theorem dX7_seen_37 : decode cX7_seen 37 = .ok (.goto 5, 3) := by decide +kernel
theorem dX7_seen_40 : decode cX7_seen 40 = .ok (.ldc 157, 2) := by decide +kernel
theorem dX7_seen_42 : decode cX7_seen 42 = .ok (.ireturn, 1) := by decide +kernel
theorem dX7_countOf_0 : decode cX7_countOf 0 = .ok (.iconst 0, 1) := by decide +kernel
theorem dX7_countOf_1 : decode cX7_countOf 1 = .ok (.istore_n 2, 1) := by decide +kernel
theorem dX7_countOf_2 : decode cX7_countOf 2 = .ok (.iconst 0, 1) := by decide +kernel
theorem dX7_countOf_3 : decode cX7_countOf 3 = .ok (.istore_n 3, 1) := by decide +kernel
theorem dX7_countOf_4 : decode cX7_countOf 4 = .ok (.iload_n 3, 1) := by decide +kernel
theorem dX7_countOf_5 : decode cX7_countOf 5 = .ok (.aload_n 0, 1) := by decide +kernel
theorem dX7_countOf_6 : decode cX7_countOf 6 = .ok (.getfield 137, 3) := by decide +kernel
theorem dX7_countOf_9 : decode cX7_countOf 9 = .ok (.if_icmp .ge 22, 3) := by decide +kernel
theorem dX7_countOf_12 : decode cX7_countOf 12 = .ok (.iload_n 2, 1) := by decide +kernel
theorem dX7_countOf_13 : decode cX7_countOf 13 = .ok (.aload_n 0, 1) := by decide +kernel
theorem dX7_countOf_14 : decode cX7_countOf 14 = .ok (.getfield 19, 3) := by decide +kernel
theorem dX7_countOf_17 : decode cX7_countOf 17 = .ok (.iload_n 3, 1) := by decide +kernel
theorem dX7_countOf_18 : decode cX7_countOf 18 = .ok (.iaload, 1) := by decide +kernel
theorem dX7_countOf_19 : decode cX7_countOf 19 = .ok (.iload_n 1, 1) := by decide +kernel
theorem dX7_countOf_20 : decode cX7_countOf 20 = .ok (.ishr, 1) := by decide +kernel
theorem dX7_countOf_21 : decode cX7_countOf 21 = .ok (.iconst 1, 1) := by decide +kernel
theorem dX7_countOf_22 : decode cX7_countOf 22 = .ok (.iand, 1) := by decide +kernel
theorem dX7_countOf_23 : decode cX7_countOf 23 = .ok (.iadd, 1) := by decide +kernel
theorem dX7_countOf_24 : decode cX7_countOf 24 = .ok (.istore_n 2, 1) := by decide +kernel
theorem dX7_countOf_25 : decode cX7_countOf 25 = .ok (.iinc 3 1, 3) := by decide +kernel
theorem dX7_countOf_28 : decode cX7_countOf 28 = .ok (.goto (-24), 3) := by decide +kernel
theorem dX7_countOf_31 : decode cX7_countOf 31 = .ok (.iload_n 2, 1) := by decide +kernel
theorem dX7_countOf_32 : decode cX7_countOf 32 = .ok (.ireturn, 1) := by decide +kernel
theorem dX7_ones_0 : decode cX7_ones 0 = .ok (.iconst 0, 1) := by decide +kernel
theorem dX7_ones_1 : decode cX7_ones 1 = .ok (.istore_n 1, 1) := by decide +kernel
theorem dX7_ones_2 : decode cX7_ones 2 = .ok (.iconst 0, 1) := by decide +kernel
theorem dX7_ones_3 : decode cX7_ones 3 = .ok (.istore_n 2, 1) := by decide +kernel
theorem dX7_ones_4 : decode cX7_ones 4 = .ok (.iload_n 2, 1) := by decide +kernel
theorem dX7_ones_5 : decode cX7_ones 5 = .ok (.bipush 8, 2) := by decide +kernel
theorem dX7_ones_7 : decode cX7_ones 7 = .ok (.if_icmp .ge 17, 3) := by decide +kernel
theorem dX7_ones_10 : decode cX7_ones 10 = .ok (.iload_n 1, 1) := by decide +kernel
theorem dX7_ones_11 : decode cX7_ones 11 = .ok (.iload_n 0, 1) := by decide +kernel
theorem dX7_ones_12 : decode cX7_ones 12 = .ok (.iload_n 2, 1) := by decide +kernel
theorem dX7_ones_13 : decode cX7_ones 13 = .ok (.ishr, 1) := by decide +kernel
theorem dX7_ones_14 : decode cX7_ones 14 = .ok (.iconst 1, 1) := by decide +kernel
theorem dX7_ones_15 : decode cX7_ones 15 = .ok (.iand, 1) := by decide +kernel
theorem dX7_ones_16 : decode cX7_ones 16 = .ok (.iadd, 1) := by decide +kernel
theorem dX7_ones_17 : decode cX7_ones 17 = .ok (.istore_n 1, 1) := by decide +kernel
theorem dX7_ones_18 : decode cX7_ones 18 = .ok (.iinc 2 1, 3) := by decide +kernel
theorem dX7_ones_21 : decode cX7_ones 21 = .ok (.goto (-17), 3) := by decide +kernel
theorem dX7_ones_24 : decode cX7_ones 24 = .ok (.iload_n 1, 1) := by decide +kernel
theorem dX7_ones_25 : decode cX7_ones 25 = .ok (.ireturn, 1) := by decide +kernel
theorem dX7_person_0 : decode cX7_person 0 = .ok (.aload_n 0, 1) := by decide +kernel
theorem dX7_person_1 : decode cX7_person 1 = .ok (.iconst 0, 1) := by decide +kernel
theorem dX7_person_2 : decode cX7_person 2 = .ok (.putfield 51, 3) := by decide +kernel
theorem dX7_person_5 : decode cX7_person 5 = .ok (.aload_n 0, 1) := by decide +kernel
theorem dX7_person_6 : decode cX7_person 6 = .ok (.iload_n 1, 1) := by decide +kernel
theorem dX7_person_7 : decode cX7_person 7 = .ok (.invokevirtual 146, 3) := by decide +kernel
theorem dX7_person_10 : decode cX7_person 10 = .ok (.ifCond .eq 12, 3) := by decide +kernel
theorem dX7_person_13 : decode cX7_person 13 = .ok (.iload_n 2, 1) := by decide +kernel
theorem dX7_person_14 : decode cX7_person 14 = .ok (.iconst 0, 1) := by decide +kernel
theorem dX7_person_15 : decode cX7_person 15 = .ok (.iconst 3, 1) := by decide +kernel
theorem dX7_person_16 : decode cX7_person 16 = .ok (.invokestatic 54, 3) := by decide +kernel
theorem dX7_person_19 : decode cX7_person 19 = .ok (.ifCond .ne 5, 3) := by decide +kernel
theorem dX7_person_22 : decode cX7_person 22 = .ok (.iconst (-1), 1) := by decide +kernel
theorem dX7_person_23 : decode cX7_person 23 = .ok (.ireturn, 1) := by decide +kernel
theorem dX7_person_24 : decode cX7_person 24 = .ok (.iload_n 2, 1) := by decide +kernel
theorem dX7_person_25 : decode cX7_person 25 = .ok (.ifCond .ne 11, 3) := by decide +kernel
theorem dX7_person_28 : decode cX7_person 28 = .ok (.aload_n 0, 1) := by decide +kernel
theorem dX7_person_29 : decode cX7_person 29 = .ok (.iload_n 1, 1) := by decide +kernel
theorem dX7_person_30 : decode cX7_person 30 = .ok (.invokevirtual 158, 3) := by decide +kernel
theorem dX7_person_33 : decode cX7_person 33 = .ok (.goto 43, 3) := by decide +kernel
theorem dX7_person_36 : decode cX7_person 36 = .ok (.iload_n 2, 1) := by decide +kernel
theorem dX7_person_37 : decode cX7_person 37 = .ok (.iconst 1, 1) := by decide +kernel
theorem dX7_person_38 : decode cX7_person 38 = .ok (.if_icmp .ne 15, 3) := by decide +kernel
theorem dX7_person_41 : decode cX7_person 41 = .ok (.aload_n 0, 1) := by decide +kernel
theorem dX7_person_42 : decode cX7_person 42 = .ok (.getfield 19, 3) := by decide +kernel
theorem dX7_person_45 : decode cX7_person 45 = .ok (.iload_n 1, 1) := by decide +kernel
theorem dX7_person_46 : decode cX7_person 46 = .ok (.iaload, 1) := by decide +kernel
theorem dX7_person_47 : decode cX7_person 47 = .ok (.invokestatic 161, 3) := by decide +kernel
theorem dX7_person_50 : decode cX7_person 50 = .ok (.goto 26, 3) := by decide +kernel
theorem dX7_person_53 : decode cX7_person 53 = .ok (.iload_n 2, 1) := by decide +kernel
theorem dX7_person_54 : decode cX7_person 54 = .ok (.iconst 2, 1) := by decide +kernel
theorem dX7_person_55 : decode cX7_person 55 = .ok (.if_icmp .ne 12, 3) := by decide +kernel
theorem dX7_person_58 : decode cX7_person 58 = .ok (.aload_n 0, 1) := by decide +kernel
theorem dX7_person_59 : decode cX7_person 59 = .ok (.getfield 16, 3) := by decide +kernel
theorem dX7_person_62 : decode cX7_person 62 = .ok (.iload_n 1, 1) := by decide +kernel
theorem dX7_person_63 : decode cX7_person 63 = .ok (.iaload, 1) := by decide +kernel
theorem dX7_person_64 : decode cX7_person 64 = .ok (.goto 12, 3) := by decide +kernel
theorem dX7_person_67 : decode cX7_person 67 = .ok (.aload_n 0, 1) := by decide +kernel
theorem dX7_person_68 : decode cX7_person 68 = .ok (.getfield 19, 3) := by decide +kernel
theorem dX7_person_71 : decode cX7_person 71 = .ok (.bipush 73, 2) := by decide +kernel
theorem dX7_person_73 : decode cX7_person 73 = .ok (.iload_n 1, 1) := by decide +kernel
theorem dX7_person_74 : decode cX7_person 74 = .ok (.iadd, 1) := by decide +kernel
theorem dX7_person_75 : decode cX7_person 75 = .ok (.iaload, 1) := by decide +kernel
theorem dX7_person_76 : decode cX7_person 76 = .ok (.ireturn, 1) := by decide +kernel
theorem dX7_law_0 : decode cX7_law 0 = .ok (.aload_n 0, 1) := by decide +kernel
theorem dX7_law_1 : decode cX7_law 1 = .ok (.iconst 0, 1) := by decide +kernel
theorem dX7_law_2 : decode cX7_law 2 = .ok (.putfield 51, 3) := by decide +kernel
theorem dX7_law_5 : decode cX7_law 5 = .ok (.iload_n 1, 1) := by decide +kernel
theorem dX7_law_6 : decode cX7_law 6 = .ok (.ifCond .ne 10, 3) := by decide +kernel
theorem dX7_law_9 : decode cX7_law 9 = .ok (.aload_n 0, 1) := by decide +kernel
theorem dX7_law_10 : decode cX7_law 10 = .ok (.getfield 143, 3) := by decide +kernel
theorem dX7_law_13 : decode cX7_law 13 = .ok (.goto 28, 3) := by decide +kernel
theorem dX7_law_16 : decode cX7_law 16 = .ok (.iload_n 1, 1) := by decide +kernel
theorem dX7_law_17 : decode cX7_law 17 = .ok (.iconst 1, 1) := by decide +kernel
theorem dX7_law_18 : decode cX7_law 18 = .ok (.if_icmp .ne 10, 3) := by decide +kernel
theorem dX7_law_21 : decode cX7_law 21 = .ok (.aload_n 0, 1) := by decide +kernel
theorem dX7_law_22 : decode cX7_law 22 = .ok (.getfield 44, 3) := by decide +kernel
theorem dX7_law_25 : decode cX7_law 25 = .ok (.goto 16, 3) := by decide +kernel
theorem dX7_law_28 : decode cX7_law 28 = .ok (.iload_n 1, 1) := by decide +kernel
theorem dX7_law_29 : decode cX7_law 29 = .ok (.iconst 2, 1) := by decide +kernel
theorem dX7_law_30 : decode cX7_law 30 = .ok (.if_icmp .ne 10, 3) := by decide +kernel
theorem dX7_law_33 : decode cX7_law 33 = .ok (.aload_n 0, 1) := by decide +kernel
theorem dX7_law_34 : decode cX7_law 34 = .ok (.getfield 140, 3) := by decide +kernel
theorem dX7_law_37 : decode cX7_law 37 = .ok (.goto 4, 3) := by decide +kernel
theorem dX7_law_40 : decode cX7_law 40 = .ok (.iconst (-1), 1) := by decide +kernel
theorem dX7_law_41 : decode cX7_law 41 = .ok (.ireturn, 1) := by decide +kernel
theorem dX7_rules_0 : decode cX7_rules 0 = .ok (.aload_n 0, 1) := by decide +kernel
theorem dX7_rules_1 : decode cX7_rules 1 = .ok (.iconst 0, 1) := by decide +kernel
theorem dX7_rules_2 : decode cX7_rules 2 = .ok (.putfield 51, 3) := by decide +kernel
theorem dX7_rules_5 : decode cX7_rules 5 = .ok (.iload_n 1, 1) := by decide +kernel
theorem dX7_rules_6 : decode cX7_rules 6 = .ok (.iconst 0, 1) := by decide +kernel
theorem dX7_rules_7 : decode cX7_rules 7 = .ok (.iconst 3, 1) := by decide +kernel
theorem dX7_rules_8 : decode cX7_rules 8 = .ok (.invokestatic 54, 3) := by decide +kernel
theorem dX7_rules_11 : decode cX7_rules 11 = .ok (.ifCond .eq 22, 3) := by decide +kernel
theorem dX7_rules_14 : decode cX7_rules 14 = .ok (.iload_n 2, 1) := by decide +kernel
theorem dX7_rules_15 : decode cX7_rules 15 = .ok (.iconst 0, 1) := by decide +kernel
theorem dX7_rules_16 : decode cX7_rules 16 = .ok (.iload_n 1, 1) := by decide +kernel
theorem dX7_rules_17 : decode cX7_rules 17 = .ok (.iconst 2, 1) := by decide +kernel
theorem dX7_rules_18 : decode cX7_rules 18 = .ok (.if_icmp .ne 8, 3) := by decide +kernel
theorem dX7_rules_21 : decode cX7_rules 21 = .ok (.bipush 7, 2) := by decide +kernel
theorem dX7_rules_23 : decode cX7_rules 23 = .ok (.goto 4, 3) := by decide +kernel
theorem dX7_rules_26 : decode cX7_rules 26 = .ok (.iconst 0, 1) := by decide +kernel
theorem dX7_rules_27 : decode cX7_rules 27 = .ok (.invokestatic 54, 3) := by decide +kernel
theorem dX7_rules_30 : decode cX7_rules 30 = .ok (.ifCond .ne 5, 3) := by decide +kernel
theorem dX7_rules_33 : decode cX7_rules 33 = .ok (.iconst (-1), 1) := by decide +kernel
theorem dX7_rules_34 : decode cX7_rules 34 = .ok (.ireturn, 1) := by decide +kernel
theorem dX7_rules_35 : decode cX7_rules 35 = .ok (.aload_n 0, 1) := by decide +kernel
theorem dX7_rules_36 : decode cX7_rules 36 = .ok (.getfield 143, 3) := by decide +kernel
theorem dX7_rules_39 : decode cX7_rules 39 = .ok (.istore_n 3, 1) := by decide +kernel
theorem dX7_rules_40 : decode cX7_rules 40 = .ok (.aload_n 0, 1) := by decide +kernel
theorem dX7_rules_41 : decode cX7_rules 41 = .ok (.iload_n 1, 1) := by decide +kernel
theorem dX7_rules_42 : decode cX7_rules 42 = .ok (.putfield 143, 3) := by decide +kernel
theorem dX7_rules_45 : decode cX7_rules 45 = .ok (.aload_n 0, 1) := by decide +kernel
theorem dX7_rules_46 : decode cX7_rules 46 = .ok (.iload_n 1, 1) := by decide +kernel
theorem dX7_rules_47 : decode cX7_rules 47 = .ok (.iconst 2, 1) := by decide +kernel
theorem dX7_rules_48 : decode cX7_rules 48 = .ok (.if_icmp .ne 7, 3) := by decide +kernel
theorem dX7_rules_51 : decode cX7_rules 51 = .ok (.iload_n 2, 1) := by decide +kernel
theorem dX7_rules_52 : decode cX7_rules 52 = .ok (.goto 7, 3) := by decide +kernel
theorem dX7_rules_55 : decode cX7_rules 55 = .ok (.aload_n 0, 1) := by decide +kernel
theorem dX7_rules_56 : decode cX7_rules 56 = .ok (.getfield 44, 3) := by decide +kernel
theorem dX7_rules_59 : decode cX7_rules 59 = .ok (.putfield 44, 3) := by decide +kernel
theorem dX7_rules_62 : decode cX7_rules 62 = .ok (.iload_n 3, 1) := by decide +kernel
theorem dX7_rules_63 : decode cX7_rules 63 = .ok (.ireturn, 1) := by decide +kernel
theorem dX7_leastOf_0 : decode cX7_leastOf 0 = .ok (.bipush (-9), 2) := by decide +kernel
theorem dX7_leastOf_2 : decode cX7_leastOf 2 = .ok (.istore_n 2, 1) := by decide +kernel
theorem dX7_leastOf_3 : decode cX7_leastOf 3 = .ok (.iconst 0, 1) := by decide +kernel
theorem dX7_leastOf_4 : decode cX7_leastOf 4 = .ok (.istore_n 3, 1) := by decide +kernel
theorem dX7_leastOf_5 : decode cX7_leastOf 5 = .ok (.iload_n 3, 1) := by decide +kernel
theorem dX7_leastOf_6 : decode cX7_leastOf 6 = .ok (.aload_n 0, 1) := by decide +kernel
theorem dX7_leastOf_7 : decode cX7_leastOf 7 = .ok (.getfield 137, 3) := by decide +kernel
theorem dX7_leastOf_10 : decode cX7_leastOf 10 = .ok (.if_icmp .ge 55, 3) := by decide +kernel
theorem dX7_leastOf_13 : decode cX7_leastOf 13 = .ok (.iload_n 1, 1) := by decide +kernel
theorem dX7_leastOf_14 : decode cX7_leastOf 14 = .ok (.iload_n 3, 1) := by decide +kernel
theorem dX7_leastOf_15 : decode cX7_leastOf 15 = .ok (.ishr, 1) := by decide +kernel
theorem dX7_leastOf_16 : decode cX7_leastOf 16 = .ok (.iconst 1, 1) := by decide +kernel
theorem dX7_leastOf_17 : decode cX7_leastOf 17 = .ok (.iand, 1) := by decide +kernel
theorem dX7_leastOf_18 : decode cX7_leastOf 18 = .ok (.iconst 1, 1) := by decide +kernel
theorem dX7_leastOf_19 : decode cX7_leastOf 19 = .ok (.if_icmp .ne 7, 3) := by decide +kernel
theorem dX7_leastOf_22 : decode cX7_leastOf 22 = .ok (.iconst 1, 1) := by decide +kernel
theorem dX7_leastOf_23 : decode cX7_leastOf 23 = .ok (.goto 4, 3) := by decide +kernel
theorem dX7_leastOf_26 : decode cX7_leastOf 26 = .ok (.iconst 0, 1) := by decide +kernel
theorem dX7_leastOf_27 : decode cX7_leastOf 27 = .ok (.istore 4, 2) := by decide +kernel
theorem dX7_leastOf_29 : decode cX7_leastOf 29 = .ok (.iload 4, 2) := by decide +kernel
theorem dX7_leastOf_31 : decode cX7_leastOf 31 = .ok (.ifCond .eq 26, 3) := by decide +kernel
theorem dX7_leastOf_34 : decode cX7_leastOf 34 = .ok (.iload_n 2, 1) := by decide +kernel
theorem dX7_leastOf_35 : decode cX7_leastOf 35 = .ok (.bipush (-9), 2) := by decide +kernel
theorem dX7_leastOf_37 : decode cX7_leastOf 37 = .ok (.if_icmp .eq 16, 3) := by decide +kernel
theorem dX7_leastOf_40 : decode cX7_leastOf 40 = .ok (.aload_n 0, 1) := by decide +kernel
theorem dX7_leastOf_41 : decode cX7_leastOf 41 = .ok (.iload_n 3, 1) := by decide +kernel
theorem dX7_leastOf_42 : decode cX7_leastOf 42 = .ok (.invokevirtual 158, 3) := by decide +kernel
theorem dX7_leastOf_45 : decode cX7_leastOf 45 = .ok (.aload_n 0, 1) := by decide +kernel
theorem dX7_leastOf_46 : decode cX7_leastOf 46 = .ok (.iload_n 2, 1) := by decide +kernel
theorem dX7_leastOf_47 : decode cX7_leastOf 47 = .ok (.invokevirtual 158, 3) := by decide +kernel
theorem dX7_leastOf_50 : decode cX7_leastOf 50 = .ok (.if_icmp .ge 7, 3) := by decide +kernel
theorem dX7_leastOf_53 : decode cX7_leastOf 53 = .ok (.iload_n 3, 1) := by decide +kernel
theorem dX7_leastOf_54 : decode cX7_leastOf 54 = .ok (.goto 4, 3) := by decide +kernel
theorem dX7_leastOf_57 : decode cX7_leastOf 57 = .ok (.iload_n 2, 1) := by decide +kernel
theorem dX7_leastOf_58 : decode cX7_leastOf 58 = .ok (.istore_n 2, 1) := by decide +kernel
theorem dX7_leastOf_59 : decode cX7_leastOf 59 = .ok (.iinc 3 1, 3) := by decide +kernel
theorem dX7_leastOf_62 : decode cX7_leastOf 62 = .ok (.goto (-57), 3) := by decide +kernel
theorem dX7_leastOf_65 : decode cX7_leastOf 65 = .ok (.iload_n 2, 1) := by decide +kernel
theorem dX7_leastOf_66 : decode cX7_leastOf 66 = .ok (.ireturn, 1) := by decide +kernel
theorem dX7_chosenNow_0 : decode cX7_chosenNow 0 = .ok (.iconst 1, 1) := by decide +kernel
theorem dX7_chosenNow_1 : decode cX7_chosenNow 1 = .ok (.aload_n 0, 1) := by decide +kernel
theorem dX7_chosenNow_2 : decode cX7_chosenNow 2 = .ok (.getfield 137, 3) := by decide +kernel
theorem dX7_chosenNow_5 : decode cX7_chosenNow 5 = .ok (.ishl, 1) := by decide +kernel
theorem dX7_chosenNow_6 : decode cX7_chosenNow 6 = .ok (.iconst 1, 1) := by decide +kernel
theorem dX7_chosenNow_7 : decode cX7_chosenNow 7 = .ok (.isub, 1) := by decide +kernel
theorem dX7_chosenNow_8 : decode cX7_chosenNow 8 = .ok (.istore_n 1, 1) := by decide +kernel
theorem dX7_chosenNow_9 : decode cX7_chosenNow 9 = .ok (.aload_n 0, 1) := by decide +kernel
theorem dX7_chosenNow_10 : decode cX7_chosenNow 10 = .ok (.iload_n 1, 1) := by decide +kernel
theorem dX7_chosenNow_11 : decode cX7_chosenNow 11 = .ok (.invokevirtual 164, 3) := by decide +kernel
theorem dX7_chosenNow_14 : decode cX7_chosenNow 14 = .ok (.istore_n 2, 1) := by decide +kernel
theorem dX7_chosenNow_15 : decode cX7_chosenNow 15 = .ok (.aload_n 0, 1) := by decide +kernel
theorem dX7_chosenNow_16 : decode cX7_chosenNow 16 = .ok (.getfield 143, 3) := by decide +kernel
theorem dX7_chosenNow_19 : decode cX7_chosenNow 19 = .ok (.iconst 1, 1) := by decide +kernel
theorem dX7_chosenNow_20 : decode cX7_chosenNow 20 = .ok (.if_icmp .ne 27, 3) := by decide +kernel
theorem dX7_chosenNow_23 : decode cX7_chosenNow 23 = .ok (.aload_n 0, 1) := by decide +kernel
theorem dX7_chosenNow_24 : decode cX7_chosenNow 24 = .ok (.getfield 137, 3) := by decide +kernel
theorem dX7_chosenNow_27 : decode cX7_chosenNow 27 = .ok (.iconst 1, 1) := by decide +kernel
theorem dX7_chosenNow_28 : decode cX7_chosenNow 28 = .ok (.if_icmp .ne 7, 3) := by decide +kernel
theorem dX7_chosenNow_31 : decode cX7_chosenNow 31 = .ok (.iload_n 2, 1) := by decide +kernel
theorem dX7_chosenNow_32 : decode cX7_chosenNow 32 = .ok (.goto 14, 3) := by decide +kernel
theorem dX7_chosenNow_35 : decode cX7_chosenNow 35 = .ok (.aload_n 0, 1) := by decide +kernel
theorem dX7_chosenNow_36 : decode cX7_chosenNow 36 = .ok (.iload_n 1, 1) := by decide +kernel
theorem dX7_chosenNow_37 : decode cX7_chosenNow 37 = .ok (.iconst 1, 1) := by decide +kernel
theorem dX7_chosenNow_38 : decode cX7_chosenNow 38 = .ok (.iload_n 2, 1) := by decide +kernel
theorem dX7_chosenNow_39 : decode cX7_chosenNow 39 = .ok (.ishl, 1) := by decide +kernel
theorem dX7_chosenNow_40 : decode cX7_chosenNow 40 = .ok (.iconst (-1), 1) := by decide +kernel
theorem dX7_chosenNow_41 : decode cX7_chosenNow 41 = .ok (.ixor, 1) := by decide +kernel
theorem dX7_chosenNow_42 : decode cX7_chosenNow 42 = .ok (.iand, 1) := by decide +kernel
theorem dX7_chosenNow_43 : decode cX7_chosenNow 43 = .ok (.invokevirtual 164, 3) := by decide +kernel
theorem dX7_chosenNow_46 : decode cX7_chosenNow 46 = .ok (.ireturn, 1) := by decide +kernel
theorem dX7_chosenNow_47 : decode cX7_chosenNow 47 = .ok (.aload_n 0, 1) := by decide +kernel
theorem dX7_chosenNow_48 : decode cX7_chosenNow 48 = .ok (.getfield 143, 3) := by decide +kernel
theorem dX7_chosenNow_51 : decode cX7_chosenNow 51 = .ok (.iconst 2, 1) := by decide +kernel
theorem dX7_chosenNow_52 : decode cX7_chosenNow 52 = .ok (.if_icmp .ne 33, 3) := by decide +kernel
theorem dX7_chosenNow_55 : decode cX7_chosenNow 55 = .ok (.iconst 0, 1) := by decide +kernel
theorem dX7_chosenNow_56 : decode cX7_chosenNow 56 = .ok (.istore_n 3, 1) := by decide +kernel
theorem dX7_chosenNow_57 : decode cX7_chosenNow 57 = .ok (.iload_n 3, 1) := by decide +kernel
theorem dX7_chosenNow_58 : decode cX7_chosenNow 58 = .ok (.aload_n 0, 1) := by decide +kernel
theorem dX7_chosenNow_59 : decode cX7_chosenNow 59 = .ok (.getfield 137, 3) := by decide +kernel
theorem dX7_chosenNow_62 : decode cX7_chosenNow 62 = .ok (.if_icmp .ge 23, 3) := by decide +kernel
theorem dX7_chosenNow_65 : decode cX7_chosenNow 65 = .ok (.aload_n 0, 1) := by decide +kernel
theorem dX7_chosenNow_66 : decode cX7_chosenNow 66 = .ok (.iload_n 3, 1) := by decide +kernel
theorem dX7_chosenNow_67 : decode cX7_chosenNow 67 = .ok (.invokevirtual 158, 3) := by decide +kernel
theorem dX7_chosenNow_70 : decode cX7_chosenNow 70 = .ok (.aload_n 0, 1) := by decide +kernel
theorem dX7_chosenNow_71 : decode cX7_chosenNow 71 = .ok (.getfield 44, 3) := by decide +kernel
theorem dX7_chosenNow_74 : decode cX7_chosenNow 74 = .ok (.if_icmp .ne 5, 3) := by decide +kernel
theorem dX7_chosenNow_77 : decode cX7_chosenNow 77 = .ok (.iload_n 3, 1) := by decide +kernel
theorem dX7_chosenNow_78 : decode cX7_chosenNow 78 = .ok (.ireturn, 1) := by decide +kernel
theorem dX7_chosenNow_79 : decode cX7_chosenNow 79 = .ok (.iinc 3 1, 3) := by decide +kernel
theorem dX7_chosenNow_82 : decode cX7_chosenNow 82 = .ok (.goto (-25), 3) := by decide +kernel
theorem dX7_chosenNow_85 : decode cX7_chosenNow 85 = .ok (.aload_n 0, 1) := by decide +kernel
theorem dX7_chosenNow_86 : decode cX7_chosenNow 86 = .ok (.getfield 143, 3) := by decide +kernel
theorem dX7_chosenNow_89 : decode cX7_chosenNow 89 = .ok (.iconst 3, 1) := by decide +kernel
theorem dX7_chosenNow_90 : decode cX7_chosenNow 90 = .ok (.if_icmp .ne 61, 3) := by decide +kernel
theorem dX7_chosenNow_93 : decode cX7_chosenNow 93 = .ok (.iconst 0, 1) := by decide +kernel
theorem dX7_chosenNow_94 : decode cX7_chosenNow 94 = .ok (.istore_n 3, 1) := by decide +kernel
theorem dX7_chosenNow_95 : decode cX7_chosenNow 95 = .ok (.iconst 0, 1) := by decide +kernel
theorem dX7_chosenNow_96 : decode cX7_chosenNow 96 = .ok (.istore 4, 2) := by decide +kernel
theorem dX7_chosenNow_98 : decode cX7_chosenNow 98 = .ok (.iload 4, 2) := by decide +kernel
theorem dX7_chosenNow_100 : decode cX7_chosenNow 100 = .ok (.aload_n 0, 1) := by decide +kernel
theorem dX7_chosenNow_101 : decode cX7_chosenNow 101 = .ok (.getfield 137, 3) := by decide +kernel
theorem dX7_chosenNow_104 : decode cX7_chosenNow 104 = .ok (.if_icmp .ge 33, 3) := by decide +kernel
theorem dX7_chosenNow_107 : decode cX7_chosenNow 107 = .ok (.iload_n 3, 1) := by decide +kernel
theorem dX7_chosenNow_108 : decode cX7_chosenNow 108 = .ok (.aload_n 0, 1) := by decide +kernel
theorem dX7_chosenNow_109 : decode cX7_chosenNow 109 = .ok (.getfield 19, 3) := by decide +kernel
theorem dX7_chosenNow_112 : decode cX7_chosenNow 112 = .ok (.bipush 73, 2) := by decide +kernel
theorem dX7_chosenNow_114 : decode cX7_chosenNow 114 = .ok (.iload 4, 2) := by decide +kernel
theorem dX7_chosenNow_116 : decode cX7_chosenNow 116 = .ok (.iadd, 1) := by decide +kernel
theorem dX7_chosenNow_117 : decode cX7_chosenNow 117 = .ok (.iaload, 1) := by decide +kernel
theorem dX7_chosenNow_118 : decode cX7_chosenNow 118 = .ok (.ifCond .ne 10, 3) := by decide +kernel
theorem dX7_chosenNow_121 : decode cX7_chosenNow 121 = .ok (.iconst 1, 1) := by decide +kernel
theorem dX7_chosenNow_122 : decode cX7_chosenNow 122 = .ok (.iload 4, 2) := by decide +kernel
theorem dX7_chosenNow_124 : decode cX7_chosenNow 124 = .ok (.ishl, 1) := by decide +kernel
theorem dX7_chosenNow_125 : decode cX7_chosenNow 125 = .ok (.goto 4, 3) := by decide +kernel
theorem dX7_chosenNow_128 : decode cX7_chosenNow 128 = .ok (.iconst 0, 1) := by decide +kernel
theorem dX7_chosenNow_129 : decode cX7_chosenNow 129 = .ok (.ior, 1) := by decide +kernel
theorem dX7_chosenNow_130 : decode cX7_chosenNow 130 = .ok (.istore_n 3, 1) := by decide +kernel
theorem dX7_chosenNow_131 : decode cX7_chosenNow 131 = .ok (.iinc 4 1, 3) := by decide +kernel
theorem dX7_chosenNow_134 : decode cX7_chosenNow 134 = .ok (.goto (-36), 3) := by decide +kernel
theorem dX7_chosenNow_137 : decode cX7_chosenNow 137 = .ok (.iload_n 3, 1) := by decide +kernel
theorem dX7_chosenNow_138 : decode cX7_chosenNow 138 = .ok (.ifCond .ne 7, 3) := by decide +kernel
theorem dX7_chosenNow_141 : decode cX7_chosenNow 141 = .ok (.iload_n 2, 1) := by decide +kernel
theorem dX7_chosenNow_142 : decode cX7_chosenNow 142 = .ok (.goto 8, 3) := by decide +kernel
theorem dX7_chosenNow_145 : decode cX7_chosenNow 145 = .ok (.aload_n 0, 1) := by decide +kernel
theorem dX7_chosenNow_146 : decode cX7_chosenNow 146 = .ok (.iload_n 3, 1) := by decide +kernel
theorem dX7_chosenNow_147 : decode cX7_chosenNow 147 = .ok (.invokevirtual 164, 3) := by decide +kernel
theorem dX7_chosenNow_150 : decode cX7_chosenNow 150 = .ok (.ireturn, 1) := by decide +kernel
theorem dX7_chosenNow_151 : decode cX7_chosenNow 151 = .ok (.iload_n 2, 1) := by decide +kernel
theorem dX7_chosenNow_152 : decode cX7_chosenNow 152 = .ok (.ireturn, 1) := by decide +kernel
theorem dX7_chosen_0 : decode cX7_chosen 0 = .ok (.aload_n 0, 1) := by decide +kernel
theorem dX7_chosen_1 : decode cX7_chosen 1 = .ok (.iconst 0, 1) := by decide +kernel
theorem dX7_chosen_2 : decode cX7_chosen 2 = .ok (.putfield 51, 3) := by decide +kernel
theorem dX7_chosen_5 : decode cX7_chosen 5 = .ok (.aload_n 0, 1) := by decide +kernel
theorem dX7_chosen_6 : decode cX7_chosen 6 = .ok (.getfield 137, 3) := by decide +kernel
theorem dX7_chosen_9 : decode cX7_chosen 9 = .ok (.ifCond .ne 8, 3) := by decide +kernel
theorem dX7_chosen_12 : decode cX7_chosen 12 = .ok (.bipush (-2), 2) := by decide +kernel
theorem dX7_chosen_14 : decode cX7_chosen 14 = .ok (.goto 7, 3) := by decide +kernel
theorem dX7_chosen_17 : decode cX7_chosen 17 = .ok (.aload_n 0, 1) := by decide +kernel
theorem dX7_chosen_18 : decode cX7_chosen 18 = .ok (.invokevirtual 167, 3) := by decide +kernel
theorem dX7_chosen_21 : decode cX7_chosen 21 = .ok (.ireturn, 1) := by decide +kernel
theorem dX7_learns_0 : decode cX7_learns 0 = .ok (.aload_n 0, 1) := by decide +kernel
theorem dX7_learns_1 : decode cX7_learns 1 = .ok (.iload_n 1, 1) := by decide +kernel
theorem dX7_learns_2 : decode cX7_learns 2 = .ok (.iload_n 2, 1) := by decide +kernel
theorem dX7_learns_3 : decode cX7_learns 3 = .ok (.invokevirtual 154, 3) := by decide +kernel
theorem dX7_learns_6 : decode cX7_learns 6 = .ok (.ifCond .eq 7, 3) := by decide +kernel
theorem dX7_learns_9 : decode cX7_learns 9 = .ok (.iconst 0, 1) := by decide +kernel
theorem dX7_learns_10 : decode cX7_learns 10 = .ok (.goto 4, 3) := by decide +kernel
theorem dX7_learns_13 : decode cX7_learns 13 = .ok (.iconst 1, 1) := by decide +kernel
theorem dX7_learns_14 : decode cX7_learns 14 = .ok (.istore_n 3, 1) := by decide +kernel
theorem dX7_learns_15 : decode cX7_learns 15 = .ok (.aload_n 0, 1) := by decide +kernel
theorem dX7_learns_16 : decode cX7_learns 16 = .ok (.getfield 19, 3) := by decide +kernel
theorem dX7_learns_19 : decode cX7_learns 19 = .ok (.iload_n 1, 1) := by decide +kernel
theorem dX7_learns_20 : decode cX7_learns 20 = .ok (.dup2, 1) := by decide +kernel
theorem dX7_learns_21 : decode cX7_learns 21 = .ok (.iaload, 1) := by decide +kernel
theorem dX7_learns_22 : decode cX7_learns 22 = .ok (.iconst 1, 1) := by decide +kernel
theorem dX7_learns_23 : decode cX7_learns 23 = .ok (.iload_n 2, 1) := by decide +kernel
theorem dX7_learns_24 : decode cX7_learns 24 = .ok (.ishl, 1) := by decide +kernel
theorem dX7_learns_25 : decode cX7_learns 25 = .ok (.ior, 1) := by decide +kernel
theorem dX7_learns_26 : decode cX7_learns 26 = .ok (.iastore, 1) := by decide +kernel
theorem dX7_learns_27 : decode cX7_learns 27 = .ok (.aload_n 0, 1) := by decide +kernel
theorem dX7_learns_28 : decode cX7_learns 28 = .ok (.getfield 19, 3) := by decide +kernel
theorem dX7_learns_31 : decode cX7_learns 31 = .ok (.bipush 8, 2) := by decide +kernel
theorem dX7_learns_33 : decode cX7_learns 33 = .ok (.bipush 8, 2) := by decide +kernel
theorem dX7_learns_35 : decode cX7_learns 35 = .ok (.iload_n 1, 1) := by decide +kernel
theorem dX7_learns_36 : decode cX7_learns 36 = .ok (.imul, 1) := by decide +kernel
theorem dX7_learns_37 : decode cX7_learns 37 = .ok (.iadd, 1) := by decide +kernel
theorem dX7_learns_38 : decode cX7_learns 38 = .ok (.iload_n 2, 1) := by decide +kernel
theorem dX7_learns_39 : decode cX7_learns 39 = .ok (.iadd, 1) := by decide +kernel
theorem dX7_learns_40 : decode cX7_learns 40 = .ok (.aload_n 0, 1) := by decide +kernel
theorem dX7_learns_41 : decode cX7_learns 41 = .ok (.getfield 19, 3) := by decide +kernel
theorem dX7_learns_44 : decode cX7_learns 44 = .ok (.bipush 72, 2) := by decide +kernel
theorem dX7_learns_46 : decode cX7_learns 46 = .ok (.iaload, 1) := by decide +kernel
theorem dX7_learns_47 : decode cX7_learns 47 = .ok (.iastore, 1) := by decide +kernel
theorem dX7_learns_48 : decode cX7_learns 48 = .ok (.iload_n 3, 1) := by decide +kernel
theorem dX7_learns_49 : decode cX7_learns 49 = .ok (.ireturn, 1) := by decide +kernel
theorem dX7_meet_0 : decode cX7_meet 0 = .ok (.aload_n 0, 1) := by decide +kernel
theorem dX7_meet_1 : decode cX7_meet 1 = .ok (.iconst 0, 1) := by decide +kernel
theorem dX7_meet_2 : decode cX7_meet 2 = .ok (.putfield 51, 3) := by decide +kernel
theorem dX7_meet_5 : decode cX7_meet 5 = .ok (.aload_n 0, 1) := by decide +kernel
theorem dX7_meet_6 : decode cX7_meet 6 = .ok (.iload_n 1, 1) := by decide +kernel
theorem dX7_meet_7 : decode cX7_meet 7 = .ok (.iload_n 2, 1) := by decide +kernel
theorem dX7_meet_8 : decode cX7_meet 8 = .ok (.invokevirtual 150, 3) := by decide +kernel
theorem dX7_meet_11 : decode cX7_meet 11 = .ok (.ifCond .eq 19, 3) := by decide +kernel
theorem dX7_meet_14 : decode cX7_meet 14 = .ok (.aload_n 0, 1) := by decide +kernel
theorem dX7_meet_15 : decode cX7_meet 15 = .ok (.iload_n 1, 1) := by decide +kernel
theorem dX7_meet_16 : decode cX7_meet 16 = .ok (.iload_n 2, 1) := by decide +kernel
theorem dX7_meet_17 : decode cX7_meet 17 = .ok (.invokevirtual 171, 3) := by decide +kernel
theorem dX7_meet_20 : decode cX7_meet 20 = .ok (.aload_n 0, 1) := by decide +kernel
theorem dX7_meet_21 : decode cX7_meet 21 = .ok (.iload_n 2, 1) := by decide +kernel
theorem dX7_meet_22 : decode cX7_meet 22 = .ok (.iload_n 1, 1) := by decide +kernel
theorem dX7_meet_23 : decode cX7_meet 23 = .ok (.invokevirtual 171, 3) := by decide +kernel
theorem dX7_meet_26 : decode cX7_meet 26 = .ok (.iadd, 1) := by decide +kernel
theorem dX7_meet_27 : decode cX7_meet 27 = .ok (.goto 4, 3) := by decide +kernel
theorem dX7_meet_30 : decode cX7_meet 30 = .ok (.iconst (-1), 1) := by decide +kernel
theorem dX7_meet_31 : decode cX7_meet 31 = .ok (.ireturn, 1) := by decide +kernel
theorem dX7_introduce_0 : decode cX7_introduce 0 = .ok (.aload_n 0, 1) := by decide +kernel
theorem dX7_introduce_1 : decode cX7_introduce 1 = .ok (.iconst 0, 1) := by decide +kernel
theorem dX7_introduce_2 : decode cX7_introduce 2 = .ok (.putfield 51, 3) := by decide +kernel
theorem dX7_introduce_5 : decode cX7_introduce 5 = .ok (.aload_n 0, 1) := by decide +kernel
theorem dX7_introduce_6 : decode cX7_introduce 6 = .ok (.iload_n 1, 1) := by decide +kernel
theorem dX7_introduce_7 : decode cX7_introduce 7 = .ok (.iload_n 2, 1) := by decide +kernel
theorem dX7_introduce_8 : decode cX7_introduce 8 = .ok (.invokevirtual 150, 3) := by decide +kernel
theorem dX7_introduce_11 : decode cX7_introduce 11 = .ok (.ifCond .eq 21, 3) := by decide +kernel
theorem dX7_introduce_14 : decode cX7_introduce 14 = .ok (.aload_n 0, 1) := by decide +kernel
theorem dX7_introduce_15 : decode cX7_introduce 15 = .ok (.iload_n 1, 1) := by decide +kernel
theorem dX7_introduce_16 : decode cX7_introduce 16 = .ok (.iload_n 3, 1) := by decide +kernel
theorem dX7_introduce_17 : decode cX7_introduce 17 = .ok (.invokevirtual 150, 3) := by decide +kernel
theorem dX7_introduce_20 : decode cX7_introduce 20 = .ok (.ifCond .eq 12, 3) := by decide +kernel
theorem dX7_introduce_23 : decode cX7_introduce 23 = .ok (.aload_n 0, 1) := by decide +kernel
theorem dX7_introduce_24 : decode cX7_introduce 24 = .ok (.iload_n 2, 1) := by decide +kernel
theorem dX7_introduce_25 : decode cX7_introduce 25 = .ok (.iload_n 3, 1) := by decide +kernel
theorem dX7_introduce_26 : decode cX7_introduce 26 = .ok (.invokevirtual 150, 3) := by decide +kernel
theorem dX7_introduce_29 : decode cX7_introduce 29 = .ok (.ifCond .ne 5, 3) := by decide +kernel
theorem dX7_introduce_32 : decode cX7_introduce 32 = .ok (.iconst (-1), 1) := by decide +kernel
theorem dX7_introduce_33 : decode cX7_introduce 33 = .ok (.ireturn, 1) := by decide +kernel
theorem dX7_introduce_34 : decode cX7_introduce 34 = .ok (.aload_n 0, 1) := by decide +kernel
theorem dX7_introduce_35 : decode cX7_introduce 35 = .ok (.iload_n 1, 1) := by decide +kernel
theorem dX7_introduce_36 : decode cX7_introduce 36 = .ok (.iload_n 3, 1) := by decide +kernel
theorem dX7_introduce_37 : decode cX7_introduce 37 = .ok (.invokevirtual 154, 3) := by decide +kernel
theorem dX7_introduce_40 : decode cX7_introduce 40 = .ok (.ifCond .ne 6, 3) := by decide +kernel
theorem dX7_introduce_43 : decode cX7_introduce 43 = .ok (.bipush (-2), 2) := by decide +kernel
theorem dX7_introduce_45 : decode cX7_introduce 45 = .ok (.ireturn, 1) := by decide +kernel
theorem dX7_introduce_46 : decode cX7_introduce 46 = .ok (.aload_n 0, 1) := by decide +kernel
theorem dX7_introduce_47 : decode cX7_introduce 47 = .ok (.iload_n 2, 1) := by decide +kernel
theorem dX7_introduce_48 : decode cX7_introduce 48 = .ok (.iload_n 3, 1) := by decide +kernel
theorem dX7_introduce_49 : decode cX7_introduce 49 = .ok (.invokevirtual 171, 3) := by decide +kernel
theorem dX7_introduce_52 : decode cX7_introduce 52 = .ok (.ireturn, 1) := by decide +kernel
theorem dX7_moves_0 : decode cX7_moves 0 = .ok (.aload_n 0, 1) := by decide +kernel
theorem dX7_moves_1 : decode cX7_moves 1 = .ok (.iconst 0, 1) := by decide +kernel
theorem dX7_moves_2 : decode cX7_moves 2 = .ok (.putfield 51, 3) := by decide +kernel
theorem dX7_moves_5 : decode cX7_moves 5 = .ok (.aload_n 0, 1) := by decide +kernel
theorem dX7_moves_6 : decode cX7_moves 6 = .ok (.iload_n 1, 1) := by decide +kernel
theorem dX7_moves_7 : decode cX7_moves 7 = .ok (.invokevirtual 146, 3) := by decide +kernel
theorem dX7_moves_10 : decode cX7_moves 10 = .ok (.ifCond .ne 5, 3) := by decide +kernel
theorem dX7_moves_13 : decode cX7_moves 13 = .ok (.iconst (-1), 1) := by decide +kernel
theorem dX7_moves_14 : decode cX7_moves 14 = .ok (.ireturn, 1) := by decide +kernel
theorem dX7_moves_15 : decode cX7_moves 15 = .ok (.aload_n 0, 1) := by decide +kernel
theorem dX7_moves_16 : decode cX7_moves 16 = .ok (.iload_n 1, 1) := by decide +kernel
theorem dX7_moves_17 : decode cX7_moves 17 = .ok (.invokevirtual 158, 3) := by decide +kernel
theorem dX7_moves_20 : decode cX7_moves 20 = .ok (.istore_n 2, 1) := by decide +kernel
theorem dX7_moves_21 : decode cX7_moves 21 = .ok (.iconst 0, 1) := by decide +kernel
theorem dX7_moves_22 : decode cX7_moves 22 = .ok (.istore_n 3, 1) := by decide +kernel
theorem dX7_moves_23 : decode cX7_moves 23 = .ok (.iload_n 3, 1) := by decide +kernel
theorem dX7_moves_24 : decode cX7_moves 24 = .ok (.aload_n 0, 1) := by decide +kernel
theorem dX7_moves_25 : decode cX7_moves 25 = .ok (.getfield 137, 3) := by decide +kernel
theorem dX7_moves_28 : decode cX7_moves 28 = .ok (.if_icmp .ge 23, 3) := by decide +kernel
theorem dX7_moves_31 : decode cX7_moves 31 = .ok (.aload_n 0, 1) := by decide +kernel
theorem dX7_moves_32 : decode cX7_moves 32 = .ok (.getfield 19, 3) := by decide +kernel
theorem dX7_moves_35 : decode cX7_moves 35 = .ok (.iload_n 3, 1) := by decide +kernel
theorem dX7_moves_36 : decode cX7_moves 36 = .ok (.dup2, 1) := by decide +kernel
theorem dX7_moves_37 : decode cX7_moves 37 = .ok (.iaload, 1) := by decide +kernel
theorem dX7_moves_38 : decode cX7_moves 38 = .ok (.iconst 1, 1) := by decide +kernel
theorem dX7_moves_39 : decode cX7_moves 39 = .ok (.iload_n 1, 1) := by decide +kernel
theorem dX7_moves_40 : decode cX7_moves 40 = .ok (.ishl, 1) := by decide +kernel
theorem dX7_moves_41 : decode cX7_moves 41 = .ok (.iconst (-1), 1) := by decide +kernel
theorem dX7_moves_42 : decode cX7_moves 42 = .ok (.ixor, 1) := by decide +kernel
theorem dX7_moves_43 : decode cX7_moves 43 = .ok (.iand, 1) := by decide +kernel
theorem dX7_moves_44 : decode cX7_moves 44 = .ok (.iastore, 1) := by decide +kernel
theorem dX7_moves_45 : decode cX7_moves 45 = .ok (.iinc 3 1, 3) := by decide +kernel
theorem dX7_moves_48 : decode cX7_moves 48 = .ok (.goto (-25), 3) := by decide +kernel
theorem dX7_moves_51 : decode cX7_moves 51 = .ok (.iload_n 2, 1) := by decide +kernel
theorem dX7_moves_52 : decode cX7_moves 52 = .ok (.ireturn, 1) := by decide +kernel
theorem dX7_springs_0 : decode cX7_springs 0 = .ok (.iconst 0, 1) := by decide +kernel
theorem dX7_springs_1 : decode cX7_springs 1 = .ok (.istore_n 1, 1) := by decide +kernel
theorem dX7_springs_2 : decode cX7_springs 2 = .ok (.iload_n 1, 1) := by decide +kernel
theorem dX7_springs_3 : decode cX7_springs 3 = .ok (.aload_n 0, 1) := by decide +kernel
theorem dX7_springs_4 : decode cX7_springs 4 = .ok (.getfield 137, 3) := by decide +kernel
theorem dX7_springs_7 : decode cX7_springs 7 = .ok (.if_icmp .ge 44, 3) := by decide +kernel
theorem dX7_springs_10 : decode cX7_springs 10 = .ok (.aload_n 0, 1) := by decide +kernel
theorem dX7_springs_11 : decode cX7_springs 11 = .ok (.getfield 16, 3) := by decide +kernel
theorem dX7_springs_14 : decode cX7_springs 14 = .ok (.iload_n 1, 1) := by decide +kernel
theorem dX7_springs_15 : decode cX7_springs 15 = .ok (.iaload, 1) := by decide +kernel
theorem dX7_springs_16 : decode cX7_springs 16 = .ok (.bipush (-9), 2) := by decide +kernel
theorem dX7_springs_18 : decode cX7_springs 18 = .ok (.if_icmp .eq 27, 3) := by decide +kernel
theorem dX7_springs_21 : decode cX7_springs 21 = .ok (.aload_n 0, 1) := by decide +kernel
theorem dX7_springs_22 : decode cX7_springs 22 = .ok (.iload_n 1, 1) := by decide +kernel
theorem dX7_springs_23 : decode cX7_springs 23 = .ok (.aload_n 0, 1) := by decide +kernel
theorem dX7_springs_24 : decode cX7_springs 24 = .ok (.getfield 16, 3) := by decide +kernel
theorem dX7_springs_27 : decode cX7_springs 27 = .ok (.iload_n 1, 1) := by decide +kernel
theorem dX7_springs_28 : decode cX7_springs 28 = .ok (.iaload, 1) := by decide +kernel
theorem dX7_springs_29 : decode cX7_springs 29 = .ok (.invokevirtual 171, 3) := by decide +kernel
theorem dX7_springs_32 : decode cX7_springs 32 = .ok (.pop, 1) := by decide +kernel
theorem dX7_springs_33 : decode cX7_springs 33 = .ok (.aload_n 0, 1) := by decide +kernel
theorem dX7_springs_34 : decode cX7_springs 34 = .ok (.aload_n 0, 1) := by decide +kernel
theorem dX7_springs_35 : decode cX7_springs 35 = .ok (.getfield 16, 3) := by decide +kernel
theorem dX7_springs_38 : decode cX7_springs 38 = .ok (.iload_n 1, 1) := by decide +kernel
theorem dX7_springs_39 : decode cX7_springs 39 = .ok (.iaload, 1) := by decide +kernel
theorem dX7_springs_40 : decode cX7_springs 40 = .ok (.iload_n 1, 1) := by decide +kernel
theorem dX7_springs_41 : decode cX7_springs 41 = .ok (.invokevirtual 171, 3) := by decide +kernel
theorem dX7_springs_44 : decode cX7_springs 44 = .ok (.pop, 1) := by decide +kernel
theorem dX7_springs_45 : decode cX7_springs 45 = .ok (.iinc 1 1, 3) := by decide +kernel
theorem dX7_springs_48 : decode cX7_springs 48 = .ok (.goto (-46), 3) := by decide +kernel
theorem dX7_springs_51 : decode cX7_springs 51 = .ok (.aload_n 0, 1) := by decide +kernel
theorem dX7_springs_52 : decode cX7_springs 52 = .ok (.invokevirtual 167, 3) := by decide +kernel
theorem dX7_springs_55 : decode cX7_springs 55 = .ok (.istore_n 1, 1) := by decide +kernel
theorem dX7_springs_56 : decode cX7_springs 56 = .ok (.iconst 0, 1) := by decide +kernel
theorem dX7_springs_57 : decode cX7_springs 57 = .ok (.istore_n 2, 1) := by decide +kernel
theorem dX7_springs_58 : decode cX7_springs 58 = .ok (.iload_n 2, 1) := by decide +kernel
theorem dX7_springs_59 : decode cX7_springs 59 = .ok (.aload_n 0, 1) := by decide +kernel
theorem dX7_springs_60 : decode cX7_springs 60 = .ok (.getfield 137, 3) := by decide +kernel
theorem dX7_springs_63 : decode cX7_springs 63 = .ok (.if_icmp .ge 21, 3) := by decide +kernel
theorem dX7_springs_66 : decode cX7_springs 66 = .ok (.iload_n 2, 1) := by decide +kernel
theorem dX7_springs_67 : decode cX7_springs 67 = .ok (.iload_n 1, 1) := by decide +kernel
theorem dX7_springs_68 : decode cX7_springs 68 = .ok (.if_icmp .eq 10, 3) := by decide +kernel
theorem dX7_springs_71 : decode cX7_springs 71 = .ok (.aload_n 0, 1) := by decide +kernel
theorem dX7_springs_72 : decode cX7_springs 72 = .ok (.iload_n 2, 1) := by decide +kernel
theorem dX7_springs_73 : decode cX7_springs 73 = .ok (.iload_n 1, 1) := by decide +kernel
theorem dX7_springs_74 : decode cX7_springs 74 = .ok (.invokevirtual 171, 3) := by decide +kernel
theorem dX7_springs_77 : decode cX7_springs 77 = .ok (.pop, 1) := by decide +kernel
theorem dX7_springs_78 : decode cX7_springs 78 = .ok (.iinc 2 1, 3) := by decide +kernel
theorem dX7_springs_81 : decode cX7_springs 81 = .ok (.goto (-23), 3) := by decide +kernel
theorem dX7_springs_84 : decode cX7_springs 84 = .ok (.aload_n 0, 1) := by decide +kernel
theorem dX7_springs_85 : decode cX7_springs 85 = .ok (.getfield 19, 3) := by decide +kernel
theorem dX7_springs_88 : decode cX7_springs 88 = .ok (.bipush 73, 2) := by decide +kernel
theorem dX7_springs_90 : decode cX7_springs 90 = .ok (.iload_n 1, 1) := by decide +kernel
theorem dX7_springs_91 : decode cX7_springs 91 = .ok (.iadd, 1) := by decide +kernel
theorem dX7_springs_92 : decode cX7_springs 92 = .ok (.dup2, 1) := by decide +kernel
theorem dX7_springs_93 : decode cX7_springs 93 = .ok (.iaload, 1) := by decide +kernel
theorem dX7_springs_94 : decode cX7_springs 94 = .ok (.iconst 1, 1) := by decide +kernel
theorem dX7_springs_95 : decode cX7_springs 95 = .ok (.iadd, 1) := by decide +kernel
theorem dX7_springs_96 : decode cX7_springs 96 = .ok (.iastore, 1) := by decide +kernel
theorem dX7_springs_97 : decode cX7_springs 97 = .ok (.aload_n 0, 1) := by decide +kernel
theorem dX7_springs_98 : decode cX7_springs 98 = .ok (.getfield 19, 3) := by decide +kernel
theorem dX7_springs_101 : decode cX7_springs 101 = .ok (.bipush 81, 2) := by decide +kernel
theorem dX7_springs_103 : decode cX7_springs 103 = .ok (.iload_n 1, 1) := by decide +kernel
theorem dX7_springs_104 : decode cX7_springs 104 = .ok (.iastore, 1) := by decide +kernel
theorem dX7_springs_105 : decode cX7_springs 105 = .ok (.iconst 0, 1) := by decide +kernel
theorem dX7_springs_106 : decode cX7_springs 106 = .ok (.istore_n 2, 1) := by decide +kernel
theorem dX7_springs_107 : decode cX7_springs 107 = .ok (.iload_n 2, 1) := by decide +kernel
theorem dX7_springs_108 : decode cX7_springs 108 = .ok (.bipush 64, 2) := by decide +kernel
theorem dX7_springs_110 : decode cX7_springs 110 = .ok (.if_icmp .ge 60, 3) := by decide +kernel
theorem dX7_springs_113 : decode cX7_springs 113 = .ok (.aload_n 0, 1) := by decide +kernel
theorem dX7_springs_114 : decode cX7_springs 114 = .ok (.getfield 140, 3) := by decide +kernel
theorem dX7_springs_117 : decode cX7_springs 117 = .ok (.ifCond .le 47, 3) := by decide +kernel
theorem dX7_springs_120 : decode cX7_springs 120 = .ok (.aload_n 0, 1) := by decide +kernel
theorem dX7_springs_121 : decode cX7_springs 121 = .ok (.getfield 19, 3) := by decide +kernel
theorem dX7_springs_124 : decode cX7_springs 124 = .ok (.bipush 72, 2) := by decide +kernel
theorem dX7_springs_126 : decode cX7_springs 126 = .ok (.iaload, 1) := by decide +kernel
theorem dX7_springs_127 : decode cX7_springs 127 = .ok (.aload_n 0, 1) := by decide +kernel
theorem dX7_springs_128 : decode cX7_springs 128 = .ok (.getfield 19, 3) := by decide +kernel
theorem dX7_springs_131 : decode cX7_springs 131 = .ok (.bipush 8, 2) := by decide +kernel
theorem dX7_springs_133 : decode cX7_springs 133 = .ok (.iload_n 2, 1) := by decide +kernel
theorem dX7_springs_134 : decode cX7_springs 134 = .ok (.iadd, 1) := by decide +kernel
theorem dX7_springs_135 : decode cX7_springs 135 = .ok (.iaload, 1) := by decide +kernel
theorem dX7_springs_136 : decode cX7_springs 136 = .ok (.isub, 1) := by decide +kernel
theorem dX7_springs_137 : decode cX7_springs 137 = .ok (.aload_n 0, 1) := by decide +kernel
theorem dX7_springs_138 : decode cX7_springs 138 = .ok (.getfield 140, 3) := by decide +kernel
theorem dX7_springs_141 : decode cX7_springs 141 = .ok (.if_icmp .lt 23, 3) := by decide +kernel
theorem dX7_springs_144 : decode cX7_springs 144 = .ok (.aload_n 0, 1) := by decide +kernel
theorem dX7_springs_145 : decode cX7_springs 145 = .ok (.getfield 19, 3) := by decide +kernel
theorem dX7_springs_148 : decode cX7_springs 148 = .ok (.iload_n 2, 1) := by decide +kernel
theorem dX7_springs_149 : decode cX7_springs 149 = .ok (.bipush 8, 2) := by decide +kernel
theorem dX7_springs_151 : decode cX7_springs 151 = .ok (.idiv, 1) := by decide +kernel
theorem dX7_springs_152 : decode cX7_springs 152 = .ok (.dup2, 1) := by decide +kernel
theorem dX7_springs_153 : decode cX7_springs 153 = .ok (.iaload, 1) := by decide +kernel
theorem dX7_springs_154 : decode cX7_springs 154 = .ok (.iconst 1, 1) := by decide +kernel
theorem dX7_springs_155 : decode cX7_springs 155 = .ok (.iload_n 2, 1) := by decide +kernel
theorem dX7_springs_156 : decode cX7_springs 156 = .ok (.bipush 8, 2) := by decide +kernel
theorem dX7_springs_158 : decode cX7_springs 158 = .ok (.irem, 1) := by decide +kernel
theorem dX7_springs_159 : decode cX7_springs 159 = .ok (.ishl, 1) := by decide +kernel
theorem dX7_springs_160 : decode cX7_springs 160 = .ok (.iconst (-1), 1) := by decide +kernel
theorem dX7_springs_161 : decode cX7_springs 161 = .ok (.ixor, 1) := by decide +kernel
theorem dX7_springs_162 : decode cX7_springs 162 = .ok (.iand, 1) := by decide +kernel
theorem dX7_springs_163 : decode cX7_springs 163 = .ok (.iastore, 1) := by decide +kernel
theorem dX7_springs_164 : decode cX7_springs 164 = .ok (.iinc 2 1, 3) := by decide +kernel
theorem dX7_springs_167 : decode cX7_springs 167 = .ok (.goto (-60), 3) := by decide +kernel
theorem dX7_springs_170 : decode cX7_springs 170 = .ok (.aload_n 0, 1) := by decide +kernel
theorem dX7_springs_171 : decode cX7_springs 171 = .ok (.getfield 19, 3) := by decide +kernel
theorem dX7_springs_174 : decode cX7_springs 174 = .ok (.bipush 72, 2) := by decide +kernel
theorem dX7_springs_176 : decode cX7_springs 176 = .ok (.dup2, 1) := by decide +kernel
theorem dX7_springs_177 : decode cX7_springs 177 = .ok (.iaload, 1) := by decide +kernel
theorem dX7_springs_178 : decode cX7_springs 178 = .ok (.iconst 1, 1) := by decide +kernel
theorem dX7_springs_179 : decode cX7_springs 179 = .ok (.iadd, 1) := by decide +kernel
theorem dX7_springs_180 : decode cX7_springs 180 = .ok (.iastore, 1) := by decide +kernel
theorem dX7_springs_181 : decode cX7_springs 181 = .ok (.iload_n 1, 1) := by decide +kernel
theorem dX7_springs_182 : decode cX7_springs 182 = .ok (.ireturn, 1) := by decide +kernel
theorem dX7_go_0 : decode cX7_go 0 = .ok (.aload_n 0, 1) := by decide +kernel
theorem dX7_go_1 : decode cX7_go 1 = .ok (.iconst 0, 1) := by decide +kernel
theorem dX7_go_2 : decode cX7_go 2 = .ok (.putfield 51, 3) := by decide +kernel
theorem dX7_go_5 : decode cX7_go 5 = .ok (.iload_n 1, 1) := by decide +kernel
theorem dX7_go_6 : decode cX7_go 6 = .ok (.iconst 1, 1) := by decide +kernel
theorem dX7_go_7 : decode cX7_go 7 = .ok (.bipush 99, 2) := by decide +kernel
theorem dX7_go_9 : decode cX7_go 9 = .ok (.invokestatic 54, 3) := by decide +kernel
theorem dX7_go_12 : decode cX7_go 12 = .ok (.ifCond .ne 5, 3) := by decide +kernel
theorem dX7_go_15 : decode cX7_go 15 = .ok (.iconst (-1), 1) := by decide +kernel
theorem dX7_go_16 : decode cX7_go 16 = .ok (.ireturn, 1) := by decide +kernel
theorem dX7_go_17 : decode cX7_go 17 = .ok (.aload_n 0, 1) := by decide +kernel
theorem dX7_go_18 : decode cX7_go 18 = .ok (.getfield 19, 3) := by decide +kernel
theorem dX7_go_21 : decode cX7_go 21 = .ok (.bipush 72, 2) := by decide +kernel
theorem dX7_go_23 : decode cX7_go 23 = .ok (.iaload, 1) := by decide +kernel
theorem dX7_go_24 : decode cX7_go 24 = .ok (.bipush 99, 2) := by decide +kernel
theorem dX7_go_26 : decode cX7_go 26 = .ok (.if_icmp .eq 10, 3) := by decide +kernel
theorem dX7_go_29 : decode cX7_go 29 = .ok (.aload_n 0, 1) := by decide +kernel
theorem dX7_go_30 : decode cX7_go 30 = .ok (.getfield 137, 3) := by decide +kernel
theorem dX7_go_33 : decode cX7_go 33 = .ok (.ifCond .ne 6, 3) := by decide +kernel
theorem dX7_go_36 : decode cX7_go 36 = .ok (.bipush (-2), 2) := by decide +kernel
theorem dX7_go_38 : decode cX7_go 38 = .ok (.ireturn, 1) := by decide +kernel
theorem dX7_go_39 : decode cX7_go 39 = .ok (.iconst 0, 1) := by decide +kernel
theorem dX7_go_40 : decode cX7_go 40 = .ok (.istore_n 2, 1) := by decide +kernel
theorem dX7_go_41 : decode cX7_go 41 = .ok (.iload_n 2, 1) := by decide +kernel
theorem dX7_go_42 : decode cX7_go 42 = .ok (.iload_n 1, 1) := by decide +kernel
theorem dX7_go_43 : decode cX7_go 43 = .ok (.if_icmp .ge 26, 3) := by decide +kernel
theorem dX7_go_46 : decode cX7_go 46 = .ok (.aload_n 0, 1) := by decide +kernel
theorem dX7_go_47 : decode cX7_go 47 = .ok (.getfield 19, 3) := by decide +kernel
theorem dX7_go_50 : decode cX7_go 50 = .ok (.bipush 72, 2) := by decide +kernel
theorem dX7_go_52 : decode cX7_go 52 = .ok (.iaload, 1) := by decide +kernel
theorem dX7_go_53 : decode cX7_go 53 = .ok (.bipush 99, 2) := by decide +kernel
theorem dX7_go_55 : decode cX7_go 55 = .ok (.if_icmp .ge 14, 3) := by decide +kernel
theorem dX7_go_58 : decode cX7_go 58 = .ok (.aload_n 0, 1) := by decide +kernel
theorem dX7_go_59 : decode cX7_go 59 = .ok (.invokevirtual 174, 3) := by decide +kernel
theorem dX7_go_62 : decode cX7_go 62 = .ok (.pop, 1) := by decide +kernel
theorem dX7_go_63 : decode cX7_go 63 = .ok (.iinc 2 1, 3) := by decide +kernel
theorem dX7_go_66 : decode cX7_go 66 = .ok (.goto (-25), 3) := by decide +kernel
theorem dX7_go_69 : decode cX7_go 69 = .ok (.aload_n 0, 1) := by decide +kernel
theorem dX7_go_70 : decode cX7_go 70 = .ok (.getfield 19, 3) := by decide +kernel
theorem dX7_go_73 : decode cX7_go 73 = .ok (.bipush 81, 2) := by decide +kernel
theorem dX7_go_75 : decode cX7_go 75 = .ok (.iaload, 1) := by decide +kernel
theorem dX7_go_76 : decode cX7_go 76 = .ok (.ireturn, 1) := by decide +kernel
theorem dX7_countAll_0 : decode cX7_countAll 0 = .ok (.iconst 0, 1) := by decide +kernel
theorem dX7_countAll_1 : decode cX7_countAll 1 = .ok (.istore_n 1, 1) := by decide +kernel
theorem dX7_countAll_2 : decode cX7_countAll 2 = .ok (.iconst 0, 1) := by decide +kernel
theorem dX7_countAll_3 : decode cX7_countAll 3 = .ok (.istore_n 2, 1) := by decide +kernel
theorem dX7_countAll_4 : decode cX7_countAll 4 = .ok (.iload_n 2, 1) := by decide +kernel
theorem dX7_countAll_5 : decode cX7_countAll 5 = .ok (.aload_n 0, 1) := by decide +kernel
theorem dX7_countAll_6 : decode cX7_countAll 6 = .ok (.getfield 137, 3) := by decide +kernel
theorem dX7_countAll_9 : decode cX7_countAll 9 = .ok (.if_icmp .ge 17, 3) := by decide +kernel
theorem dX7_countAll_12 : decode cX7_countAll 12 = .ok (.iload_n 1, 1) := by decide +kernel
theorem dX7_countAll_13 : decode cX7_countAll 13 = .ok (.aload_n 0, 1) := by decide +kernel
theorem dX7_countAll_14 : decode cX7_countAll 14 = .ok (.iload_n 2, 1) := by decide +kernel
theorem dX7_countAll_15 : decode cX7_countAll 15 = .ok (.invokevirtual 158, 3) := by decide +kernel
theorem dX7_countAll_18 : decode cX7_countAll 18 = .ok (.iadd, 1) := by decide +kernel
theorem dX7_countAll_19 : decode cX7_countAll 19 = .ok (.istore_n 1, 1) := by decide +kernel
theorem dX7_countAll_20 : decode cX7_countAll 20 = .ok (.iinc 2 1, 3) := by decide +kernel
theorem dX7_countAll_23 : decode cX7_countAll 23 = .ok (.goto (-19), 3) := by decide +kernel
theorem dX7_countAll_26 : decode cX7_countAll 26 = .ok (.iload_n 1, 1) := by decide +kernel
theorem dX7_countAll_27 : decode cX7_countAll 27 = .ok (.ireturn, 1) := by decide +kernel
theorem dX7_now_0 : decode cX7_now 0 = .ok (.aload_n 0, 1) := by decide +kernel
theorem dX7_now_1 : decode cX7_now 1 = .ok (.iconst 0, 1) := by decide +kernel
theorem dX7_now_2 : decode cX7_now 2 = .ok (.putfield 51, 3) := by decide +kernel
theorem dX7_now_5 : decode cX7_now 5 = .ok (.iload_n 1, 1) := by decide +kernel
theorem dX7_now_6 : decode cX7_now 6 = .ok (.ifCond .ne 13, 3) := by decide +kernel
theorem dX7_now_9 : decode cX7_now 9 = .ok (.aload_n 0, 1) := by decide +kernel
theorem dX7_now_10 : decode cX7_now 10 = .ok (.getfield 19, 3) := by decide +kernel
theorem dX7_now_13 : decode cX7_now 13 = .ok (.bipush 72, 2) := by decide +kernel
theorem dX7_now_15 : decode cX7_now 15 = .ok (.iaload, 1) := by decide +kernel
theorem dX7_now_16 : decode cX7_now 16 = .ok (.goto 31, 3) := by decide +kernel
theorem dX7_now_19 : decode cX7_now 19 = .ok (.iload_n 1, 1) := by decide +kernel
theorem dX7_now_20 : decode cX7_now 20 = .ok (.iconst 1, 1) := by decide +kernel
theorem dX7_now_21 : decode cX7_now 21 = .ok (.if_icmp .ne 13, 3) := by decide +kernel
theorem dX7_now_24 : decode cX7_now 24 = .ok (.aload_n 0, 1) := by decide +kernel
theorem dX7_now_25 : decode cX7_now 25 = .ok (.getfield 19, 3) := by decide +kernel
theorem dX7_now_28 : decode cX7_now 28 = .ok (.bipush 81, 2) := by decide +kernel
theorem dX7_now_30 : decode cX7_now 30 = .ok (.iaload, 1) := by decide +kernel
theorem dX7_now_31 : decode cX7_now 31 = .ok (.goto 16, 3) := by decide +kernel
theorem dX7_now_34 : decode cX7_now 34 = .ok (.iload_n 1, 1) := by decide +kernel
theorem dX7_now_35 : decode cX7_now 35 = .ok (.iconst 2, 1) := by decide +kernel
theorem dX7_now_36 : decode cX7_now 36 = .ok (.if_icmp .ne 10, 3) := by decide +kernel
theorem dX7_now_39 : decode cX7_now 39 = .ok (.aload_n 0, 1) := by decide +kernel
theorem dX7_now_40 : decode cX7_now 40 = .ok (.invokevirtual 177, 3) := by decide +kernel
theorem dX7_now_43 : decode cX7_now 43 = .ok (.goto 4, 3) := by decide +kernel
theorem dX7_now_46 : decode cX7_now 46 = .ok (.iconst (-1), 1) := by decide +kernel
theorem dX7_now_47 : decode cX7_now 47 = .ok (.ireturn, 1) := by decide +kernel
theorem dX7_anew_0 : decode cX7_anew 0 = .ok (.aload_n 0, 1) := by decide +kernel
theorem dX7_anew_1 : decode cX7_anew 1 = .ok (.iconst 0, 1) := by decide +kernel
theorem dX7_anew_2 : decode cX7_anew 2 = .ok (.putfield 51, 3) := by decide +kernel
theorem dX7_anew_5 : decode cX7_anew 5 = .ok (.aload_n 0, 1) := by decide +kernel
theorem dX7_anew_6 : decode cX7_anew 6 = .ok (.getfield 19, 3) := by decide +kernel
theorem dX7_anew_9 : decode cX7_anew 9 = .ok (.bipush 72, 2) := by decide +kernel
theorem dX7_anew_11 : decode cX7_anew 11 = .ok (.iaload, 1) := by decide +kernel
theorem dX7_anew_12 : decode cX7_anew 12 = .ok (.istore_n 1, 1) := by decide +kernel
theorem dX7_anew_13 : decode cX7_anew 13 = .ok (.aload_n 0, 1) := by decide +kernel
theorem dX7_anew_14 : decode cX7_anew 14 = .ok (.invokevirtual 48, 3) := by decide +kernel
theorem dX7_anew_17 : decode cX7_anew 17 = .ok (.iload_n 1, 1) := by decide +kernel
theorem dX7_anew_18 : decode cX7_anew 18 = .ok (.ireturn, 1) := by decide +kernel
theorem dX7_aside_0 : decode cX7_aside 0 = .ok (.iconst 0, 1) := by decide +kernel
theorem dX7_aside_1 : decode cX7_aside 1 = .ok (.istore_n 2, 1) := by decide +kernel
theorem dX7_aside_2 : decode cX7_aside 2 = .ok (.iload_n 2, 1) := by decide +kernel
theorem dX7_aside_3 : decode cX7_aside 3 = .ok (.bipush 82, 2) := by decide +kernel
theorem dX7_aside_5 : decode cX7_aside 5 = .ok (.if_icmp .ge 40, 3) := by decide +kernel
theorem dX7_aside_8 : decode cX7_aside 8 = .ok (.iload_n 1, 1) := by decide +kernel
theorem dX7_aside_9 : decode cX7_aside 9 = .ok (.ifCond .eq 18, 3) := by decide +kernel
theorem dX7_aside_12 : decode cX7_aside 12 = .ok (.aload_n 0, 1) := by decide +kernel
theorem dX7_aside_13 : decode cX7_aside 13 = .ok (.getfield 22, 3) := by decide +kernel
theorem dX7_aside_16 : decode cX7_aside 16 = .ok (.iload_n 2, 1) := by decide +kernel
theorem dX7_aside_17 : decode cX7_aside 17 = .ok (.aload_n 0, 1) := by decide +kernel
theorem dX7_aside_18 : decode cX7_aside 18 = .ok (.getfield 19, 3) := by decide +kernel
theorem dX7_aside_21 : decode cX7_aside 21 = .ok (.iload_n 2, 1) := by decide +kernel
theorem dX7_aside_22 : decode cX7_aside 22 = .ok (.iaload, 1) := by decide +kernel
theorem dX7_aside_23 : decode cX7_aside 23 = .ok (.iastore, 1) := by decide +kernel
theorem dX7_aside_24 : decode cX7_aside 24 = .ok (.goto 15, 3) := by decide +kernel
theorem dX7_aside_27 : decode cX7_aside 27 = .ok (.aload_n 0, 1) := by decide +kernel
theorem dX7_aside_28 : decode cX7_aside 28 = .ok (.getfield 19, 3) := by decide +kernel
theorem dX7_aside_31 : decode cX7_aside 31 = .ok (.iload_n 2, 1) := by decide +kernel
theorem dX7_aside_32 : decode cX7_aside 32 = .ok (.aload_n 0, 1) := by decide +kernel
theorem dX7_aside_33 : decode cX7_aside 33 = .ok (.getfield 22, 3) := by decide +kernel
theorem dX7_aside_36 : decode cX7_aside 36 = .ok (.iload_n 2, 1) := by decide +kernel
theorem dX7_aside_37 : decode cX7_aside 37 = .ok (.iaload, 1) := by decide +kernel
theorem dX7_aside_38 : decode cX7_aside 38 = .ok (.iastore, 1) := by decide +kernel
theorem dX7_aside_39 : decode cX7_aside 39 = .ok (.iinc 2 1, 3) := by decide +kernel
theorem dX7_aside_42 : decode cX7_aside 42 = .ok (.goto (-40), 3) := by decide +kernel
theorem dX7_aside_45 : decode cX7_aside 45 = .ok (.return_, 1) := by decide +kernel
theorem dX7_reigns_0 : decode cX7_reigns 0 = .ok (.aload_n 0, 1) := by decide +kernel
theorem dX7_reigns_1 : decode cX7_reigns 1 = .ok (.iconst 0, 1) := by decide +kernel
theorem dX7_reigns_2 : decode cX7_reigns 2 = .ok (.putfield 51, 3) := by decide +kernel
theorem dX7_reigns_5 : decode cX7_reigns 5 = .ok (.iload_n 1, 1) := by decide +kernel
theorem dX7_reigns_6 : decode cX7_reigns 6 = .ok (.iconst 0, 1) := by decide +kernel
theorem dX7_reigns_7 : decode cX7_reigns 7 = .ok (.bipush 40, 2) := by decide +kernel
theorem dX7_reigns_9 : decode cX7_reigns 9 = .ok (.invokestatic 54, 3) := by decide +kernel
theorem dX7_reigns_12 : decode cX7_reigns 12 = .ok (.ifCond .ne 5, 3) := by decide +kernel
theorem dX7_reigns_15 : decode cX7_reigns 15 = .ok (.iconst (-1), 1) := by decide +kernel
theorem dX7_reigns_16 : decode cX7_reigns 16 = .ok (.ireturn, 1) := by decide +kernel
theorem dX7_reigns_17 : decode cX7_reigns 17 = .ok (.aload_n 0, 1) := by decide +kernel
theorem dX7_reigns_18 : decode cX7_reigns 18 = .ok (.getfield 137, 3) := by decide +kernel
theorem dX7_reigns_21 : decode cX7_reigns 21 = .ok (.ifCond .ne 6, 3) := by decide +kernel
theorem dX7_reigns_24 : decode cX7_reigns 24 = .ok (.bipush (-2), 2) := by decide +kernel
theorem dX7_reigns_26 : decode cX7_reigns 26 = .ok (.ireturn, 1) := by decide +kernel
theorem dX7_reigns_27 : decode cX7_reigns 27 = .ok (.aload_n 0, 1) := by decide +kernel
theorem dX7_reigns_28 : decode cX7_reigns 28 = .ok (.iconst 1, 1) := by decide +kernel
theorem dX7_reigns_29 : decode cX7_reigns 29 = .ok (.invokevirtual 180, 3) := by decide +kernel
theorem dX7_reigns_32 : decode cX7_reigns 32 = .ok (.bipush (-9), 2) := by decide +kernel
theorem dX7_reigns_34 : decode cX7_reigns 34 = .ok (.istore_n 2, 1) := by decide +kernel
theorem dX7_reigns_35 : decode cX7_reigns 35 = .ok (.iconst 0, 1) := by decide +kernel
theorem dX7_reigns_36 : decode cX7_reigns 36 = .ok (.istore_n 3, 1) := by decide +kernel
theorem dX7_reigns_37 : decode cX7_reigns 37 = .ok (.iload_n 3, 1) := by decide +kernel
theorem dX7_reigns_38 : decode cX7_reigns 38 = .ok (.iload_n 1, 1) := by decide +kernel
theorem dX7_reigns_39 : decode cX7_reigns 39 = .ok (.if_icmp .gt 14, 3) := by decide +kernel
theorem dX7_reigns_42 : decode cX7_reigns 42 = .ok (.aload_n 0, 1) := by decide +kernel
theorem dX7_reigns_43 : decode cX7_reigns 43 = .ok (.invokevirtual 174, 3) := by decide +kernel
theorem dX7_reigns_46 : decode cX7_reigns 46 = .ok (.istore_n 2, 1) := by decide +kernel
theorem dX7_reigns_47 : decode cX7_reigns 47 = .ok (.iinc 3 1, 3) := by decide +kernel
theorem dX7_reigns_50 : decode cX7_reigns 50 = .ok (.goto (-13), 3) := by decide +kernel
theorem dX7_reigns_53 : decode cX7_reigns 53 = .ok (.aload_n 0, 1) := by decide +kernel
theorem dX7_reigns_54 : decode cX7_reigns 54 = .ok (.iconst 0, 1) := by decide +kernel
theorem dX7_reigns_55 : decode cX7_reigns 55 = .ok (.invokevirtual 180, 3) := by decide +kernel
theorem dX7_reigns_58 : decode cX7_reigns 58 = .ok (.iload_n 2, 1) := by decide +kernel
theorem dX7_reigns_59 : decode cX7_reigns 59 = .ok (.ireturn, 1) := by decide +kernel
theorem dX7_ring_0 : decode cX7_ring 0 = .ok (.aload_n 0, 1) := by decide +kernel
theorem dX7_ring_1 : decode cX7_ring 1 = .ok (.iconst 0, 1) := by decide +kernel
theorem dX7_ring_2 : decode cX7_ring 2 = .ok (.putfield 51, 3) := by decide +kernel
theorem dX7_ring_5 : decode cX7_ring 5 = .ok (.aload_n 0, 1) := by decide +kernel
theorem dX7_ring_6 : decode cX7_ring 6 = .ok (.getfield 137, 3) := by decide +kernel
theorem dX7_ring_9 : decode cX7_ring 9 = .ok (.ifCond .ne 6, 3) := by decide +kernel
theorem dX7_ring_12 : decode cX7_ring 12 = .ok (.bipush (-2), 2) := by decide +kernel
theorem dX7_ring_14 : decode cX7_ring 14 = .ok (.ireturn, 1) := by decide +kernel
theorem dX7_ring_15 : decode cX7_ring 15 = .ok (.aload_n 0, 1) := by decide +kernel
theorem dX7_ring_16 : decode cX7_ring 16 = .ok (.iconst 1, 1) := by decide +kernel
theorem dX7_ring_17 : decode cX7_ring 17 = .ok (.invokevirtual 180, 3) := by decide +kernel
theorem dX7_ring_20 : decode cX7_ring 20 = .ok (.iconst 0, 1) := by decide +kernel
theorem dX7_ring_21 : decode cX7_ring 21 = .ok (.istore_n 1, 1) := by decide +kernel
theorem dX7_ring_22 : decode cX7_ring 22 = .ok (.iload_n 1, 1) := by decide +kernel
theorem dX7_ring_23 : decode cX7_ring 23 = .ok (.bipush 40, 2) := by decide +kernel
theorem dX7_ring_25 : decode cX7_ring 25 = .ok (.if_icmp .ge 19, 3) := by decide +kernel
theorem dX7_ring_28 : decode cX7_ring 28 = .ok (.aload_n 0, 1) := by decide +kernel
theorem dX7_ring_29 : decode cX7_ring 29 = .ok (.getfield 32, 3) := by decide +kernel
theorem dX7_ring_32 : decode cX7_ring 32 = .ok (.iload_n 1, 1) := by decide +kernel
theorem dX7_ring_33 : decode cX7_ring 33 = .ok (.aload_n 0, 1) := by decide +kernel
theorem dX7_ring_34 : decode cX7_ring 34 = .ok (.invokevirtual 174, 3) := by decide +kernel
theorem dX7_ring_37 : decode cX7_ring 37 = .ok (.iastore, 1) := by decide +kernel
theorem dX7_ring_38 : decode cX7_ring 38 = .ok (.iinc 1 1, 3) := by decide +kernel
theorem dX7_ring_41 : decode cX7_ring 41 = .ok (.goto (-19), 3) := by decide +kernel
theorem dX7_ring_44 : decode cX7_ring 44 = .ok (.aload_n 0, 1) := by decide +kernel
theorem dX7_ring_45 : decode cX7_ring 45 = .ok (.iconst 0, 1) := by decide +kernel
theorem dX7_ring_46 : decode cX7_ring 46 = .ok (.invokevirtual 180, 3) := by decide +kernel
theorem dX7_ring_49 : decode cX7_ring 49 = .ok (.iconst 1, 1) := by decide +kernel
theorem dX7_ring_50 : decode cX7_ring 50 = .ok (.istore_n 1, 1) := by decide +kernel
theorem dX7_ring_51 : decode cX7_ring 51 = .ok (.iload_n 1, 1) := by decide +kernel
theorem dX7_ring_52 : decode cX7_ring 52 = .ok (.bipush 11, 2) := by decide +kernel
theorem dX7_ring_54 : decode cX7_ring 54 = .ok (.if_icmp .ge 61, 3) := by decide +kernel
theorem dX7_ring_57 : decode cX7_ring 57 = .ok (.iconst 1, 1) := by decide +kernel
theorem dX7_ring_58 : decode cX7_ring 58 = .ok (.istore_n 2, 1) := by decide +kernel
theorem dX7_ring_59 : decode cX7_ring 59 = .ok (.bipush 20, 2) := by decide +kernel
theorem dX7_ring_61 : decode cX7_ring 61 = .ok (.iload_n 1, 1) := by decide +kernel
theorem dX7_ring_62 : decode cX7_ring 62 = .ok (.iadd, 1) := by decide +kernel
theorem dX7_ring_63 : decode cX7_ring 63 = .ok (.istore_n 3, 1) := by decide +kernel
theorem dX7_ring_64 : decode cX7_ring 64 = .ok (.iload_n 3, 1) := by decide +kernel
theorem dX7_ring_65 : decode cX7_ring 65 = .ok (.bipush 40, 2) := by decide +kernel
theorem dX7_ring_67 : decode cX7_ring 67 = .ok (.if_icmp .ge 36, 3) := by decide +kernel
theorem dX7_ring_70 : decode cX7_ring 70 = .ok (.iload_n 2, 1) := by decide +kernel
theorem dX7_ring_71 : decode cX7_ring 71 = .ok (.ifCond .eq 24, 3) := by decide +kernel
theorem dX7_ring_74 : decode cX7_ring 74 = .ok (.aload_n 0, 1) := by decide +kernel
theorem dX7_ring_75 : decode cX7_ring 75 = .ok (.getfield 32, 3) := by decide +kernel
theorem dX7_ring_78 : decode cX7_ring 78 = .ok (.iload_n 3, 1) := by decide +kernel
theorem dX7_ring_79 : decode cX7_ring 79 = .ok (.iaload, 1) := by decide +kernel
theorem dX7_ring_80 : decode cX7_ring 80 = .ok (.aload_n 0, 1) := by decide +kernel
theorem dX7_ring_81 : decode cX7_ring 81 = .ok (.getfield 32, 3) := by decide +kernel
theorem dX7_ring_84 : decode cX7_ring 84 = .ok (.iload_n 3, 1) := by decide +kernel
theorem dX7_ring_85 : decode cX7_ring 85 = .ok (.iload_n 1, 1) := by decide +kernel
theorem dX7_ring_86 : decode cX7_ring 86 = .ok (.isub, 1) := by decide +kernel
theorem dX7_ring_87 : decode cX7_ring 87 = .ok (.iaload, 1) := by decide +kernel
theorem dX7_ring_88 : decode cX7_ring 88 = .ok (.if_icmp .ne 7, 3) := by decide +kernel
theorem dX7_ring_91 : decode cX7_ring 91 = .ok (.iconst 1, 1) := by decide +kernel
theorem dX7_ring_92 : decode cX7_ring 92 = .ok (.goto 4, 3) := by decide +kernel
theorem dX7_ring_95 : decode cX7_ring 95 = .ok (.iconst 0, 1) := by decide +kernel
theorem dX7_ring_96 : decode cX7_ring 96 = .ok (.istore_n 2, 1) := by decide +kernel
theorem dX7_ring_97 : decode cX7_ring 97 = .ok (.iinc 3 1, 3) := by decide +kernel
theorem dX7_ring_100 : decode cX7_ring 100 = .ok (.goto (-36), 3) := by decide +kernel
theorem dX7_ring_103 : decode cX7_ring 103 = .ok (.iload_n 2, 1) := by decide +kernel
theorem dX7_ring_104 : decode cX7_ring 104 = .ok (.ifCond .eq 5, 3) := by decide +kernel
theorem dX7_ring_107 : decode cX7_ring 107 = .ok (.iload_n 1, 1) := by decide +kernel
theorem dX7_ring_108 : decode cX7_ring 108 = .ok (.ireturn, 1) := by decide +kernel
theorem dX7_ring_109 : decode cX7_ring 109 = .ok (.iinc 1 1, 3) := by decide +kernel
theorem dX7_ring_112 : decode cX7_ring 112 = .ok (.goto (-61), 3) := by decide +kernel
theorem dX7_ring_115 : decode cX7_ring 115 = .ok (.bipush (-9), 2) := by decide +kernel
theorem dX7_ring_117 : decode cX7_ring 117 = .ok (.ireturn, 1) := by decide +kernel
theorem dX7_isSo_0 : decode cX7_isSo 0 = .ok (.aload_n 0, 1) := by decide +kernel
theorem dX7_isSo_1 : decode cX7_isSo 1 = .ok (.invokevirtual 167, 3) := by decide +kernel
theorem dX7_isSo_4 : decode cX7_isSo 4 = .ok (.iload_n 1, 1) := by decide +kernel
theorem dX7_isSo_5 : decode cX7_isSo 5 = .ok (.if_icmp .ne 7, 3) := by decide +kernel
theorem dX7_isSo_8 : decode cX7_isSo 8 = .ok (.iconst 1, 1) := by decide +kernel
theorem dX7_isSo_9 : decode cX7_isSo 9 = .ok (.goto 4, 3) := by decide +kernel
theorem dX7_isSo_12 : decode cX7_isSo 12 = .ok (.iconst 0, 1) := by decide +kernel
theorem dX7_isSo_13 : decode cX7_isSo 13 = .ok (.iload_n 2, 1) := by decide +kernel
theorem dX7_isSo_14 : decode cX7_isSo 14 = .ok (.if_icmp .ne 7, 3) := by decide +kernel
theorem dX7_isSo_17 : decode cX7_isSo 17 = .ok (.iconst 1, 1) := by decide +kernel
theorem dX7_isSo_18 : decode cX7_isSo 18 = .ok (.goto 4, 3) := by decide +kernel
theorem dX7_isSo_21 : decode cX7_isSo 21 = .ok (.iconst 0, 1) := by decide +kernel
theorem dX7_isSo_22 : decode cX7_isSo 22 = .ok (.ireturn, 1) := by decide +kernel
theorem dX7_nextPair_0 : decode cX7_nextPair 0 = .ok (.iload_n 1, 1) := by decide +kernel
theorem dX7_nextPair_1 : decode cX7_nextPair 1 = .ok (.iconst 1, 1) := by decide +kernel
theorem dX7_nextPair_2 : decode cX7_nextPair 2 = .ok (.iadd, 1) := by decide +kernel
theorem dX7_nextPair_3 : decode cX7_nextPair 3 = .ok (.istore_n 2, 1) := by decide +kernel
theorem dX7_nextPair_4 : decode cX7_nextPair 4 = .ok (.iload_n 2, 1) := by decide +kernel
theorem dX7_nextPair_5 : decode cX7_nextPair 5 = .ok (.bipush 10, 2) := by decide +kernel
theorem dX7_nextPair_7 : decode cX7_nextPair 7 = .ok (.aload_n 0, 1) := by decide +kernel
theorem dX7_nextPair_8 : decode cX7_nextPair 8 = .ok (.getfield 137, 3) := by decide +kernel
theorem dX7_nextPair_11 : decode cX7_nextPair 11 = .ok (.imul, 1) := by decide +kernel
theorem dX7_nextPair_12 : decode cX7_nextPair 12 = .ok (.if_icmp .ge 33, 3) := by decide +kernel
theorem dX7_nextPair_15 : decode cX7_nextPair 15 = .ok (.iload_n 2, 1) := by decide +kernel
theorem dX7_nextPair_16 : decode cX7_nextPair 16 = .ok (.bipush 10, 2) := by decide +kernel
theorem dX7_nextPair_18 : decode cX7_nextPair 18 = .ok (.idiv, 1) := by decide +kernel
theorem dX7_nextPair_19 : decode cX7_nextPair 19 = .ok (.iload_n 2, 1) := by decide +kernel
theorem dX7_nextPair_20 : decode cX7_nextPair 20 = .ok (.bipush 10, 2) := by decide +kernel
theorem dX7_nextPair_22 : decode cX7_nextPair 22 = .ok (.irem, 1) := by decide +kernel
theorem dX7_nextPair_23 : decode cX7_nextPair 23 = .ok (.if_icmp .ge 16, 3) := by decide +kernel
theorem dX7_nextPair_26 : decode cX7_nextPair 26 = .ok (.iload_n 2, 1) := by decide +kernel
theorem dX7_nextPair_27 : decode cX7_nextPair 27 = .ok (.bipush 10, 2) := by decide +kernel
theorem dX7_nextPair_29 : decode cX7_nextPair 29 = .ok (.irem, 1) := by decide +kernel
theorem dX7_nextPair_30 : decode cX7_nextPair 30 = .ok (.aload_n 0, 1) := by decide +kernel
theorem dX7_nextPair_31 : decode cX7_nextPair 31 = .ok (.getfield 137, 3) := by decide +kernel
theorem dX7_nextPair_34 : decode cX7_nextPair 34 = .ok (.if_icmp .ge 5, 3) := by decide +kernel
theorem dX7_nextPair_37 : decode cX7_nextPair 37 = .ok (.iload_n 2, 1) := by decide +kernel
theorem dX7_nextPair_38 : decode cX7_nextPair 38 = .ok (.ireturn, 1) := by decide +kernel
theorem dX7_nextPair_39 : decode cX7_nextPair 39 = .ok (.iinc 2 1, 3) := by decide +kernel
theorem dX7_nextPair_42 : decode cX7_nextPair 42 = .ok (.goto (-38), 3) := by decide +kernel
theorem dX7_nextPair_45 : decode cX7_nextPair 45 = .ok (.iconst (-1), 1) := by decide +kernel
theorem dX7_nextPair_46 : decode cX7_nextPair 46 = .ok (.ireturn, 1) := by decide +kernel
theorem dX7_meets_0 : decode cX7_meets 0 = .ok (.aload_n 0, 1) := by decide +kernel
theorem dX7_meets_1 : decode cX7_meets 1 = .ok (.iload_n 1, 1) := by decide +kernel
theorem dX7_meets_2 : decode cX7_meets 2 = .ok (.bipush 10, 2) := by decide +kernel
theorem dX7_meets_4 : decode cX7_meets 4 = .ok (.idiv, 1) := by decide +kernel
theorem dX7_meets_5 : decode cX7_meets 5 = .ok (.iload_n 1, 1) := by decide +kernel
theorem dX7_meets_6 : decode cX7_meets 6 = .ok (.bipush 10, 2) := by decide +kernel
theorem dX7_meets_8 : decode cX7_meets 8 = .ok (.irem, 1) := by decide +kernel
theorem dX7_meets_9 : decode cX7_meets 9 = .ok (.invokevirtual 171, 3) := by decide +kernel
theorem dX7_meets_12 : decode cX7_meets 12 = .ok (.pop, 1) := by decide +kernel
theorem dX7_meets_13 : decode cX7_meets 13 = .ok (.aload_n 0, 1) := by decide +kernel
theorem dX7_meets_14 : decode cX7_meets 14 = .ok (.iload_n 1, 1) := by decide +kernel
theorem dX7_meets_15 : decode cX7_meets 15 = .ok (.bipush 10, 2) := by decide +kernel
theorem dX7_meets_17 : decode cX7_meets 17 = .ok (.irem, 1) := by decide +kernel
theorem dX7_meets_18 : decode cX7_meets 18 = .ok (.iload_n 1, 1) := by decide +kernel
theorem dX7_meets_19 : decode cX7_meets 19 = .ok (.bipush 10, 2) := by decide +kernel
theorem dX7_meets_21 : decode cX7_meets 21 = .ok (.idiv, 1) := by decide +kernel
theorem dX7_meets_22 : decode cX7_meets 22 = .ok (.invokevirtual 171, 3) := by decide +kernel
theorem dX7_meets_25 : decode cX7_meets 25 = .ok (.pop, 1) := by decide +kernel
theorem dX7_meets_26 : decode cX7_meets 26 = .ok (.return_, 1) := by decide +kernel
theorem dX7_bringsBy_0 : decode cX7_bringsBy 0 = .ok (.aload_n 0, 1) := by decide +kernel
theorem dX7_bringsBy_1 : decode cX7_bringsBy 1 = .ok (.getfield 35, 3) := by decide +kernel
theorem dX7_bringsBy_4 : decode cX7_bringsBy 4 = .ok (.iconst 0, 1) := by decide +kernel
theorem dX7_bringsBy_5 : decode cX7_bringsBy 5 = .ok (.iload_n 3, 1) := by decide +kernel
theorem dX7_bringsBy_6 : decode cX7_bringsBy 6 = .ok (.ifCond .le 11, 3) := by decide +kernel
theorem dX7_bringsBy_9 : decode cX7_bringsBy 9 = .ok (.aload_n 0, 1) := by decide +kernel
theorem dX7_bringsBy_10 : decode cX7_bringsBy 10 = .ok (.iconst 0, 1) := by decide +kernel
theorem dX7_bringsBy_11 : decode cX7_bringsBy 11 = .ok (.invokevirtual 184, 3) := by decide +kernel
theorem dX7_bringsBy_14 : decode cX7_bringsBy 14 = .ok (.goto 4, 3) := by decide +kernel
theorem dX7_bringsBy_17 : decode cX7_bringsBy 17 = .ok (.iconst 0, 1) := by decide +kernel
theorem dX7_bringsBy_18 : decode cX7_bringsBy 18 = .ok (.iastore, 1) := by decide +kernel
theorem dX7_bringsBy_19 : decode cX7_bringsBy 19 = .ok (.aload_n 0, 1) := by decide +kernel
theorem dX7_bringsBy_20 : decode cX7_bringsBy 20 = .ok (.getfield 35, 3) := by decide +kernel
theorem dX7_bringsBy_23 : decode cX7_bringsBy 23 = .ok (.iconst 0, 1) := by decide +kernel
theorem dX7_bringsBy_24 : decode cX7_bringsBy 24 = .ok (.iaload, 1) := by decide +kernel
theorem dX7_bringsBy_25 : decode cX7_bringsBy 25 = .ok (.ifCond .lt 200, 3) := by decide +kernel
theorem dX7_bringsBy_28 : decode cX7_bringsBy 28 = .ok (.aload_n 0, 1) := by decide +kernel
theorem dX7_bringsBy_29 : decode cX7_bringsBy 29 = .ok (.getfield 35, 3) := by decide +kernel
theorem dX7_bringsBy_32 : decode cX7_bringsBy 32 = .ok (.iconst 1, 1) := by decide +kernel
theorem dX7_bringsBy_33 : decode cX7_bringsBy 33 = .ok (.iload_n 3, 1) := by decide +kernel
theorem dX7_bringsBy_34 : decode cX7_bringsBy 34 = .ok (.iconst 1, 1) := by decide +kernel
theorem dX7_bringsBy_35 : decode cX7_bringsBy 35 = .ok (.if_icmp .le 16, 3) := by decide +kernel
theorem dX7_bringsBy_38 : decode cX7_bringsBy 38 = .ok (.aload_n 0, 1) := by decide +kernel
theorem dX7_bringsBy_39 : decode cX7_bringsBy 39 = .ok (.aload_n 0, 1) := by decide +kernel
theorem dX7_bringsBy_40 : decode cX7_bringsBy 40 = .ok (.getfield 35, 3) := by decide +kernel
theorem dX7_bringsBy_43 : decode cX7_bringsBy 43 = .ok (.iconst 0, 1) := by decide +kernel
theorem dX7_bringsBy_44 : decode cX7_bringsBy 44 = .ok (.iaload, 1) := by decide +kernel
theorem dX7_bringsBy_45 : decode cX7_bringsBy 45 = .ok (.invokevirtual 184, 3) := by decide +kernel
theorem dX7_bringsBy_48 : decode cX7_bringsBy 48 = .ok (.goto 4, 3) := by decide +kernel
theorem dX7_bringsBy_51 : decode cX7_bringsBy 51 = .ok (.iconst 0, 1) := by decide +kernel
theorem dX7_bringsBy_52 : decode cX7_bringsBy 52 = .ok (.iastore, 1) := by decide +kernel
theorem dX7_bringsBy_53 : decode cX7_bringsBy 53 = .ok (.aload_n 0, 1) := by decide +kernel
theorem dX7_bringsBy_54 : decode cX7_bringsBy 54 = .ok (.getfield 35, 3) := by decide +kernel
theorem dX7_bringsBy_57 : decode cX7_bringsBy 57 = .ok (.iconst 1, 1) := by decide +kernel
theorem dX7_bringsBy_58 : decode cX7_bringsBy 58 = .ok (.iaload, 1) := by decide +kernel
theorem dX7_bringsBy_59 : decode cX7_bringsBy 59 = .ok (.ifCond .lt 139, 3) := by decide +kernel
theorem dX7_bringsBy_62 : decode cX7_bringsBy 62 = .ok (.aload_n 0, 1) := by decide +kernel
theorem dX7_bringsBy_63 : decode cX7_bringsBy 63 = .ok (.getfield 35, 3) := by decide +kernel
theorem dX7_bringsBy_66 : decode cX7_bringsBy 66 = .ok (.iconst 2, 1) := by decide +kernel
theorem dX7_bringsBy_67 : decode cX7_bringsBy 67 = .ok (.iload_n 3, 1) := by decide +kernel
theorem dX7_bringsBy_68 : decode cX7_bringsBy 68 = .ok (.iconst 2, 1) := by decide +kernel
theorem dX7_bringsBy_69 : decode cX7_bringsBy 69 = .ok (.if_icmp .le 16, 3) := by decide +kernel
theorem dX7_bringsBy_72 : decode cX7_bringsBy 72 = .ok (.aload_n 0, 1) := by decide +kernel
theorem dX7_bringsBy_73 : decode cX7_bringsBy 73 = .ok (.aload_n 0, 1) := by decide +kernel
theorem dX7_bringsBy_74 : decode cX7_bringsBy 74 = .ok (.getfield 35, 3) := by decide +kernel
theorem dX7_bringsBy_77 : decode cX7_bringsBy 77 = .ok (.iconst 1, 1) := by decide +kernel
theorem dX7_bringsBy_78 : decode cX7_bringsBy 78 = .ok (.iaload, 1) := by decide +kernel
theorem dX7_bringsBy_79 : decode cX7_bringsBy 79 = .ok (.invokevirtual 184, 3) := by decide +kernel
theorem dX7_bringsBy_82 : decode cX7_bringsBy 82 = .ok (.goto 4, 3) := by decide +kernel
theorem dX7_bringsBy_85 : decode cX7_bringsBy 85 = .ok (.iconst 0, 1) := by decide +kernel
theorem dX7_bringsBy_86 : decode cX7_bringsBy 86 = .ok (.iastore, 1) := by decide +kernel
theorem dX7_bringsBy_87 : decode cX7_bringsBy 87 = .ok (.aload_n 0, 1) := by decide +kernel
theorem dX7_bringsBy_88 : decode cX7_bringsBy 88 = .ok (.getfield 35, 3) := by decide +kernel
theorem dX7_bringsBy_91 : decode cX7_bringsBy 91 = .ok (.iconst 2, 1) := by decide +kernel
theorem dX7_bringsBy_92 : decode cX7_bringsBy 92 = .ok (.iaload, 1) := by decide +kernel
theorem dX7_bringsBy_93 : decode cX7_bringsBy 93 = .ok (.ifCond .lt 77, 3) := by decide +kernel
theorem dX7_bringsBy_96 : decode cX7_bringsBy 96 = .ok (.iconst 0, 1) := by decide +kernel
theorem dX7_bringsBy_97 : decode cX7_bringsBy 97 = .ok (.istore 4, 2) := by decide +kernel
theorem dX7_bringsBy_99 : decode cX7_bringsBy 99 = .ok (.iload 4, 2) := by decide +kernel
theorem dX7_bringsBy_101 : decode cX7_bringsBy 101 = .ok (.iload_n 3, 1) := by decide +kernel
theorem dX7_bringsBy_102 : decode cX7_bringsBy 102 = .ok (.if_icmp .ge 20, 3) := by decide +kernel
theorem dX7_bringsBy_105 : decode cX7_bringsBy 105 = .ok (.aload_n 0, 1) := by decide +kernel
theorem dX7_bringsBy_106 : decode cX7_bringsBy 106 = .ok (.aload_n 0, 1) := by decide +kernel
theorem dX7_bringsBy_107 : decode cX7_bringsBy 107 = .ok (.getfield 35, 3) := by decide +kernel
theorem dX7_bringsBy_110 : decode cX7_bringsBy 110 = .ok (.iload 4, 2) := by decide +kernel
theorem dX7_bringsBy_112 : decode cX7_bringsBy 112 = .ok (.iaload, 1) := by decide +kernel
theorem dX7_bringsBy_113 : decode cX7_bringsBy 113 = .ok (.invokevirtual 187, 3) := by decide +kernel
theorem dX7_bringsBy_116 : decode cX7_bringsBy 116 = .ok (.iinc 4 1, 3) := by decide +kernel
theorem dX7_bringsBy_119 : decode cX7_bringsBy 119 = .ok (.goto (-20), 3) := by decide +kernel
theorem dX7_bringsBy_122 : decode cX7_bringsBy 122 = .ok (.aload_n 0, 1) := by decide +kernel
theorem dX7_bringsBy_123 : decode cX7_bringsBy 123 = .ok (.iload_n 1, 1) := by decide +kernel
theorem dX7_bringsBy_124 : decode cX7_bringsBy 124 = .ok (.iload_n 2, 1) := by decide +kernel
theorem dX7_bringsBy_125 : decode cX7_bringsBy 125 = .ok (.invokevirtual 190, 3) := by decide +kernel
theorem dX7_bringsBy_128 : decode cX7_bringsBy 128 = .ok (.istore 4, 2) := by decide +kernel
theorem dX7_bringsBy_130 : decode cX7_bringsBy 130 = .ok (.aload_n 0, 1) := by decide +kernel
theorem dX7_bringsBy_131 : decode cX7_bringsBy 131 = .ok (.iconst 0, 1) := by decide +kernel
theorem dX7_bringsBy_132 : decode cX7_bringsBy 132 = .ok (.invokevirtual 180, 3) := by decide +kernel
theorem dX7_bringsBy_135 : decode cX7_bringsBy 135 = .ok (.iload 4, 2) := by decide +kernel
theorem dX7_bringsBy_137 : decode cX7_bringsBy 137 = .ok (.ifCond .eq 5, 3) := by decide +kernel
theorem dX7_bringsBy_140 : decode cX7_bringsBy 140 = .ok (.iload_n 3, 1) := by decide +kernel
theorem dX7_bringsBy_141 : decode cX7_bringsBy 141 = .ok (.ireturn, 1) := by decide +kernel
theorem dX7_bringsBy_142 : decode cX7_bringsBy 142 = .ok (.aload_n 0, 1) := by decide +kernel
theorem dX7_bringsBy_143 : decode cX7_bringsBy 143 = .ok (.getfield 35, 3) := by decide +kernel
theorem dX7_bringsBy_146 : decode cX7_bringsBy 146 = .ok (.iconst 2, 1) := by decide +kernel
theorem dX7_bringsBy_147 : decode cX7_bringsBy 147 = .ok (.iload_n 3, 1) := by decide +kernel
theorem dX7_bringsBy_148 : decode cX7_bringsBy 148 = .ok (.iconst 2, 1) := by decide +kernel
theorem dX7_bringsBy_149 : decode cX7_bringsBy 149 = .ok (.if_icmp .le 16, 3) := by decide +kernel
theorem dX7_bringsBy_152 : decode cX7_bringsBy 152 = .ok (.aload_n 0, 1) := by decide +kernel
theorem dX7_bringsBy_153 : decode cX7_bringsBy 153 = .ok (.aload_n 0, 1) := by decide +kernel
theorem dX7_bringsBy_154 : decode cX7_bringsBy 154 = .ok (.getfield 35, 3) := by decide +kernel
theorem dX7_bringsBy_157 : decode cX7_bringsBy 157 = .ok (.iconst 2, 1) := by decide +kernel
theorem dX7_bringsBy_158 : decode cX7_bringsBy 158 = .ok (.iaload, 1) := by decide +kernel
theorem dX7_bringsBy_159 : decode cX7_bringsBy 159 = .ok (.invokevirtual 184, 3) := by decide +kernel
theorem dX7_bringsBy_162 : decode cX7_bringsBy 162 = .ok (.goto 4, 3) := by decide +kernel
theorem dX7_bringsBy_165 : decode cX7_bringsBy 165 = .ok (.iconst (-1), 1) := by decide +kernel
theorem dX7_bringsBy_166 : decode cX7_bringsBy 166 = .ok (.iastore, 1) := by decide +kernel
theorem dX7_bringsBy_167 : decode cX7_bringsBy 167 = .ok (.goto (-80), 3) := by decide +kernel
theorem dX7_bringsBy_170 : decode cX7_bringsBy 170 = .ok (.aload_n 0, 1) := by decide +kernel
theorem dX7_bringsBy_171 : decode cX7_bringsBy 171 = .ok (.getfield 35, 3) := by decide +kernel
theorem dX7_bringsBy_174 : decode cX7_bringsBy 174 = .ok (.iconst 1, 1) := by decide +kernel
theorem dX7_bringsBy_175 : decode cX7_bringsBy 175 = .ok (.iload_n 3, 1) := by decide +kernel
theorem dX7_bringsBy_176 : decode cX7_bringsBy 176 = .ok (.iconst 1, 1) := by decide +kernel
theorem dX7_bringsBy_177 : decode cX7_bringsBy 177 = .ok (.if_icmp .le 16, 3) := by decide +kernel
theorem dX7_bringsBy_180 : decode cX7_bringsBy 180 = .ok (.aload_n 0, 1) := by decide +kernel
theorem dX7_bringsBy_181 : decode cX7_bringsBy 181 = .ok (.aload_n 0, 1) := by decide +kernel
theorem dX7_bringsBy_182 : decode cX7_bringsBy 182 = .ok (.getfield 35, 3) := by decide +kernel
theorem dX7_bringsBy_185 : decode cX7_bringsBy 185 = .ok (.iconst 1, 1) := by decide +kernel
theorem dX7_bringsBy_186 : decode cX7_bringsBy 186 = .ok (.iaload, 1) := by decide +kernel
theorem dX7_bringsBy_187 : decode cX7_bringsBy 187 = .ok (.invokevirtual 184, 3) := by decide +kernel
theorem dX7_bringsBy_190 : decode cX7_bringsBy 190 = .ok (.goto 4, 3) := by decide +kernel
theorem dX7_bringsBy_193 : decode cX7_bringsBy 193 = .ok (.iconst (-1), 1) := by decide +kernel
theorem dX7_bringsBy_194 : decode cX7_bringsBy 194 = .ok (.iastore, 1) := by decide +kernel
theorem dX7_bringsBy_195 : decode cX7_bringsBy 195 = .ok (.goto (-142), 3) := by decide +kernel
theorem dX7_bringsBy_198 : decode cX7_bringsBy 198 = .ok (.aload_n 0, 1) := by decide +kernel
theorem dX7_bringsBy_199 : decode cX7_bringsBy 199 = .ok (.getfield 35, 3) := by decide +kernel
theorem dX7_bringsBy_202 : decode cX7_bringsBy 202 = .ok (.iconst 0, 1) := by decide +kernel
theorem dX7_bringsBy_203 : decode cX7_bringsBy 203 = .ok (.iload_n 3, 1) := by decide +kernel
theorem dX7_bringsBy_204 : decode cX7_bringsBy 204 = .ok (.ifCond .le 16, 3) := by decide +kernel
theorem dX7_bringsBy_207 : decode cX7_bringsBy 207 = .ok (.aload_n 0, 1) := by decide +kernel
theorem dX7_bringsBy_208 : decode cX7_bringsBy 208 = .ok (.aload_n 0, 1) := by decide +kernel
theorem dX7_bringsBy_209 : decode cX7_bringsBy 209 = .ok (.getfield 35, 3) := by decide +kernel
theorem dX7_bringsBy_212 : decode cX7_bringsBy 212 = .ok (.iconst 0, 1) := by decide +kernel
theorem dX7_bringsBy_213 : decode cX7_bringsBy 213 = .ok (.iaload, 1) := by decide +kernel
theorem dX7_bringsBy_214 : decode cX7_bringsBy 214 = .ok (.invokevirtual 184, 3) := by decide +kernel
theorem dX7_bringsBy_217 : decode cX7_bringsBy 217 = .ok (.goto 4, 3) := by decide +kernel
theorem dX7_bringsBy_220 : decode cX7_bringsBy 220 = .ok (.iconst (-1), 1) := by decide +kernel
theorem dX7_bringsBy_221 : decode cX7_bringsBy 221 = .ok (.iastore, 1) := by decide +kernel
theorem dX7_bringsBy_222 : decode cX7_bringsBy 222 = .ok (.goto (-203), 3) := by decide +kernel
theorem dX7_bringsBy_225 : decode cX7_bringsBy 225 = .ok (.bipush (-9), 2) := by decide +kernel
theorem dX7_bringsBy_227 : decode cX7_bringsBy 227 = .ok (.ireturn, 1) := by decide +kernel
theorem dX7_brings_0 : decode cX7_brings 0 = .ok (.aload_n 0, 1) := by decide +kernel
theorem dX7_brings_1 : decode cX7_brings 1 = .ok (.iconst 0, 1) := by decide +kernel
theorem dX7_brings_2 : decode cX7_brings 2 = .ok (.putfield 51, 3) := by decide +kernel
theorem dX7_brings_5 : decode cX7_brings 5 = .ok (.aload_n 0, 1) := by decide +kernel
theorem dX7_brings_6 : decode cX7_brings 6 = .ok (.iload_n 1, 1) := by decide +kernel
theorem dX7_brings_7 : decode cX7_brings 7 = .ok (.invokevirtual 146, 3) := by decide +kernel
theorem dX7_brings_10 : decode cX7_brings 10 = .ok (.ifCond .eq 21, 3) := by decide +kernel
theorem dX7_brings_13 : decode cX7_brings 13 = .ok (.iload_n 2, 1) := by decide +kernel
theorem dX7_brings_14 : decode cX7_brings 14 = .ok (.iconst 0, 1) := by decide +kernel
theorem dX7_brings_15 : decode cX7_brings 15 = .ok (.iconst 1, 1) := by decide +kernel
theorem dX7_brings_16 : decode cX7_brings 16 = .ok (.invokestatic 54, 3) := by decide +kernel
theorem dX7_brings_19 : decode cX7_brings 19 = .ok (.ifCond .eq 12, 3) := by decide +kernel
theorem dX7_brings_22 : decode cX7_brings 22 = .ok (.iload_n 3, 1) := by decide +kernel
theorem dX7_brings_23 : decode cX7_brings 23 = .ok (.iconst (-1), 1) := by decide +kernel
theorem dX7_brings_24 : decode cX7_brings 24 = .ok (.iconst 2, 1) := by decide +kernel
theorem dX7_brings_25 : decode cX7_brings 25 = .ok (.invokestatic 54, 3) := by decide +kernel
theorem dX7_brings_28 : decode cX7_brings 28 = .ok (.ifCond .ne 5, 3) := by decide +kernel
theorem dX7_brings_31 : decode cX7_brings 31 = .ok (.iconst (-1), 1) := by decide +kernel
theorem dX7_brings_32 : decode cX7_brings 32 = .ok (.ireturn, 1) := by decide +kernel
theorem dX7_brings_33 : decode cX7_brings 33 = .ok (.aload_n 0, 1) := by decide +kernel
theorem dX7_brings_34 : decode cX7_brings 34 = .ok (.iconst 1, 1) := by decide +kernel
theorem dX7_brings_35 : decode cX7_brings 35 = .ok (.invokevirtual 180, 3) := by decide +kernel
theorem dX7_brings_38 : decode cX7_brings 38 = .ok (.bipush (-9), 2) := by decide +kernel
theorem dX7_brings_40 : decode cX7_brings 40 = .ok (.istore 4, 2) := by decide +kernel
theorem dX7_brings_42 : decode cX7_brings 42 = .ok (.iconst 0, 1) := by decide +kernel
theorem dX7_brings_43 : decode cX7_brings 43 = .ok (.istore 5, 2) := by decide +kernel
theorem dX7_brings_45 : decode cX7_brings 45 = .ok (.iload 5, 2) := by decide +kernel
theorem dX7_brings_47 : decode cX7_brings 47 = .ok (.iconst 4, 1) := by decide +kernel
theorem dX7_brings_48 : decode cX7_brings 48 = .ok (.if_icmp .ge 26, 3) := by decide +kernel
theorem dX7_brings_51 : decode cX7_brings 51 = .ok (.iload 4, 2) := by decide +kernel
theorem dX7_brings_53 : decode cX7_brings 53 = .ok (.bipush (-9), 2) := by decide +kernel
theorem dX7_brings_55 : decode cX7_brings 55 = .ok (.if_icmp .ne 19, 3) := by decide +kernel
theorem dX7_brings_58 : decode cX7_brings 58 = .ok (.aload_n 0, 1) := by decide +kernel
theorem dX7_brings_59 : decode cX7_brings 59 = .ok (.iload_n 1, 1) := by decide +kernel
theorem dX7_brings_60 : decode cX7_brings 60 = .ok (.iload_n 2, 1) := by decide +kernel
theorem dX7_brings_61 : decode cX7_brings 61 = .ok (.iload 5, 2) := by decide +kernel
theorem dX7_brings_63 : decode cX7_brings 63 = .ok (.invokevirtual 193, 3) := by decide +kernel
theorem dX7_brings_66 : decode cX7_brings 66 = .ok (.istore 4, 2) := by decide +kernel
theorem dX7_brings_68 : decode cX7_brings 68 = .ok (.iinc 5 1, 3) := by decide +kernel
theorem dX7_brings_71 : decode cX7_brings 71 = .ok (.goto (-26), 3) := by decide +kernel
theorem dX7_brings_74 : decode cX7_brings 74 = .ok (.iload 4, 2) := by decide +kernel
theorem dX7_brings_76 : decode cX7_brings 76 = .ok (.bipush (-9), 2) := by decide +kernel
theorem dX7_brings_78 : decode cX7_brings 78 = .ok (.if_icmp .eq 7, 3) := by decide +kernel
theorem dX7_brings_81 : decode cX7_brings 81 = .ok (.iload_n 3, 1) := by decide +kernel
theorem dX7_brings_82 : decode cX7_brings 82 = .ok (.ifCond .ge 8, 3) := by decide +kernel
theorem dX7_brings_85 : decode cX7_brings 85 = .ok (.iload 4, 2) := by decide +kernel
theorem dX7_brings_87 : decode cX7_brings 87 = .ok (.goto 20, 3) := by decide +kernel
theorem dX7_brings_90 : decode cX7_brings 90 = .ok (.iload_n 3, 1) := by decide +kernel
theorem dX7_brings_91 : decode cX7_brings 91 = .ok (.iload 4, 2) := by decide +kernel
theorem dX7_brings_93 : decode cX7_brings 93 = .ok (.if_icmp .ge 12, 3) := by decide +kernel
theorem dX7_brings_96 : decode cX7_brings 96 = .ok (.aload_n 0, 1) := by decide +kernel
theorem dX7_brings_97 : decode cX7_brings 97 = .ok (.getfield 35, 3) := by decide +kernel
theorem dX7_brings_100 : decode cX7_brings 100 = .ok (.iload_n 3, 1) := by decide +kernel
theorem dX7_brings_101 : decode cX7_brings 101 = .ok (.iaload, 1) := by decide +kernel
theorem dX7_brings_102 : decode cX7_brings 102 = .ok (.goto 5, 3) := by decide +kernel
theorem dX7_brings_105 : decode cX7_brings 105 = .ok (.bipush (-5), 2) := by decide +kernel
theorem dX7_brings_107 : decode cX7_brings 107 = .ok (.ireturn, 1) := by decide +kernel
theorem dX7_whoOf_0 : decode cX7_whoOf 0 = .ok (.iload_n 1, 1) := by decide +kernel
theorem dX7_whoOf_1 : decode cX7_whoOf 1 = .ok (.iload_n 2, 1) := by decide +kernel
theorem dX7_whoOf_2 : decode cX7_whoOf 2 = .ok (.iadd, 1) := by decide +kernel
theorem dX7_whoOf_3 : decode cX7_whoOf 3 = .ok (.aload_n 0, 1) := by decide +kernel
theorem dX7_whoOf_4 : decode cX7_whoOf 4 = .ok (.getfield 137, 3) := by decide +kernel
theorem dX7_whoOf_7 : decode cX7_whoOf 7 = .ok (.irem, 1) := by decide +kernel
theorem dX7_whoOf_8 : decode cX7_whoOf 8 = .ok (.ireturn, 1) := by decide +kernel
theorem dX7_asideOf_0 : decode cX7_asideOf 0 = .ok (.iconst 0, 1) := by decide +kernel
theorem dX7_asideOf_1 : decode cX7_asideOf 1 = .ok (.istore_n 3, 1) := by decide +kernel
theorem dX7_asideOf_2 : decode cX7_asideOf 2 = .ok (.iload_n 3, 1) := by decide +kernel
theorem dX7_asideOf_3 : decode cX7_asideOf 3 = .ok (.bipush 8, 2) := by decide +kernel
theorem dX7_asideOf_5 : decode cX7_asideOf 5 = .ok (.if_icmp .ge 50, 3) := by decide +kernel
theorem dX7_asideOf_8 : decode cX7_asideOf 8 = .ok (.iload_n 2, 1) := by decide +kernel
theorem dX7_asideOf_9 : decode cX7_asideOf 9 = .ok (.ifCond .eq 23, 3) := by decide +kernel
theorem dX7_asideOf_12 : decode cX7_asideOf 12 = .ok (.aload_n 0, 1) := by decide +kernel
theorem dX7_asideOf_13 : decode cX7_asideOf 13 = .ok (.getfield 38, 3) := by decide +kernel
theorem dX7_asideOf_16 : decode cX7_asideOf 16 = .ok (.bipush 8, 2) := by decide +kernel
theorem dX7_asideOf_18 : decode cX7_asideOf 18 = .ok (.iload_n 1, 1) := by decide +kernel
theorem dX7_asideOf_19 : decode cX7_asideOf 19 = .ok (.imul, 1) := by decide +kernel
theorem dX7_asideOf_20 : decode cX7_asideOf 20 = .ok (.iload_n 3, 1) := by decide +kernel
theorem dX7_asideOf_21 : decode cX7_asideOf 21 = .ok (.iadd, 1) := by decide +kernel
theorem dX7_asideOf_22 : decode cX7_asideOf 22 = .ok (.aload_n 0, 1) := by decide +kernel
theorem dX7_asideOf_23 : decode cX7_asideOf 23 = .ok (.getfield 19, 3) := by decide +kernel
theorem dX7_asideOf_26 : decode cX7_asideOf 26 = .ok (.iload_n 3, 1) := by decide +kernel
theorem dX7_asideOf_27 : decode cX7_asideOf 27 = .ok (.iaload, 1) := by decide +kernel
theorem dX7_asideOf_28 : decode cX7_asideOf 28 = .ok (.iastore, 1) := by decide +kernel
theorem dX7_asideOf_29 : decode cX7_asideOf 29 = .ok (.goto 20, 3) := by decide +kernel
theorem dX7_asideOf_32 : decode cX7_asideOf 32 = .ok (.aload_n 0, 1) := by decide +kernel
theorem dX7_asideOf_33 : decode cX7_asideOf 33 = .ok (.getfield 19, 3) := by decide +kernel
theorem dX7_asideOf_36 : decode cX7_asideOf 36 = .ok (.iload_n 3, 1) := by decide +kernel
theorem dX7_asideOf_37 : decode cX7_asideOf 37 = .ok (.aload_n 0, 1) := by decide +kernel
theorem dX7_asideOf_38 : decode cX7_asideOf 38 = .ok (.getfield 38, 3) := by decide +kernel
theorem dX7_asideOf_41 : decode cX7_asideOf 41 = .ok (.bipush 8, 2) := by decide +kernel
theorem dX7_asideOf_43 : decode cX7_asideOf 43 = .ok (.iload_n 1, 1) := by decide +kernel
theorem dX7_asideOf_44 : decode cX7_asideOf 44 = .ok (.imul, 1) := by decide +kernel
theorem dX7_asideOf_45 : decode cX7_asideOf 45 = .ok (.iload_n 3, 1) := by decide +kernel
theorem dX7_asideOf_46 : decode cX7_asideOf 46 = .ok (.iadd, 1) := by decide +kernel
theorem dX7_asideOf_47 : decode cX7_asideOf 47 = .ok (.iaload, 1) := by decide +kernel
theorem dX7_asideOf_48 : decode cX7_asideOf 48 = .ok (.iastore, 1) := by decide +kernel
theorem dX7_asideOf_49 : decode cX7_asideOf 49 = .ok (.iinc 3 1, 3) := by decide +kernel
theorem dX7_asideOf_52 : decode cX7_asideOf 52 = .ok (.goto (-50), 3) := by decide +kernel
theorem dX7_asideOf_55 : decode cX7_asideOf 55 = .ok (.return_, 1) := by decide +kernel
theorem dX7_acts_0 : decode cX7_acts 0 = .ok (.aload_n 0, 1) := by decide +kernel
theorem dX7_acts_1 : decode cX7_acts 1 = .ok (.iload_n 1, 1) := by decide +kernel
theorem dX7_acts_2 : decode cX7_acts 2 = .ok (.iload_n 2, 1) := by decide +kernel
theorem dX7_acts_3 : decode cX7_acts 3 = .ok (.invokevirtual 197, 3) := by decide +kernel
theorem dX7_acts_6 : decode cX7_acts 6 = .ok (.istore 4, 2) := by decide +kernel
theorem dX7_acts_8 : decode cX7_acts 8 = .ok (.iload_n 3, 1) := by decide +kernel
theorem dX7_acts_9 : decode cX7_acts 9 = .ok (.iload 4, 2) := by decide +kernel
theorem dX7_acts_11 : decode cX7_acts 11 = .ok (.if_icmp .ne 5, 3) := by decide +kernel
theorem dX7_acts_14 : decode cX7_acts 14 = .ok (.iconst 0, 1) := by decide +kernel
theorem dX7_acts_15 : decode cX7_acts 15 = .ok (.ireturn, 1) := by decide +kernel
theorem dX7_acts_16 : decode cX7_acts 16 = .ok (.iload_n 3, 1) := by decide +kernel
theorem dX7_acts_17 : decode cX7_acts 17 = .ok (.ifCond .lt 29, 3) := by decide +kernel
theorem dX7_acts_20 : decode cX7_acts 20 = .ok (.aload_n 0, 1) := by decide +kernel
theorem dX7_acts_21 : decode cX7_acts 21 = .ok (.getfield 19, 3) := by decide +kernel
theorem dX7_acts_24 : decode cX7_acts 24 = .ok (.iload 4, 2) := by decide +kernel
theorem dX7_acts_26 : decode cX7_acts 26 = .ok (.dup2, 1) := by decide +kernel
theorem dX7_acts_27 : decode cX7_acts 27 = .ok (.iaload, 1) := by decide +kernel
theorem dX7_acts_28 : decode cX7_acts 28 = .ok (.iconst 1, 1) := by decide +kernel
theorem dX7_acts_29 : decode cX7_acts 29 = .ok (.iload_n 3, 1) := by decide +kernel
theorem dX7_acts_30 : decode cX7_acts 30 = .ok (.ishl, 1) := by decide +kernel
theorem dX7_acts_31 : decode cX7_acts 31 = .ok (.ior, 1) := by decide +kernel
theorem dX7_acts_32 : decode cX7_acts 32 = .ok (.iastore, 1) := by decide +kernel
theorem dX7_acts_33 : decode cX7_acts 33 = .ok (.aload_n 0, 1) := by decide +kernel
theorem dX7_acts_34 : decode cX7_acts 34 = .ok (.getfield 19, 3) := by decide +kernel
theorem dX7_acts_37 : decode cX7_acts 37 = .ok (.iload_n 3, 1) := by decide +kernel
theorem dX7_acts_38 : decode cX7_acts 38 = .ok (.dup2, 1) := by decide +kernel
theorem dX7_acts_39 : decode cX7_acts 39 = .ok (.iaload, 1) := by decide +kernel
theorem dX7_acts_40 : decode cX7_acts 40 = .ok (.iconst 1, 1) := by decide +kernel
theorem dX7_acts_41 : decode cX7_acts 41 = .ok (.iload 4, 2) := by decide +kernel
theorem dX7_acts_43 : decode cX7_acts 43 = .ok (.ishl, 1) := by decide +kernel
theorem dX7_acts_44 : decode cX7_acts 44 = .ok (.ior, 1) := by decide +kernel
theorem dX7_acts_45 : decode cX7_acts 45 = .ok (.iastore, 1) := by decide +kernel
theorem dX7_acts_46 : decode cX7_acts 46 = .ok (.iconst 1, 1) := by decide +kernel
theorem dX7_acts_47 : decode cX7_acts 47 = .ok (.ireturn, 1) := by decide +kernel
theorem dX7_lastDay_0 : decode cX7_lastDay 0 = .ok (.aload_n 0, 1) := by decide +kernel
theorem dX7_lastDay_1 : decode cX7_lastDay 1 = .ok (.iload_n 2, 1) := by decide +kernel
theorem dX7_lastDay_2 : decode cX7_lastDay 2 = .ok (.iconst 1, 1) := by decide +kernel
theorem dX7_lastDay_3 : decode cX7_lastDay 3 = .ok (.invokevirtual 200, 3) := by decide +kernel
theorem dX7_lastDay_6 : decode cX7_lastDay 6 = .ok (.aload_n 0, 1) := by decide +kernel
theorem dX7_lastDay_7 : decode cX7_lastDay 7 = .ok (.invokevirtual 167, 3) := by decide +kernel
theorem dX7_lastDay_10 : decode cX7_lastDay 10 = .ok (.istore 4, 2) := by decide +kernel
theorem dX7_lastDay_12 : decode cX7_lastDay 12 = .ok (.aload_n 0, 1) := by decide +kernel
theorem dX7_lastDay_13 : decode cX7_lastDay 13 = .ok (.getfield 41, 3) := by decide +kernel
theorem dX7_lastDay_16 : decode cX7_lastDay 16 = .ok (.iload_n 2, 1) := by decide +kernel
theorem dX7_lastDay_17 : decode cX7_lastDay 17 = .ok (.bipush (-9), 2) := by decide +kernel
theorem dX7_lastDay_19 : decode cX7_lastDay 19 = .ok (.iastore, 1) := by decide +kernel
theorem dX7_lastDay_20 : decode cX7_lastDay 20 = .ok (.iload 4, 2) := by decide +kernel
theorem dX7_lastDay_22 : decode cX7_lastDay 22 = .ok (.aload_n 0, 1) := by decide +kernel
theorem dX7_lastDay_23 : decode cX7_lastDay 23 = .ok (.iload_n 1, 1) := by decide +kernel
theorem dX7_lastDay_24 : decode cX7_lastDay 24 = .ok (.iload_n 2, 1) := by decide +kernel
theorem dX7_lastDay_25 : decode cX7_lastDay 25 = .ok (.invokevirtual 197, 3) := by decide +kernel
theorem dX7_lastDay_28 : decode cX7_lastDay 28 = .ok (.if_icmp .ne 7, 3) := by decide +kernel
theorem dX7_lastDay_31 : decode cX7_lastDay 31 = .ok (.iconst 1, 1) := by decide +kernel
theorem dX7_lastDay_32 : decode cX7_lastDay 32 = .ok (.goto 4, 3) := by decide +kernel
theorem dX7_lastDay_35 : decode cX7_lastDay 35 = .ok (.iconst 0, 1) := by decide +kernel
theorem dX7_lastDay_36 : decode cX7_lastDay 36 = .ok (.iload_n 3, 1) := by decide +kernel
theorem dX7_lastDay_37 : decode cX7_lastDay 37 = .ok (.if_icmp .ne 7, 3) := by decide +kernel
theorem dX7_lastDay_40 : decode cX7_lastDay 40 = .ok (.iconst 1, 1) := by decide +kernel
theorem dX7_lastDay_41 : decode cX7_lastDay 41 = .ok (.goto 4, 3) := by decide +kernel
theorem dX7_lastDay_44 : decode cX7_lastDay 44 = .ok (.iconst 0, 1) := by decide +kernel
theorem dX7_lastDay_45 : decode cX7_lastDay 45 = .ok (.istore 5, 2) := by decide +kernel
theorem dX7_lastDay_47 : decode cX7_lastDay 47 = .ok (.iconst 0, 1) := by decide +kernel
theorem dX7_lastDay_48 : decode cX7_lastDay 48 = .ok (.istore 6, 2) := by decide +kernel
theorem dX7_lastDay_50 : decode cX7_lastDay 50 = .ok (.iload 6, 2) := by decide +kernel
theorem dX7_lastDay_52 : decode cX7_lastDay 52 = .ok (.aload_n 0, 1) := by decide +kernel
theorem dX7_lastDay_53 : decode cX7_lastDay 53 = .ok (.getfield 137, 3) := by decide +kernel
theorem dX7_lastDay_56 : decode cX7_lastDay 56 = .ok (.if_icmp .ge 96, 3) := by decide +kernel
theorem dX7_lastDay_59 : decode cX7_lastDay 59 = .ok (.iload 5, 2) := by decide +kernel
theorem dX7_lastDay_61 : decode cX7_lastDay 61 = .ok (.ifCond .ne 91, 3) := by decide +kernel
theorem dX7_lastDay_64 : decode cX7_lastDay 64 = .ok (.aload_n 0, 1) := by decide +kernel
theorem dX7_lastDay_65 : decode cX7_lastDay 65 = .ok (.iload_n 1, 1) := by decide +kernel
theorem dX7_lastDay_66 : decode cX7_lastDay 66 = .ok (.iload_n 2, 1) := by decide +kernel
theorem dX7_lastDay_67 : decode cX7_lastDay 67 = .ok (.iload 6, 2) := by decide +kernel
theorem dX7_lastDay_69 : decode cX7_lastDay 69 = .ok (.invokevirtual 204, 3) := by decide +kernel
theorem dX7_lastDay_72 : decode cX7_lastDay 72 = .ok (.ifCond .eq 74, 3) := by decide +kernel
theorem dX7_lastDay_75 : decode cX7_lastDay 75 = .ok (.aload_n 0, 1) := by decide +kernel
theorem dX7_lastDay_76 : decode cX7_lastDay 76 = .ok (.invokevirtual 167, 3) := by decide +kernel
theorem dX7_lastDay_79 : decode cX7_lastDay 79 = .ok (.istore 7, 2) := by decide +kernel
theorem dX7_lastDay_81 : decode cX7_lastDay 81 = .ok (.aload_n 0, 1) := by decide +kernel
theorem dX7_lastDay_82 : decode cX7_lastDay 82 = .ok (.iload_n 2, 1) := by decide +kernel
theorem dX7_lastDay_83 : decode cX7_lastDay 83 = .ok (.iconst 0, 1) := by decide +kernel
theorem dX7_lastDay_84 : decode cX7_lastDay 84 = .ok (.invokevirtual 200, 3) := by decide +kernel
theorem dX7_lastDay_87 : decode cX7_lastDay 87 = .ok (.iload 7, 2) := by decide +kernel
theorem dX7_lastDay_89 : decode cX7_lastDay 89 = .ok (.aload_n 0, 1) := by decide +kernel
theorem dX7_lastDay_90 : decode cX7_lastDay 90 = .ok (.iload_n 1, 1) := by decide +kernel
theorem dX7_lastDay_91 : decode cX7_lastDay 91 = .ok (.iload_n 2, 1) := by decide +kernel
theorem dX7_lastDay_92 : decode cX7_lastDay 92 = .ok (.invokevirtual 197, 3) := by decide +kernel
theorem dX7_lastDay_95 : decode cX7_lastDay 95 = .ok (.if_icmp .ne 7, 3) := by decide +kernel
theorem dX7_lastDay_98 : decode cX7_lastDay 98 = .ok (.iconst 1, 1) := by decide +kernel
theorem dX7_lastDay_99 : decode cX7_lastDay 99 = .ok (.goto 4, 3) := by decide +kernel
theorem dX7_lastDay_102 : decode cX7_lastDay 102 = .ok (.iconst 0, 1) := by decide +kernel
theorem dX7_lastDay_103 : decode cX7_lastDay 103 = .ok (.iload_n 3, 1) := by decide +kernel
theorem dX7_lastDay_104 : decode cX7_lastDay 104 = .ok (.if_icmp .ne 7, 3) := by decide +kernel
theorem dX7_lastDay_107 : decode cX7_lastDay 107 = .ok (.iconst 1, 1) := by decide +kernel
theorem dX7_lastDay_108 : decode cX7_lastDay 108 = .ok (.goto 4, 3) := by decide +kernel
theorem dX7_lastDay_111 : decode cX7_lastDay 111 = .ok (.iconst 0, 1) := by decide +kernel
theorem dX7_lastDay_112 : decode cX7_lastDay 112 = .ok (.istore 5, 2) := by decide +kernel
theorem dX7_lastDay_114 : decode cX7_lastDay 114 = .ok (.aload_n 0, 1) := by decide +kernel
theorem dX7_lastDay_115 : decode cX7_lastDay 115 = .ok (.getfield 41, 3) := by decide +kernel
theorem dX7_lastDay_118 : decode cX7_lastDay 118 = .ok (.iload_n 2, 1) := by decide +kernel
theorem dX7_lastDay_119 : decode cX7_lastDay 119 = .ok (.iload 5, 2) := by decide +kernel
theorem dX7_lastDay_121 : decode cX7_lastDay 121 = .ok (.ifCond .eq 8, 3) := by decide +kernel
theorem dX7_lastDay_124 : decode cX7_lastDay 124 = .ok (.iload 6, 2) := by decide +kernel
theorem dX7_lastDay_126 : decode cX7_lastDay 126 = .ok (.goto 5, 3) := by decide +kernel
theorem dX7_lastDay_129 : decode cX7_lastDay 129 = .ok (.bipush (-9), 2) := by decide +kernel
theorem dX7_lastDay_131 : decode cX7_lastDay 131 = .ok (.iastore, 1) := by decide +kernel
theorem dX7_lastDay_132 : decode cX7_lastDay 132 = .ok (.iload 5, 2) := by decide +kernel
theorem dX7_lastDay_134 : decode cX7_lastDay 134 = .ok (.ifCond .eq 8, 3) := by decide +kernel
theorem dX7_lastDay_137 : decode cX7_lastDay 137 = .ok (.iload 7, 2) := by decide +kernel
theorem dX7_lastDay_139 : decode cX7_lastDay 139 = .ok (.goto 5, 3) := by decide +kernel
theorem dX7_lastDay_142 : decode cX7_lastDay 142 = .ok (.iload 4, 2) := by decide +kernel
theorem dX7_lastDay_144 : decode cX7_lastDay 144 = .ok (.istore 4, 2) := by decide +kernel
theorem dX7_lastDay_146 : decode cX7_lastDay 146 = .ok (.iinc 6 1, 3) := by decide +kernel
theorem dX7_lastDay_149 : decode cX7_lastDay 149 = .ok (.goto (-99), 3) := by decide +kernel
theorem dX7_lastDay_152 : decode cX7_lastDay 152 = .ok (.iload 4, 2) := by decide +kernel
theorem dX7_lastDay_154 : decode cX7_lastDay 154 = .ok (.ireturn, 1) := by decide +kernel
theorem dX7_lastButOne_0 : decode cX7_lastButOne 0 = .ok (.iload_n 2, 1) := by decide +kernel
theorem dX7_lastButOne_1 : decode cX7_lastButOne 1 = .ok (.iload_n 3, 1) := by decide +kernel
theorem dX7_lastButOne_2 : decode cX7_lastButOne 2 = .ok (.iconst 1, 1) := by decide +kernel
theorem dX7_lastButOne_3 : decode cX7_lastButOne 3 = .ok (.isub, 1) := by decide +kernel
theorem dX7_lastButOne_4 : decode cX7_lastButOne 4 = .ok (.if_icmp .ne 12, 3) := by decide +kernel
theorem dX7_lastButOne_7 : decode cX7_lastButOne 7 = .ok (.aload_n 0, 1) := by decide +kernel
theorem dX7_lastButOne_8 : decode cX7_lastButOne 8 = .ok (.iload_n 1, 1) := by decide +kernel
theorem dX7_lastButOne_9 : decode cX7_lastButOne 9 = .ok (.iload_n 2, 1) := by decide +kernel
theorem dX7_lastButOne_10 : decode cX7_lastButOne 10 = .ok (.iload 4, 2) := by decide +kernel
theorem dX7_lastButOne_12 : decode cX7_lastButOne 12 = .ok (.invokevirtual 207, 3) := by decide +kernel
theorem dX7_lastButOne_15 : decode cX7_lastButOne 15 = .ok (.ireturn, 1) := by decide +kernel
theorem dX7_lastButOne_16 : decode cX7_lastButOne 16 = .ok (.aload_n 0, 1) := by decide +kernel
theorem dX7_lastButOne_17 : decode cX7_lastButOne 17 = .ok (.iload_n 2, 1) := by decide +kernel
theorem dX7_lastButOne_18 : decode cX7_lastButOne 18 = .ok (.iconst 1, 1) := by decide +kernel
theorem dX7_lastButOne_19 : decode cX7_lastButOne 19 = .ok (.invokevirtual 200, 3) := by decide +kernel
theorem dX7_lastButOne_22 : decode cX7_lastButOne 22 = .ok (.aload_n 0, 1) := by decide +kernel
theorem dX7_lastButOne_23 : decode cX7_lastButOne 23 = .ok (.iload_n 1, 1) := by decide +kernel
theorem dX7_lastButOne_24 : decode cX7_lastButOne 24 = .ok (.iload_n 2, 1) := by decide +kernel
theorem dX7_lastButOne_25 : decode cX7_lastButOne 25 = .ok (.iconst 1, 1) := by decide +kernel
theorem dX7_lastButOne_26 : decode cX7_lastButOne 26 = .ok (.iadd, 1) := by decide +kernel
theorem dX7_lastButOne_27 : decode cX7_lastButOne 27 = .ok (.iload 4, 2) := by decide +kernel
theorem dX7_lastButOne_29 : decode cX7_lastButOne 29 = .ok (.invokevirtual 207, 3) := by decide +kernel
theorem dX7_lastButOne_32 : decode cX7_lastButOne 32 = .ok (.istore 5, 2) := by decide +kernel
theorem dX7_lastButOne_34 : decode cX7_lastButOne 34 = .ok (.aload_n 0, 1) := by decide +kernel
theorem dX7_lastButOne_35 : decode cX7_lastButOne 35 = .ok (.iload_n 2, 1) := by decide +kernel
theorem dX7_lastButOne_36 : decode cX7_lastButOne 36 = .ok (.iconst 0, 1) := by decide +kernel
theorem dX7_lastButOne_37 : decode cX7_lastButOne 37 = .ok (.invokevirtual 200, 3) := by decide +kernel
theorem dX7_lastButOne_40 : decode cX7_lastButOne 40 = .ok (.aload_n 0, 1) := by decide +kernel
theorem dX7_lastButOne_41 : decode cX7_lastButOne 41 = .ok (.getfield 41, 3) := by decide +kernel
theorem dX7_lastButOne_44 : decode cX7_lastButOne 44 = .ok (.iload_n 2, 1) := by decide +kernel
theorem dX7_lastButOne_45 : decode cX7_lastButOne 45 = .ok (.bipush (-9), 2) := by decide +kernel
theorem dX7_lastButOne_47 : decode cX7_lastButOne 47 = .ok (.iastore, 1) := by decide +kernel
theorem dX7_lastButOne_48 : decode cX7_lastButOne 48 = .ok (.iload 5, 2) := by decide +kernel
theorem dX7_lastButOne_50 : decode cX7_lastButOne 50 = .ok (.aload_n 0, 1) := by decide +kernel
theorem dX7_lastButOne_51 : decode cX7_lastButOne 51 = .ok (.iload_n 1, 1) := by decide +kernel
theorem dX7_lastButOne_52 : decode cX7_lastButOne 52 = .ok (.iload_n 2, 1) := by decide +kernel
theorem dX7_lastButOne_53 : decode cX7_lastButOne 53 = .ok (.invokevirtual 197, 3) := by decide +kernel
theorem dX7_lastButOne_56 : decode cX7_lastButOne 56 = .ok (.if_icmp .ne 7, 3) := by decide +kernel
theorem dX7_lastButOne_59 : decode cX7_lastButOne 59 = .ok (.iconst 1, 1) := by decide +kernel
theorem dX7_lastButOne_60 : decode cX7_lastButOne 60 = .ok (.goto 4, 3) := by decide +kernel
theorem dX7_lastButOne_63 : decode cX7_lastButOne 63 = .ok (.iconst 0, 1) := by decide +kernel
theorem dX7_lastButOne_64 : decode cX7_lastButOne 64 = .ok (.iload 4, 2) := by decide +kernel
theorem dX7_lastButOne_66 : decode cX7_lastButOne 66 = .ok (.if_icmp .ne 7, 3) := by decide +kernel
theorem dX7_lastButOne_69 : decode cX7_lastButOne 69 = .ok (.iconst 1, 1) := by decide +kernel
theorem dX7_lastButOne_70 : decode cX7_lastButOne 70 = .ok (.goto 4, 3) := by decide +kernel
theorem dX7_lastButOne_73 : decode cX7_lastButOne 73 = .ok (.iconst 0, 1) := by decide +kernel
theorem dX7_lastButOne_74 : decode cX7_lastButOne 74 = .ok (.istore 6, 2) := by decide +kernel
theorem dX7_lastButOne_76 : decode cX7_lastButOne 76 = .ok (.iconst 0, 1) := by decide +kernel
theorem dX7_lastButOne_77 : decode cX7_lastButOne 77 = .ok (.istore 7, 2) := by decide +kernel
theorem dX7_lastButOne_79 : decode cX7_lastButOne 79 = .ok (.iload 7, 2) := by decide +kernel
theorem dX7_lastButOne_81 : decode cX7_lastButOne 81 = .ok (.aload_n 0, 1) := by decide +kernel
theorem dX7_lastButOne_82 : decode cX7_lastButOne 82 = .ok (.getfield 137, 3) := by decide +kernel
theorem dX7_lastButOne_85 : decode cX7_lastButOne 85 = .ok (.if_icmp .ge 103, 3) := by decide +kernel
theorem dX7_lastButOne_88 : decode cX7_lastButOne 88 = .ok (.iload 6, 2) := by decide +kernel
theorem dX7_lastButOne_90 : decode cX7_lastButOne 90 = .ok (.ifCond .ne 98, 3) := by decide +kernel
theorem dX7_lastButOne_93 : decode cX7_lastButOne 93 = .ok (.aload_n 0, 1) := by decide +kernel
theorem dX7_lastButOne_94 : decode cX7_lastButOne 94 = .ok (.iload_n 1, 1) := by decide +kernel
theorem dX7_lastButOne_95 : decode cX7_lastButOne 95 = .ok (.iload_n 2, 1) := by decide +kernel
theorem dX7_lastButOne_96 : decode cX7_lastButOne 96 = .ok (.iload 7, 2) := by decide +kernel
theorem dX7_lastButOne_98 : decode cX7_lastButOne 98 = .ok (.invokevirtual 204, 3) := by decide +kernel
theorem dX7_lastButOne_101 : decode cX7_lastButOne 101 = .ok (.ifCond .eq 81, 3) := by decide +kernel
theorem dX7_lastButOne_104 : decode cX7_lastButOne 104 = .ok (.aload_n 0, 1) := by decide +kernel
theorem dX7_lastButOne_105 : decode cX7_lastButOne 105 = .ok (.iload_n 1, 1) := by decide +kernel
theorem dX7_lastButOne_106 : decode cX7_lastButOne 106 = .ok (.iload_n 2, 1) := by decide +kernel
theorem dX7_lastButOne_107 : decode cX7_lastButOne 107 = .ok (.iconst 1, 1) := by decide +kernel
theorem dX7_lastButOne_108 : decode cX7_lastButOne 108 = .ok (.iadd, 1) := by decide +kernel
theorem dX7_lastButOne_109 : decode cX7_lastButOne 109 = .ok (.iload 4, 2) := by decide +kernel
theorem dX7_lastButOne_111 : decode cX7_lastButOne 111 = .ok (.invokevirtual 207, 3) := by decide +kernel
theorem dX7_lastButOne_114 : decode cX7_lastButOne 114 = .ok (.istore 8, 2) := by decide +kernel
theorem dX7_lastButOne_116 : decode cX7_lastButOne 116 = .ok (.aload_n 0, 1) := by decide +kernel
theorem dX7_lastButOne_117 : decode cX7_lastButOne 117 = .ok (.iload_n 2, 1) := by decide +kernel
theorem dX7_lastButOne_118 : decode cX7_lastButOne 118 = .ok (.iconst 0, 1) := by decide +kernel
theorem dX7_lastButOne_119 : decode cX7_lastButOne 119 = .ok (.invokevirtual 200, 3) := by decide +kernel
theorem dX7_lastButOne_122 : decode cX7_lastButOne 122 = .ok (.iload 8, 2) := by decide +kernel
theorem dX7_lastButOne_124 : decode cX7_lastButOne 124 = .ok (.aload_n 0, 1) := by decide +kernel
theorem dX7_lastButOne_125 : decode cX7_lastButOne 125 = .ok (.iload_n 1, 1) := by decide +kernel
theorem dX7_lastButOne_126 : decode cX7_lastButOne 126 = .ok (.iload_n 2, 1) := by decide +kernel
theorem dX7_lastButOne_127 : decode cX7_lastButOne 127 = .ok (.invokevirtual 197, 3) := by decide +kernel
theorem dX7_lastButOne_130 : decode cX7_lastButOne 130 = .ok (.if_icmp .ne 7, 3) := by decide +kernel
theorem dX7_lastButOne_133 : decode cX7_lastButOne 133 = .ok (.iconst 1, 1) := by decide +kernel
theorem dX7_lastButOne_134 : decode cX7_lastButOne 134 = .ok (.goto 4, 3) := by decide +kernel
theorem dX7_lastButOne_137 : decode cX7_lastButOne 137 = .ok (.iconst 0, 1) := by decide +kernel
theorem dX7_lastButOne_138 : decode cX7_lastButOne 138 = .ok (.iload 4, 2) := by decide +kernel
theorem dX7_lastButOne_140 : decode cX7_lastButOne 140 = .ok (.if_icmp .ne 7, 3) := by decide +kernel
theorem dX7_lastButOne_143 : decode cX7_lastButOne 143 = .ok (.iconst 1, 1) := by decide +kernel
theorem dX7_lastButOne_144 : decode cX7_lastButOne 144 = .ok (.goto 4, 3) := by decide +kernel
theorem dX7_lastButOne_147 : decode cX7_lastButOne 147 = .ok (.iconst 0, 1) := by decide +kernel
theorem dX7_lastButOne_148 : decode cX7_lastButOne 148 = .ok (.istore 6, 2) := by decide +kernel
theorem dX7_lastButOne_150 : decode cX7_lastButOne 150 = .ok (.aload_n 0, 1) := by decide +kernel
theorem dX7_lastButOne_151 : decode cX7_lastButOne 151 = .ok (.getfield 41, 3) := by decide +kernel
theorem dX7_lastButOne_154 : decode cX7_lastButOne 154 = .ok (.iload_n 2, 1) := by decide +kernel
theorem dX7_lastButOne_155 : decode cX7_lastButOne 155 = .ok (.iload 6, 2) := by decide +kernel
theorem dX7_lastButOne_157 : decode cX7_lastButOne 157 = .ok (.ifCond .eq 8, 3) := by decide +kernel
theorem dX7_lastButOne_160 : decode cX7_lastButOne 160 = .ok (.iload 7, 2) := by decide +kernel
theorem dX7_lastButOne_162 : decode cX7_lastButOne 162 = .ok (.goto 5, 3) := by decide +kernel
theorem dX7_lastButOne_165 : decode cX7_lastButOne 165 = .ok (.bipush (-9), 2) := by decide +kernel
theorem dX7_lastButOne_167 : decode cX7_lastButOne 167 = .ok (.iastore, 1) := by decide +kernel
theorem dX7_lastButOne_168 : decode cX7_lastButOne 168 = .ok (.iload 6, 2) := by decide +kernel
theorem dX7_lastButOne_170 : decode cX7_lastButOne 170 = .ok (.ifCond .eq 8, 3) := by decide +kernel
theorem dX7_lastButOne_173 : decode cX7_lastButOne 173 = .ok (.iload 8, 2) := by decide +kernel
theorem dX7_lastButOne_175 : decode cX7_lastButOne 175 = .ok (.goto 5, 3) := by decide +kernel
theorem dX7_lastButOne_178 : decode cX7_lastButOne 178 = .ok (.iload 5, 2) := by decide +kernel
theorem dX7_lastButOne_180 : decode cX7_lastButOne 180 = .ok (.istore 5, 2) := by decide +kernel
theorem dX7_lastButOne_182 : decode cX7_lastButOne 182 = .ok (.iinc 7 1, 3) := by decide +kernel
theorem dX7_lastButOne_185 : decode cX7_lastButOne 185 = .ok (.goto (-106), 3) := by decide +kernel
theorem dX7_lastButOne_188 : decode cX7_lastButOne 188 = .ok (.iload 5, 2) := by decide +kernel
theorem dX7_lastButOne_190 : decode cX7_lastButOne 190 = .ok (.ireturn, 1) := by decide +kernel
theorem dX7_firstDay_0 : decode cX7_firstDay 0 = .ok (.iload_n 2, 1) := by decide +kernel
theorem dX7_firstDay_1 : decode cX7_firstDay 1 = .ok (.iconst 3, 1) := by decide +kernel
theorem dX7_firstDay_2 : decode cX7_firstDay 2 = .ok (.if_icmp .ge 12, 3) := by decide +kernel
theorem dX7_firstDay_5 : decode cX7_firstDay 5 = .ok (.aload_n 0, 1) := by decide +kernel
theorem dX7_firstDay_6 : decode cX7_firstDay 6 = .ok (.iload_n 1, 1) := by decide +kernel
theorem dX7_firstDay_7 : decode cX7_firstDay 7 = .ok (.iconst 0, 1) := by decide +kernel
theorem dX7_firstDay_8 : decode cX7_firstDay 8 = .ok (.iload_n 2, 1) := by decide +kernel
theorem dX7_firstDay_9 : decode cX7_firstDay 9 = .ok (.iload_n 3, 1) := by decide +kernel
theorem dX7_firstDay_10 : decode cX7_firstDay 10 = .ok (.invokevirtual 210, 3) := by decide +kernel
theorem dX7_firstDay_13 : decode cX7_firstDay 13 = .ok (.ireturn, 1) := by decide +kernel
theorem dX7_firstDay_14 : decode cX7_firstDay 14 = .ok (.aload_n 0, 1) := by decide +kernel
theorem dX7_firstDay_15 : decode cX7_firstDay 15 = .ok (.iconst 0, 1) := by decide +kernel
theorem dX7_firstDay_16 : decode cX7_firstDay 16 = .ok (.iconst 1, 1) := by decide +kernel
theorem dX7_firstDay_17 : decode cX7_firstDay 17 = .ok (.invokevirtual 200, 3) := by decide +kernel
theorem dX7_firstDay_20 : decode cX7_firstDay 20 = .ok (.aload_n 0, 1) := by decide +kernel
theorem dX7_firstDay_21 : decode cX7_firstDay 21 = .ok (.iload_n 1, 1) := by decide +kernel
theorem dX7_firstDay_22 : decode cX7_firstDay 22 = .ok (.iconst 1, 1) := by decide +kernel
theorem dX7_firstDay_23 : decode cX7_firstDay 23 = .ok (.iconst 3, 1) := by decide +kernel
theorem dX7_firstDay_24 : decode cX7_firstDay 24 = .ok (.iload_n 3, 1) := by decide +kernel
theorem dX7_firstDay_25 : decode cX7_firstDay 25 = .ok (.invokevirtual 210, 3) := by decide +kernel
theorem dX7_firstDay_28 : decode cX7_firstDay 28 = .ok (.istore 4, 2) := by decide +kernel
theorem dX7_firstDay_30 : decode cX7_firstDay 30 = .ok (.aload_n 0, 1) := by decide +kernel
theorem dX7_firstDay_31 : decode cX7_firstDay 31 = .ok (.iconst 0, 1) := by decide +kernel
theorem dX7_firstDay_32 : decode cX7_firstDay 32 = .ok (.iconst 0, 1) := by decide +kernel
theorem dX7_firstDay_33 : decode cX7_firstDay 33 = .ok (.invokevirtual 200, 3) := by decide +kernel
theorem dX7_firstDay_36 : decode cX7_firstDay 36 = .ok (.aload_n 0, 1) := by decide +kernel
theorem dX7_firstDay_37 : decode cX7_firstDay 37 = .ok (.getfield 41, 3) := by decide +kernel
theorem dX7_firstDay_40 : decode cX7_firstDay 40 = .ok (.iconst 0, 1) := by decide +kernel
theorem dX7_firstDay_41 : decode cX7_firstDay 41 = .ok (.bipush (-9), 2) := by decide +kernel
theorem dX7_firstDay_43 : decode cX7_firstDay 43 = .ok (.iastore, 1) := by decide +kernel
theorem dX7_firstDay_44 : decode cX7_firstDay 44 = .ok (.iload 4, 2) := by decide +kernel
theorem dX7_firstDay_46 : decode cX7_firstDay 46 = .ok (.iload_n 1, 1) := by decide +kernel
theorem dX7_firstDay_47 : decode cX7_firstDay 47 = .ok (.if_icmp .ne 7, 3) := by decide +kernel
theorem dX7_firstDay_50 : decode cX7_firstDay 50 = .ok (.iconst 1, 1) := by decide +kernel
theorem dX7_firstDay_51 : decode cX7_firstDay 51 = .ok (.goto 4, 3) := by decide +kernel
theorem dX7_firstDay_54 : decode cX7_firstDay 54 = .ok (.iconst 0, 1) := by decide +kernel
theorem dX7_firstDay_55 : decode cX7_firstDay 55 = .ok (.iload_n 3, 1) := by decide +kernel
theorem dX7_firstDay_56 : decode cX7_firstDay 56 = .ok (.if_icmp .ne 7, 3) := by decide +kernel
theorem dX7_firstDay_59 : decode cX7_firstDay 59 = .ok (.iconst 1, 1) := by decide +kernel
theorem dX7_firstDay_60 : decode cX7_firstDay 60 = .ok (.goto 4, 3) := by decide +kernel
theorem dX7_firstDay_63 : decode cX7_firstDay 63 = .ok (.iconst 0, 1) := by decide +kernel
theorem dX7_firstDay_64 : decode cX7_firstDay 64 = .ok (.istore 5, 2) := by decide +kernel
theorem dX7_firstDay_66 : decode cX7_firstDay 66 = .ok (.iconst 0, 1) := by decide +kernel
theorem dX7_firstDay_67 : decode cX7_firstDay 67 = .ok (.istore 6, 2) := by decide +kernel
theorem dX7_firstDay_69 : decode cX7_firstDay 69 = .ok (.iload 6, 2) := by decide +kernel
theorem dX7_firstDay_71 : decode cX7_firstDay 71 = .ok (.aload_n 0, 1) := by decide +kernel
theorem dX7_firstDay_72 : decode cX7_firstDay 72 = .ok (.getfield 137, 3) := by decide +kernel
theorem dX7_firstDay_75 : decode cX7_firstDay 75 = .ok (.if_icmp .ge 95, 3) := by decide +kernel
theorem dX7_firstDay_78 : decode cX7_firstDay 78 = .ok (.iload 5, 2) := by decide +kernel
theorem dX7_firstDay_80 : decode cX7_firstDay 80 = .ok (.ifCond .ne 90, 3) := by decide +kernel
theorem dX7_firstDay_83 : decode cX7_firstDay 83 = .ok (.aload_n 0, 1) := by decide +kernel
theorem dX7_firstDay_84 : decode cX7_firstDay 84 = .ok (.iload_n 1, 1) := by decide +kernel
theorem dX7_firstDay_85 : decode cX7_firstDay 85 = .ok (.iconst 0, 1) := by decide +kernel
theorem dX7_firstDay_86 : decode cX7_firstDay 86 = .ok (.iload 6, 2) := by decide +kernel
theorem dX7_firstDay_88 : decode cX7_firstDay 88 = .ok (.invokevirtual 204, 3) := by decide +kernel
theorem dX7_firstDay_91 : decode cX7_firstDay 91 = .ok (.ifCond .eq 73, 3) := by decide +kernel
theorem dX7_firstDay_94 : decode cX7_firstDay 94 = .ok (.aload_n 0, 1) := by decide +kernel
theorem dX7_firstDay_95 : decode cX7_firstDay 95 = .ok (.iload_n 1, 1) := by decide +kernel
theorem dX7_firstDay_96 : decode cX7_firstDay 96 = .ok (.iconst 1, 1) := by decide +kernel
theorem dX7_firstDay_97 : decode cX7_firstDay 97 = .ok (.iconst 3, 1) := by decide +kernel
theorem dX7_firstDay_98 : decode cX7_firstDay 98 = .ok (.iload_n 3, 1) := by decide +kernel
theorem dX7_firstDay_99 : decode cX7_firstDay 99 = .ok (.invokevirtual 210, 3) := by decide +kernel
theorem dX7_firstDay_102 : decode cX7_firstDay 102 = .ok (.istore 7, 2) := by decide +kernel
theorem dX7_firstDay_104 : decode cX7_firstDay 104 = .ok (.aload_n 0, 1) := by decide +kernel
theorem dX7_firstDay_105 : decode cX7_firstDay 105 = .ok (.iconst 0, 1) := by decide +kernel
theorem dX7_firstDay_106 : decode cX7_firstDay 106 = .ok (.iconst 0, 1) := by decide +kernel
theorem dX7_firstDay_107 : decode cX7_firstDay 107 = .ok (.invokevirtual 200, 3) := by decide +kernel
theorem dX7_firstDay_110 : decode cX7_firstDay 110 = .ok (.iload 7, 2) := by decide +kernel
theorem dX7_firstDay_112 : decode cX7_firstDay 112 = .ok (.iload_n 1, 1) := by decide +kernel
theorem dX7_firstDay_113 : decode cX7_firstDay 113 = .ok (.if_icmp .ne 7, 3) := by decide +kernel
theorem dX7_firstDay_116 : decode cX7_firstDay 116 = .ok (.iconst 1, 1) := by decide +kernel
theorem dX7_firstDay_117 : decode cX7_firstDay 117 = .ok (.goto 4, 3) := by decide +kernel
theorem dX7_firstDay_120 : decode cX7_firstDay 120 = .ok (.iconst 0, 1) := by decide +kernel
theorem dX7_firstDay_121 : decode cX7_firstDay 121 = .ok (.iload_n 3, 1) := by decide +kernel
theorem dX7_firstDay_122 : decode cX7_firstDay 122 = .ok (.if_icmp .ne 7, 3) := by decide +kernel
theorem dX7_firstDay_125 : decode cX7_firstDay 125 = .ok (.iconst 1, 1) := by decide +kernel
theorem dX7_firstDay_126 : decode cX7_firstDay 126 = .ok (.goto 4, 3) := by decide +kernel
theorem dX7_firstDay_129 : decode cX7_firstDay 129 = .ok (.iconst 0, 1) := by decide +kernel
theorem dX7_firstDay_130 : decode cX7_firstDay 130 = .ok (.istore 5, 2) := by decide +kernel
theorem dX7_firstDay_132 : decode cX7_firstDay 132 = .ok (.aload_n 0, 1) := by decide +kernel
theorem dX7_firstDay_133 : decode cX7_firstDay 133 = .ok (.getfield 41, 3) := by decide +kernel
theorem dX7_firstDay_136 : decode cX7_firstDay 136 = .ok (.iconst 0, 1) := by decide +kernel
theorem dX7_firstDay_137 : decode cX7_firstDay 137 = .ok (.iload 5, 2) := by decide +kernel
theorem dX7_firstDay_139 : decode cX7_firstDay 139 = .ok (.ifCond .eq 8, 3) := by decide +kernel
theorem dX7_firstDay_142 : decode cX7_firstDay 142 = .ok (.iload 6, 2) := by decide +kernel
theorem dX7_firstDay_144 : decode cX7_firstDay 144 = .ok (.goto 5, 3) := by decide +kernel
theorem dX7_firstDay_147 : decode cX7_firstDay 147 = .ok (.bipush (-9), 2) := by decide +kernel
theorem dX7_firstDay_149 : decode cX7_firstDay 149 = .ok (.iastore, 1) := by decide +kernel
theorem dX7_firstDay_150 : decode cX7_firstDay 150 = .ok (.iload 5, 2) := by decide +kernel
theorem dX7_firstDay_152 : decode cX7_firstDay 152 = .ok (.ifCond .eq 8, 3) := by decide +kernel
theorem dX7_firstDay_155 : decode cX7_firstDay 155 = .ok (.iload 7, 2) := by decide +kernel
theorem dX7_firstDay_157 : decode cX7_firstDay 157 = .ok (.goto 5, 3) := by decide +kernel
theorem dX7_firstDay_160 : decode cX7_firstDay 160 = .ok (.iload 4, 2) := by decide +kernel
theorem dX7_firstDay_162 : decode cX7_firstDay 162 = .ok (.istore 4, 2) := by decide +kernel
theorem dX7_firstDay_164 : decode cX7_firstDay 164 = .ok (.iinc 6 1, 3) := by decide +kernel
theorem dX7_firstDay_167 : decode cX7_firstDay 167 = .ok (.goto (-98), 3) := by decide +kernel
theorem dX7_firstDay_170 : decode cX7_firstDay 170 = .ok (.iload 4, 2) := by decide +kernel
theorem dX7_firstDay_172 : decode cX7_firstDay 172 = .ok (.ireturn, 1) := by decide +kernel
theorem dX7_days_0 : decode cX7_days 0 = .ok (.aload_n 0, 1) := by decide +kernel
theorem dX7_days_1 : decode cX7_days 1 = .ok (.iconst 0, 1) := by decide +kernel
theorem dX7_days_2 : decode cX7_days 2 = .ok (.putfield 51, 3) := by decide +kernel
theorem dX7_days_5 : decode cX7_days 5 = .ok (.iload_n 1, 1) := by decide +kernel
theorem dX7_days_6 : decode cX7_days 6 = .ok (.iconst 1, 1) := by decide +kernel
theorem dX7_days_7 : decode cX7_days 7 = .ok (.iconst 3, 1) := by decide +kernel
theorem dX7_days_8 : decode cX7_days 8 = .ok (.invokestatic 54, 3) := by decide +kernel
theorem dX7_days_11 : decode cX7_days 11 = .ok (.ifCond .eq 30, 3) := by decide +kernel
theorem dX7_days_14 : decode cX7_days 14 = .ok (.aload_n 0, 1) := by decide +kernel
theorem dX7_days_15 : decode cX7_days 15 = .ok (.iload_n 2, 1) := by decide +kernel
theorem dX7_days_16 : decode cX7_days 16 = .ok (.invokevirtual 146, 3) := by decide +kernel
theorem dX7_days_19 : decode cX7_days 19 = .ok (.ifCond .eq 22, 3) := by decide +kernel
theorem dX7_days_22 : decode cX7_days 22 = .ok (.iload_n 3, 1) := by decide +kernel
theorem dX7_days_23 : decode cX7_days 23 = .ok (.iconst 0, 1) := by decide +kernel
theorem dX7_days_24 : decode cX7_days 24 = .ok (.iconst 1, 1) := by decide +kernel
theorem dX7_days_25 : decode cX7_days 25 = .ok (.invokestatic 54, 3) := by decide +kernel
theorem dX7_days_28 : decode cX7_days 28 = .ok (.ifCond .eq 13, 3) := by decide +kernel
theorem dX7_days_31 : decode cX7_days 31 = .ok (.iload 4, 2) := by decide +kernel
theorem dX7_days_33 : decode cX7_days 33 = .ok (.iconst 0, 1) := by decide +kernel
theorem dX7_days_34 : decode cX7_days 34 = .ok (.iconst 1, 1) := by decide +kernel
theorem dX7_days_35 : decode cX7_days 35 = .ok (.invokestatic 54, 3) := by decide +kernel
theorem dX7_days_38 : decode cX7_days 38 = .ok (.ifCond .ne 5, 3) := by decide +kernel
theorem dX7_days_41 : decode cX7_days 41 = .ok (.iconst (-1), 1) := by decide +kernel
theorem dX7_days_42 : decode cX7_days 42 = .ok (.ireturn, 1) := by decide +kernel
theorem dX7_days_43 : decode cX7_days 43 = .ok (.aload_n 0, 1) := by decide +kernel
theorem dX7_days_44 : decode cX7_days 44 = .ok (.iconst 1, 1) := by decide +kernel
theorem dX7_days_45 : decode cX7_days 45 = .ok (.invokevirtual 180, 3) := by decide +kernel
theorem dX7_days_48 : decode cX7_days 48 = .ok (.aload_n 0, 1) := by decide +kernel
theorem dX7_days_49 : decode cX7_days 49 = .ok (.iload_n 2, 1) := by decide +kernel
theorem dX7_days_50 : decode cX7_days 50 = .ok (.iload_n 1, 1) := by decide +kernel
theorem dX7_days_51 : decode cX7_days 51 = .ok (.iload_n 3, 1) := by decide +kernel
theorem dX7_days_52 : decode cX7_days 52 = .ok (.invokevirtual 214, 3) := by decide +kernel
theorem dX7_days_55 : decode cX7_days 55 = .ok (.istore 5, 2) := by decide +kernel
theorem dX7_days_57 : decode cX7_days 57 = .ok (.aload_n 0, 1) := by decide +kernel
theorem dX7_days_58 : decode cX7_days 58 = .ok (.iconst 0, 1) := by decide +kernel
theorem dX7_days_59 : decode cX7_days 59 = .ok (.invokevirtual 180, 3) := by decide +kernel
theorem dX7_days_62 : decode cX7_days 62 = .ok (.iload 4, 2) := by decide +kernel
theorem dX7_days_64 : decode cX7_days 64 = .ok (.ifCond .ne 12, 3) := by decide +kernel
theorem dX7_days_67 : decode cX7_days 67 = .ok (.aload_n 0, 1) := by decide +kernel
theorem dX7_days_68 : decode cX7_days 68 = .ok (.getfield 41, 3) := by decide +kernel
theorem dX7_days_71 : decode cX7_days 71 = .ok (.iconst 0, 1) := by decide +kernel
theorem dX7_days_72 : decode cX7_days 72 = .ok (.iaload, 1) := by decide +kernel
theorem dX7_days_73 : decode cX7_days 73 = .ok (.goto 5, 3) := by decide +kernel
theorem dX7_days_76 : decode cX7_days 76 = .ok (.iload 5, 2) := by decide +kernel
theorem dX7_days_78 : decode cX7_days 78 = .ok (.ireturn, 1) := by decide +kernel
theorem dX7_asks_0 : decode cX7_asks 0 = .ok (.aload_n 0, 1) := by decide +kernel
theorem dX7_asks_1 : decode cX7_asks 1 = .ok (.iconst 0, 1) := by decide +kernel
theorem dX7_asks_2 : decode cX7_asks 2 = .ok (.putfield 51, 3) := by decide +kernel
theorem dX7_asks_5 : decode cX7_asks 5 = .ok (.aload_n 0, 1) := by decide +kernel
theorem dX7_asks_6 : decode cX7_asks 6 = .ok (.iload_n 1, 1) := by decide +kernel
theorem dX7_asks_7 : decode cX7_asks 7 = .ok (.invokevirtual 146, 3) := by decide +kernel
theorem dX7_asks_10 : decode cX7_asks 10 = .ok (.ifCond .eq 13, 3) := by decide +kernel
theorem dX7_asks_13 : decode cX7_asks 13 = .ok (.iload_n 2, 1) := by decide +kernel
theorem dX7_asks_14 : decode cX7_asks 14 = .ok (.iconst 0, 1) := by decide +kernel
theorem dX7_asks_15 : decode cX7_asks 15 = .ok (.bipush 8, 2) := by decide +kernel
theorem dX7_asks_17 : decode cX7_asks 17 = .ok (.invokestatic 54, 3) := by decide +kernel
theorem dX7_asks_20 : decode cX7_asks 20 = .ok (.ifCond .ne 5, 3) := by decide +kernel
theorem dX7_asks_23 : decode cX7_asks 23 = .ok (.iconst (-1), 1) := by decide +kernel
theorem dX7_asks_24 : decode cX7_asks 24 = .ok (.ireturn, 1) := by decide +kernel
theorem dX7_asks_25 : decode cX7_asks 25 = .ok (.iconst 0, 1) := by decide +kernel
theorem dX7_asks_26 : decode cX7_asks 26 = .ok (.istore_n 3, 1) := by decide +kernel
theorem dX7_asks_27 : decode cX7_asks 27 = .ok (.aload_n 0, 1) := by decide +kernel
theorem dX7_asks_28 : decode cX7_asks 28 = .ok (.getfield 137, 3) := by decide +kernel
theorem dX7_asks_31 : decode cX7_asks 31 = .ok (.iconst 1, 1) := by decide +kernel
theorem dX7_asks_32 : decode cX7_asks 32 = .ok (.isub, 1) := by decide +kernel
theorem dX7_asks_33 : decode cX7_asks 33 = .ok (.istore 4, 2) := by decide +kernel
theorem dX7_asks_35 : decode cX7_asks 35 = .ok (.iconst 0, 1) := by decide +kernel
theorem dX7_asks_36 : decode cX7_asks 36 = .ok (.istore 5, 2) := by decide +kernel
theorem dX7_asks_38 : decode cX7_asks 38 = .ok (.iconst 0, 1) := by decide +kernel
theorem dX7_asks_39 : decode cX7_asks 39 = .ok (.istore 6, 2) := by decide +kernel
theorem dX7_asks_41 : decode cX7_asks 41 = .ok (.iload 6, 2) := by decide +kernel
theorem dX7_asks_43 : decode cX7_asks 43 = .ok (.aload_n 0, 1) := by decide +kernel
theorem dX7_asks_44 : decode cX7_asks 44 = .ok (.getfield 137, 3) := by decide +kernel
theorem dX7_asks_47 : decode cX7_asks 47 = .ok (.if_icmp .ge 48, 3) := by decide +kernel
theorem dX7_asks_50 : decode cX7_asks 50 = .ok (.iload 6, 2) := by decide +kernel
theorem dX7_asks_52 : decode cX7_asks 52 = .ok (.iload_n 1, 1) := by decide +kernel
theorem dX7_asks_53 : decode cX7_asks 53 = .ok (.if_icmp .eq 36, 3) := by decide +kernel
theorem dX7_asks_56 : decode cX7_asks 56 = .ok (.iload_n 3, 1) := by decide +kernel
theorem dX7_asks_57 : decode cX7_asks 57 = .ok (.iload_n 2, 1) := by decide +kernel
theorem dX7_asks_58 : decode cX7_asks 58 = .ok (.if_icmp .ge 31, 3) := by decide +kernel
theorem dX7_asks_61 : decode cX7_asks 61 = .ok (.iload_n 3, 1) := by decide +kernel
theorem dX7_asks_62 : decode cX7_asks 62 = .ok (.iload 4, 2) := by decide +kernel
theorem dX7_asks_64 : decode cX7_asks 64 = .ok (.iadd, 1) := by decide +kernel
theorem dX7_asks_65 : decode cX7_asks 65 = .ok (.iload_n 2, 1) := by decide +kernel
theorem dX7_asks_66 : decode cX7_asks 66 = .ok (.if_icmp .lt 23, 3) := by decide +kernel
theorem dX7_asks_69 : decode cX7_asks 69 = .ok (.iload_n 3, 1) := by decide +kernel
theorem dX7_asks_70 : decode cX7_asks 70 = .ok (.aload_n 0, 1) := by decide +kernel
theorem dX7_asks_71 : decode cX7_asks 71 = .ok (.getfield 19, 3) := by decide +kernel
theorem dX7_asks_74 : decode cX7_asks 74 = .ok (.iload 6, 2) := by decide +kernel
theorem dX7_asks_76 : decode cX7_asks 76 = .ok (.iaload, 1) := by decide +kernel
theorem dX7_asks_77 : decode cX7_asks 77 = .ok (.iload_n 1, 1) := by decide +kernel
theorem dX7_asks_78 : decode cX7_asks 78 = .ok (.ishr, 1) := by decide +kernel
theorem dX7_asks_79 : decode cX7_asks 79 = .ok (.iconst 1, 1) := by decide +kernel
theorem dX7_asks_80 : decode cX7_asks 80 = .ok (.iand, 1) := by decide +kernel
theorem dX7_asks_81 : decode cX7_asks 81 = .ok (.iadd, 1) := by decide +kernel
theorem dX7_asks_82 : decode cX7_asks 82 = .ok (.istore_n 3, 1) := by decide +kernel
theorem dX7_asks_83 : decode cX7_asks 83 = .ok (.iinc 4 (-1), 3) := by decide +kernel
theorem dX7_asks_86 : decode cX7_asks 86 = .ok (.iinc 5 1, 3) := by decide +kernel
theorem dX7_asks_89 : decode cX7_asks 89 = .ok (.iinc 6 1, 3) := by decide +kernel
theorem dX7_asks_92 : decode cX7_asks 92 = .ok (.goto (-51), 3) := by decide +kernel
theorem dX7_asks_95 : decode cX7_asks 95 = .ok (.iload 5, 2) := by decide +kernel
theorem dX7_asks_97 : decode cX7_asks 97 = .ok (.ireturn, 1) := by decide +kernel
theorem dX7_isParty_0 : decode cX7_isParty 0 = .ok (.iconst 1, 1) := by decide +kernel
theorem dX7_isParty_1 : decode cX7_isParty 1 = .ok (.istore_n 2, 1) := by decide +kernel
theorem dX7_isParty_2 : decode cX7_isParty 2 = .ok (.iconst 0, 1) := by decide +kernel
theorem dX7_isParty_3 : decode cX7_isParty 3 = .ok (.istore_n 3, 1) := by decide +kernel
theorem dX7_isParty_4 : decode cX7_isParty 4 = .ok (.iload_n 3, 1) := by decide +kernel
theorem dX7_isParty_5 : decode cX7_isParty 5 = .ok (.aload_n 0, 1) := by decide +kernel
theorem dX7_isParty_6 : decode cX7_isParty 6 = .ok (.getfield 137, 3) := by decide +kernel
theorem dX7_isParty_9 : decode cX7_isParty 9 = .ok (.if_icmp .ge 70, 3) := by decide +kernel
theorem dX7_isParty_12 : decode cX7_isParty 12 = .ok (.iconst 0, 1) := by decide +kernel
theorem dX7_isParty_13 : decode cX7_isParty 13 = .ok (.istore 4, 2) := by decide +kernel
theorem dX7_isParty_15 : decode cX7_isParty 15 = .ok (.iload 4, 2) := by decide +kernel
theorem dX7_isParty_17 : decode cX7_isParty 17 = .ok (.aload_n 0, 1) := by decide +kernel
theorem dX7_isParty_18 : decode cX7_isParty 18 = .ok (.getfield 137, 3) := by decide +kernel
theorem dX7_isParty_21 : decode cX7_isParty 21 = .ok (.if_icmp .ge 52, 3) := by decide +kernel
theorem dX7_isParty_24 : decode cX7_isParty 24 = .ok (.iload_n 2, 1) := by decide +kernel
theorem dX7_isParty_25 : decode cX7_isParty 25 = .ok (.ifCond .eq 40, 3) := by decide +kernel
theorem dX7_isParty_28 : decode cX7_isParty 28 = .ok (.iload_n 1, 1) := by decide +kernel
theorem dX7_isParty_29 : decode cX7_isParty 29 = .ok (.iload_n 3, 1) := by decide +kernel
theorem dX7_isParty_30 : decode cX7_isParty 30 = .ok (.ishr, 1) := by decide +kernel
theorem dX7_isParty_31 : decode cX7_isParty 31 = .ok (.iconst 1, 1) := by decide +kernel
theorem dX7_isParty_32 : decode cX7_isParty 32 = .ok (.iand, 1) := by decide +kernel
theorem dX7_isParty_33 : decode cX7_isParty 33 = .ok (.ifCond .eq 28, 3) := by decide +kernel
theorem dX7_isParty_36 : decode cX7_isParty 36 = .ok (.iload_n 1, 1) := by decide +kernel
theorem dX7_isParty_37 : decode cX7_isParty 37 = .ok (.iload 4, 2) := by decide +kernel
theorem dX7_isParty_39 : decode cX7_isParty 39 = .ok (.ishr, 1) := by decide +kernel
theorem dX7_isParty_40 : decode cX7_isParty 40 = .ok (.iconst 1, 1) := by decide +kernel
theorem dX7_isParty_41 : decode cX7_isParty 41 = .ok (.iand, 1) := by decide +kernel
theorem dX7_isParty_42 : decode cX7_isParty 42 = .ok (.ifCond .eq 19, 3) := by decide +kernel
theorem dX7_isParty_45 : decode cX7_isParty 45 = .ok (.iload_n 3, 1) := by decide +kernel
theorem dX7_isParty_46 : decode cX7_isParty 46 = .ok (.iload 4, 2) := by decide +kernel
theorem dX7_isParty_48 : decode cX7_isParty 48 = .ok (.if_icmp .eq 13, 3) := by decide +kernel
theorem dX7_isParty_51 : decode cX7_isParty 51 = .ok (.aload_n 0, 1) := by decide +kernel
theorem dX7_isParty_52 : decode cX7_isParty 52 = .ok (.iload_n 3, 1) := by decide +kernel
theorem dX7_isParty_53 : decode cX7_isParty 53 = .ok (.iload 4, 2) := by decide +kernel
theorem dX7_isParty_55 : decode cX7_isParty 55 = .ok (.invokevirtual 154, 3) := by decide +kernel
theorem dX7_isParty_58 : decode cX7_isParty 58 = .ok (.ifCond .eq 7, 3) := by decide +kernel
theorem dX7_isParty_61 : decode cX7_isParty 61 = .ok (.iconst 1, 1) := by decide +kernel
theorem dX7_isParty_62 : decode cX7_isParty 62 = .ok (.goto 4, 3) := by decide +kernel
theorem dX7_isParty_65 : decode cX7_isParty 65 = .ok (.iconst 0, 1) := by decide +kernel
theorem dX7_isParty_66 : decode cX7_isParty 66 = .ok (.istore_n 2, 1) := by decide +kernel
theorem dX7_isParty_67 : decode cX7_isParty 67 = .ok (.iinc 4 1, 3) := by decide +kernel
theorem dX7_isParty_70 : decode cX7_isParty 70 = .ok (.goto (-55), 3) := by decide +kernel
theorem dX7_isParty_73 : decode cX7_isParty 73 = .ok (.iinc 3 1, 3) := by decide +kernel
theorem dX7_isParty_76 : decode cX7_isParty 76 = .ok (.goto (-72), 3) := by decide +kernel
theorem dX7_isParty_79 : decode cX7_isParty 79 = .ok (.iload_n 2, 1) := by decide +kernel
theorem dX7_isParty_80 : decode cX7_isParty 80 = .ok (.ireturn, 1) := by decide +kernel
theorem dX7_party_0 : decode cX7_party 0 = .ok (.aload_n 0, 1) := by decide +kernel
theorem dX7_party_1 : decode cX7_party 1 = .ok (.iconst 0, 1) := by decide +kernel
theorem dX7_party_2 : decode cX7_party 2 = .ok (.putfield 51, 3) := by decide +kernel
theorem dX7_party_5 : decode cX7_party 5 = .ok (.aload_n 0, 1) := by decide +kernel
theorem dX7_party_6 : decode cX7_party 6 = .ok (.iload_n 1, 1) := by decide +kernel
theorem dX7_party_7 : decode cX7_party 7 = .ok (.invokevirtual 217, 3) := by decide +kernel
theorem dX7_party_10 : decode cX7_party 10 = .ok (.ifCond .eq 7, 3) := by decide +kernel
theorem dX7_party_13 : decode cX7_party 13 = .ok (.iconst 1, 1) := by decide +kernel
theorem dX7_party_14 : decode cX7_party 14 = .ok (.goto 4, 3) := by decide +kernel
theorem dX7_party_17 : decode cX7_party 17 = .ok (.iconst 0, 1) := by decide +kernel
theorem dX7_party_18 : decode cX7_party 18 = .ok (.ireturn, 1) := by decide +kernel
theorem dX7_parties_0 : decode cX7_parties 0 = .ok (.aload_n 0, 1) := by decide +kernel
theorem dX7_parties_1 : decode cX7_parties 1 = .ok (.iconst 0, 1) := by decide +kernel
theorem dX7_parties_2 : decode cX7_parties 2 = .ok (.putfield 51, 3) := by decide +kernel
theorem dX7_parties_5 : decode cX7_parties 5 = .ok (.iload_n 1, 1) := by decide +kernel
theorem dX7_parties_6 : decode cX7_parties 6 = .ok (.iconst 0, 1) := by decide +kernel
theorem dX7_parties_7 : decode cX7_parties 7 = .ok (.iconst 1, 1) := by decide +kernel
theorem dX7_parties_8 : decode cX7_parties 8 = .ok (.invokestatic 54, 3) := by decide +kernel
theorem dX7_parties_11 : decode cX7_parties 11 = .ok (.ifCond .ne 5, 3) := by decide +kernel
theorem dX7_parties_14 : decode cX7_parties 14 = .ok (.iconst (-1), 1) := by decide +kernel
theorem dX7_parties_15 : decode cX7_parties 15 = .ok (.ireturn, 1) := by decide +kernel
theorem dX7_parties_16 : decode cX7_parties 16 = .ok (.iconst 0, 1) := by decide +kernel
theorem dX7_parties_17 : decode cX7_parties 17 = .ok (.istore_n 2, 1) := by decide +kernel
theorem dX7_parties_18 : decode cX7_parties 18 = .ok (.iconst 0, 1) := by decide +kernel
theorem dX7_parties_19 : decode cX7_parties 19 = .ok (.istore_n 3, 1) := by decide +kernel
theorem dX7_parties_20 : decode cX7_parties 20 = .ok (.iconst 0, 1) := by decide +kernel
theorem dX7_parties_21 : decode cX7_parties 21 = .ok (.istore 4, 2) := by decide +kernel
theorem dX7_parties_23 : decode cX7_parties 23 = .ok (.iload 4, 2) := by decide +kernel
theorem dX7_parties_25 : decode cX7_parties 25 = .ok (.iconst 1, 1) := by decide +kernel
theorem dX7_parties_26 : decode cX7_parties 26 = .ok (.aload_n 0, 1) := by decide +kernel
theorem dX7_parties_27 : decode cX7_parties 27 = .ok (.getfield 137, 3) := by decide +kernel
theorem dX7_parties_30 : decode cX7_parties 30 = .ok (.ishl, 1) := by decide +kernel
theorem dX7_parties_31 : decode cX7_parties 31 = .ok (.if_icmp .ge 49, 3) := by decide +kernel
theorem dX7_parties_34 : decode cX7_parties 34 = .ok (.iload 4, 2) := by decide +kernel
theorem dX7_parties_36 : decode cX7_parties 36 = .ok (.invokestatic 161, 3) := by decide +kernel
theorem dX7_parties_39 : decode cX7_parties 39 = .ok (.iconst 1, 1) := by decide +kernel
theorem dX7_parties_40 : decode cX7_parties 40 = .ok (.if_icmp .le 34, 3) := by decide +kernel
theorem dX7_parties_43 : decode cX7_parties 43 = .ok (.aload_n 0, 1) := by decide +kernel
theorem dX7_parties_44 : decode cX7_parties 44 = .ok (.iload 4, 2) := by decide +kernel
theorem dX7_parties_46 : decode cX7_parties 46 = .ok (.invokevirtual 217, 3) := by decide +kernel
theorem dX7_parties_49 : decode cX7_parties 49 = .ok (.ifCond .eq 25, 3) := by decide +kernel
theorem dX7_parties_52 : decode cX7_parties 52 = .ok (.iinc 2 1, 3) := by decide +kernel
theorem dX7_parties_55 : decode cX7_parties 55 = .ok (.iload 4, 2) := by decide +kernel
theorem dX7_parties_57 : decode cX7_parties 57 = .ok (.invokestatic 161, 3) := by decide +kernel
theorem dX7_parties_60 : decode cX7_parties 60 = .ok (.iload_n 3, 1) := by decide +kernel
theorem dX7_parties_61 : decode cX7_parties 61 = .ok (.invokestatic 161, 3) := by decide +kernel
theorem dX7_parties_64 : decode cX7_parties 64 = .ok (.if_icmp .le 8, 3) := by decide +kernel
theorem dX7_parties_67 : decode cX7_parties 67 = .ok (.iload 4, 2) := by decide +kernel
theorem dX7_parties_69 : decode cX7_parties 69 = .ok (.goto 4, 3) := by decide +kernel
theorem dX7_parties_72 : decode cX7_parties 72 = .ok (.iload_n 3, 1) := by decide +kernel
theorem dX7_parties_73 : decode cX7_parties 73 = .ok (.istore_n 3, 1) := by decide +kernel
theorem dX7_parties_74 : decode cX7_parties 74 = .ok (.iinc 4 1, 3) := by decide +kernel
theorem dX7_parties_77 : decode cX7_parties 77 = .ok (.goto (-54), 3) := by decide +kernel
theorem dX7_parties_80 : decode cX7_parties 80 = .ok (.iload_n 1, 1) := by decide +kernel
theorem dX7_parties_81 : decode cX7_parties 81 = .ok (.ifCond .ne 7, 3) := by decide +kernel
theorem dX7_parties_84 : decode cX7_parties 84 = .ok (.iload_n 2, 1) := by decide +kernel
theorem dX7_parties_85 : decode cX7_parties 85 = .ok (.goto 4, 3) := by decide +kernel
theorem dX7_parties_88 : decode cX7_parties 88 = .ok (.iload_n 3, 1) := by decide +kernel
theorem dX7_parties_89 : decode cX7_parties 89 = .ok (.ireturn, 1) := by decide +kernel
theorem dX7_rate_0 : decode cX7_rate 0 = .ok (.aload_n 0, 1) := by decide +kernel
theorem dX7_rate_1 : decode cX7_rate 1 = .ok (.iconst 0, 1) := by decide +kernel
theorem dX7_rate_2 : decode cX7_rate 2 = .ok (.putfield 51, 3) := by decide +kernel
theorem dX7_rate_5 : decode cX7_rate 5 = .ok (.iload_n 1, 1) := by decide +kernel
theorem dX7_rate_6 : decode cX7_rate 6 = .ok (.iconst 0, 1) := by decide +kernel
theorem dX7_rate_7 : decode cX7_rate 7 = .ok (.iconst 5, 1) := by decide +kernel
theorem dX7_rate_8 : decode cX7_rate 8 = .ok (.invokestatic 54, 3) := by decide +kernel
theorem dX7_rate_11 : decode cX7_rate 11 = .ok (.ifCond .eq 11, 3) := by decide +kernel
theorem dX7_rate_14 : decode cX7_rate 14 = .ok (.aload_n 0, 1) := by decide +kernel
theorem dX7_rate_15 : decode cX7_rate 15 = .ok (.iload_n 2, 1) := by decide +kernel
theorem dX7_rate_16 : decode cX7_rate 16 = .ok (.invokevirtual 146, 3) := by decide +kernel
theorem dX7_rate_19 : decode cX7_rate 19 = .ok (.ifCond .ne 6, 3) := by decide +kernel
theorem dX7_rate_22 : decode cX7_rate 22 = .ok (.ldc 157, 2) := by decide +kernel
theorem dX7_rate_24 : decode cX7_rate 24 = .ok (.ireturn, 1) := by decide +kernel
theorem dX7_rate_25 : decode cX7_rate 25 = .ok (.aload_n 0, 1) := by decide +kernel
theorem dX7_rate_26 : decode cX7_rate 26 = .ok (.iload_n 2, 1) := by decide +kernel
theorem dX7_rate_27 : decode cX7_rate 27 = .ok (.invokevirtual 158, 3) := by decide +kernel
theorem dX7_rate_30 : decode cX7_rate 30 = .ok (.istore_n 3, 1) := by decide +kernel
theorem dX7_rate_31 : decode cX7_rate 31 = .ok (.iload_n 3, 1) := by decide +kernel
theorem dX7_rate_32 : decode cX7_rate 32 = .ok (.aload_n 0, 1) := by decide +kernel
theorem dX7_rate_33 : decode cX7_rate 33 = .ok (.getfield 19, 3) := by decide +kernel
theorem dX7_rate_36 : decode cX7_rate 36 = .ok (.iload_n 2, 1) := by decide +kernel
theorem dX7_rate_37 : decode cX7_rate 37 = .ok (.iaload, 1) := by decide +kernel
theorem dX7_rate_38 : decode cX7_rate 38 = .ok (.invokestatic 161, 3) := by decide +kernel
theorem dX7_rate_41 : decode cX7_rate 41 = .ok (.isub, 1) := by decide +kernel
theorem dX7_rate_42 : decode cX7_rate 42 = .ok (.istore 4, 2) := by decide +kernel
theorem dX7_rate_44 : decode cX7_rate 44 = .ok (.iload_n 3, 1) := by decide +kernel
theorem dX7_rate_45 : decode cX7_rate 45 = .ok (.aload_n 0, 1) := by decide +kernel
theorem dX7_rate_46 : decode cX7_rate 46 = .ok (.getfield 19, 3) := by decide +kernel
theorem dX7_rate_49 : decode cX7_rate 49 = .ok (.bipush 73, 2) := by decide +kernel
theorem dX7_rate_51 : decode cX7_rate 51 = .ok (.iload_n 2, 1) := by decide +kernel
theorem dX7_rate_52 : decode cX7_rate 52 = .ok (.iadd, 1) := by decide +kernel
theorem dX7_rate_53 : decode cX7_rate 53 = .ok (.iaload, 1) := by decide +kernel
theorem dX7_rate_54 : decode cX7_rate 54 = .ok (.iadd, 1) := by decide +kernel
theorem dX7_rate_55 : decode cX7_rate 55 = .ok (.istore 5, 2) := by decide +kernel
theorem dX7_rate_57 : decode cX7_rate 57 = .ok (.aload_n 0, 1) := by decide +kernel
theorem dX7_rate_58 : decode cX7_rate 58 = .ok (.dup, 1) := by decide +kernel
theorem dX7_rate_59 : decode cX7_rate 59 = .ok (.getfield 220, 3) := by decide +kernel
theorem dX7_rate_62 : decode cX7_rate 62 = .ok (.iload_n 1, 1) := by decide +kernel
theorem dX7_rate_63 : decode cX7_rate 63 = .ok (.ifCond .ne 7, 3) := by decide +kernel
theorem dX7_rate_66 : decode cX7_rate 66 = .ok (.lconst 1, 1) := by decide +kernel
theorem dX7_rate_67 : decode cX7_rate 67 = .ok (.goto 50, 3) := by decide +kernel
theorem dX7_rate_70 : decode cX7_rate 70 = .ok (.iload_n 1, 1) := by decide +kernel
theorem dX7_rate_71 : decode cX7_rate 71 = .ok (.iconst 1, 1) := by decide +kernel
theorem dX7_rate_72 : decode cX7_rate 72 = .ok (.if_icmp .ne 9, 3) := by decide +kernel
theorem dX7_rate_75 : decode cX7_rate 75 = .ok (.ldc2_w 224, 3) := by decide +kernel
theorem dX7_rate_78 : decode cX7_rate 78 = .ok (.goto 39, 3) := by decide +kernel
theorem dX7_rate_81 : decode cX7_rate 81 = .ok (.iload_n 1, 1) := by decide +kernel
theorem dX7_rate_82 : decode cX7_rate 82 = .ok (.iconst 2, 1) := by decide +kernel
theorem dX7_rate_83 : decode cX7_rate 83 = .ok (.if_icmp .ne 9, 3) := by decide +kernel
theorem dX7_rate_86 : decode cX7_rate 86 = .ok (.ldc2_w 226, 3) := by decide +kernel
theorem dX7_rate_89 : decode cX7_rate 89 = .ok (.goto 28, 3) := by decide +kernel
theorem dX7_rate_92 : decode cX7_rate 92 = .ok (.iload_n 1, 1) := by decide +kernel
theorem dX7_rate_93 : decode cX7_rate 93 = .ok (.iconst 3, 1) := by decide +kernel
theorem dX7_rate_94 : decode cX7_rate 94 = .ok (.if_icmp .ne 9, 3) := by decide +kernel
theorem dX7_rate_97 : decode cX7_rate 97 = .ok (.ldc2_w 228, 3) := by decide +kernel
theorem dX7_rate_100 : decode cX7_rate 100 = .ok (.goto 17, 3) := by decide +kernel
theorem dX7_rate_103 : decode cX7_rate 103 = .ok (.iload_n 1, 1) := by decide +kernel
theorem dX7_rate_104 : decode cX7_rate 104 = .ok (.iconst 4, 1) := by decide +kernel
theorem dX7_rate_105 : decode cX7_rate 105 = .ok (.if_icmp .ne 9, 3) := by decide +kernel
theorem dX7_rate_108 : decode cX7_rate 108 = .ok (.ldc2_w 230, 3) := by decide +kernel
theorem dX7_rate_111 : decode cX7_rate 111 = .ok (.goto 6, 3) := by decide +kernel
theorem dX7_rate_114 : decode cX7_rate 114 = .ok (.ldc2_w 232, 3) := by decide +kernel
theorem dX7_rate_117 : decode cX7_rate 117 = .ok (.ladd, 1) := by decide +kernel
theorem dX7_rate_118 : decode cX7_rate 118 = .ok (.putfield 220, 3) := by decide +kernel
theorem dX7_rate_121 : decode cX7_rate 121 = .ok (.iload_n 1, 1) := by decide +kernel
theorem dX7_rate_122 : decode cX7_rate 122 = .ok (.ifCond .ne 7, 3) := by decide +kernel
theorem dX7_rate_125 : decode cX7_rate 125 = .ok (.iload_n 3, 1) := by decide +kernel
theorem dX7_rate_126 : decode cX7_rate 126 = .ok (.goto 56, 3) := by decide +kernel
theorem dX7_rate_129 : decode cX7_rate 129 = .ok (.iload_n 1, 1) := by decide +kernel
theorem dX7_rate_130 : decode cX7_rate 130 = .ok (.iconst 1, 1) := by decide +kernel
theorem dX7_rate_131 : decode cX7_rate 131 = .ok (.if_icmp .ne 8, 3) := by decide +kernel
theorem dX7_rate_134 : decode cX7_rate 134 = .ok (.iload 4, 2) := by decide +kernel
theorem dX7_rate_136 : decode cX7_rate 136 = .ok (.goto 46, 3) := by decide +kernel
theorem dX7_rate_139 : decode cX7_rate 139 = .ok (.iload_n 1, 1) := by decide +kernel
theorem dX7_rate_140 : decode cX7_rate 140 = .ok (.iconst 2, 1) := by decide +kernel
theorem dX7_rate_141 : decode cX7_rate 141 = .ok (.if_icmp .ne 8, 3) := by decide +kernel
theorem dX7_rate_144 : decode cX7_rate 144 = .ok (.iload 5, 2) := by decide +kernel
theorem dX7_rate_146 : decode cX7_rate 146 = .ok (.goto 36, 3) := by decide +kernel
theorem dX7_rate_149 : decode cX7_rate 149 = .ok (.iload_n 1, 1) := by decide +kernel
theorem dX7_rate_150 : decode cX7_rate 150 = .ok (.iconst 3, 1) := by decide +kernel
theorem dX7_rate_151 : decode cX7_rate 151 = .ok (.if_icmp .ne 10, 3) := by decide +kernel
theorem dX7_rate_154 : decode cX7_rate 154 = .ok (.iconst 2, 1) := by decide +kernel
theorem dX7_rate_155 : decode cX7_rate 155 = .ok (.iload 5, 2) := by decide +kernel
theorem dX7_rate_157 : decode cX7_rate 157 = .ok (.imul, 1) := by decide +kernel
theorem dX7_rate_158 : decode cX7_rate 158 = .ok (.goto 24, 3) := by decide +kernel
theorem dX7_rate_161 : decode cX7_rate 161 = .ok (.iload_n 1, 1) := by decide +kernel
theorem dX7_rate_162 : decode cX7_rate 162 = .ok (.iconst 4, 1) := by decide +kernel
theorem dX7_rate_163 : decode cX7_rate 163 = .ok (.if_icmp .ne 10, 3) := by decide +kernel
theorem dX7_rate_166 : decode cX7_rate 166 = .ok (.iload 4, 2) := by decide +kernel
theorem dX7_rate_168 : decode cX7_rate 168 = .ok (.iload_n 2, 1) := by decide +kernel
theorem dX7_rate_169 : decode cX7_rate 169 = .ok (.iadd, 1) := by decide +kernel
theorem dX7_rate_170 : decode cX7_rate 170 = .ok (.goto 12, 3) := by decide +kernel
theorem dX7_rate_173 : decode cX7_rate 173 = .ok (.iload_n 3, 1) := by decide +kernel
theorem dX7_rate_174 : decode cX7_rate 174 = .ok (.aload_n 0, 1) := by decide +kernel
theorem dX7_rate_175 : decode cX7_rate 175 = .ok (.getfield 19, 3) := by decide +kernel
theorem dX7_rate_178 : decode cX7_rate 178 = .ok (.bipush 72, 2) := by decide +kernel
theorem dX7_rate_180 : decode cX7_rate 180 = .ok (.iaload, 1) := by decide +kernel
theorem dX7_rate_181 : decode cX7_rate 181 = .ok (.isub, 1) := by decide +kernel
theorem dX7_rate_182 : decode cX7_rate 182 = .ok (.ireturn, 1) := by decide +kernel
theorem dX7_keep_0 : decode cX7_keep 0 = .ok (.aload_n 0, 1) := by decide +kernel
theorem dX7_keep_1 : decode cX7_keep 1 = .ok (.iconst 0, 1) := by decide +kernel
theorem dX7_keep_2 : decode cX7_keep 2 = .ok (.putfield 51, 3) := by decide +kernel
theorem dX7_keep_5 : decode cX7_keep 5 = .ok (.iload_n 1, 1) := by decide +kernel
theorem dX7_keep_6 : decode cX7_keep 6 = .ok (.iconst 0, 1) := by decide +kernel
theorem dX7_keep_7 : decode cX7_keep 7 = .ok (.iconst 1, 1) := by decide +kernel
theorem dX7_keep_8 : decode cX7_keep 8 = .ok (.invokestatic 54, 3) := by decide +kernel
theorem dX7_keep_11 : decode cX7_keep 11 = .ok (.ifCond .ne 5, 3) := by decide +kernel
theorem dX7_keep_14 : decode cX7_keep 14 = .ok (.iconst (-1), 1) := by decide +kernel
theorem dX7_keep_15 : decode cX7_keep 15 = .ok (.ireturn, 1) := by decide +kernel
theorem dX7_keep_16 : decode cX7_keep 16 = .ok (.iconst 0, 1) := by decide +kernel
theorem dX7_keep_17 : decode cX7_keep 17 = .ok (.istore_n 2, 1) := by decide +kernel
theorem dX7_keep_18 : decode cX7_keep 18 = .ok (.iload_n 2, 1) := by decide +kernel
theorem dX7_keep_19 : decode cX7_keep 19 = .ok (.bipush 82, 2) := by decide +kernel
theorem dX7_keep_21 : decode cX7_keep 21 = .ok (.if_icmp .ge 26, 3) := by decide +kernel
theorem dX7_keep_24 : decode cX7_keep 24 = .ok (.aload_n 0, 1) := by decide +kernel
theorem dX7_keep_25 : decode cX7_keep 25 = .ok (.getfield 25, 3) := by decide +kernel
theorem dX7_keep_28 : decode cX7_keep 28 = .ok (.bipush 82, 2) := by decide +kernel
theorem dX7_keep_30 : decode cX7_keep 30 = .ok (.iload_n 1, 1) := by decide +kernel
theorem dX7_keep_31 : decode cX7_keep 31 = .ok (.imul, 1) := by decide +kernel
theorem dX7_keep_32 : decode cX7_keep 32 = .ok (.iload_n 2, 1) := by decide +kernel
theorem dX7_keep_33 : decode cX7_keep 33 = .ok (.iadd, 1) := by decide +kernel
theorem dX7_keep_34 : decode cX7_keep 34 = .ok (.aload_n 0, 1) := by decide +kernel
theorem dX7_keep_35 : decode cX7_keep 35 = .ok (.getfield 19, 3) := by decide +kernel
theorem dX7_keep_38 : decode cX7_keep 38 = .ok (.iload_n 2, 1) := by decide +kernel
theorem dX7_keep_39 : decode cX7_keep 39 = .ok (.iaload, 1) := by decide +kernel
theorem dX7_keep_40 : decode cX7_keep 40 = .ok (.iastore, 1) := by decide +kernel
theorem dX7_keep_41 : decode cX7_keep 41 = .ok (.iinc 2 1, 3) := by decide +kernel
theorem dX7_keep_44 : decode cX7_keep 44 = .ok (.goto (-26), 3) := by decide +kernel
theorem dX7_keep_47 : decode cX7_keep 47 = .ok (.aload_n 0, 1) := by decide +kernel
theorem dX7_keep_48 : decode cX7_keep 48 = .ok (.getfield 28, 3) := by decide +kernel
theorem dX7_keep_51 : decode cX7_keep 51 = .ok (.iload_n 1, 1) := by decide +kernel
theorem dX7_keep_52 : decode cX7_keep 52 = .ok (.iconst 1, 1) := by decide +kernel
theorem dX7_keep_53 : decode cX7_keep 53 = .ok (.bastore, 1) := by decide +kernel
theorem dX7_keep_54 : decode cX7_keep 54 = .ok (.aload_n 0, 1) := by decide +kernel
theorem dX7_keep_55 : decode cX7_keep 55 = .ok (.getfield 19, 3) := by decide +kernel
theorem dX7_keep_58 : decode cX7_keep 58 = .ok (.bipush 72, 2) := by decide +kernel
theorem dX7_keep_60 : decode cX7_keep 60 = .ok (.iaload, 1) := by decide +kernel
theorem dX7_keep_61 : decode cX7_keep 61 = .ok (.ireturn, 1) := by decide +kernel
theorem dX7_back_0 : decode cX7_back 0 = .ok (.aload_n 0, 1) := by decide +kernel
theorem dX7_back_1 : decode cX7_back 1 = .ok (.iconst 0, 1) := by decide +kernel
theorem dX7_back_2 : decode cX7_back 2 = .ok (.putfield 51, 3) := by decide +kernel
theorem dX7_back_5 : decode cX7_back 5 = .ok (.iload_n 1, 1) := by decide +kernel
theorem dX7_back_6 : decode cX7_back 6 = .ok (.iconst 0, 1) := by decide +kernel
theorem dX7_back_7 : decode cX7_back 7 = .ok (.iconst 1, 1) := by decide +kernel
theorem dX7_back_8 : decode cX7_back 8 = .ok (.invokestatic 54, 3) := by decide +kernel
theorem dX7_back_11 : decode cX7_back 11 = .ok (.ifCond .ne 5, 3) := by decide +kernel
theorem dX7_back_14 : decode cX7_back 14 = .ok (.iconst (-1), 1) := by decide +kernel
theorem dX7_back_15 : decode cX7_back 15 = .ok (.ireturn, 1) := by decide +kernel
theorem dX7_back_16 : decode cX7_back 16 = .ok (.aload_n 0, 1) := by decide +kernel
theorem dX7_back_17 : decode cX7_back 17 = .ok (.getfield 28, 3) := by decide +kernel
theorem dX7_back_20 : decode cX7_back 20 = .ok (.iload_n 1, 1) := by decide +kernel
theorem dX7_back_21 : decode cX7_back 21 = .ok (.baload, 1) := by decide +kernel
theorem dX7_back_22 : decode cX7_back 22 = .ok (.ifCond .ne 6, 3) := by decide +kernel
theorem dX7_back_25 : decode cX7_back 25 = .ok (.bipush (-2), 2) := by decide +kernel
theorem dX7_back_27 : decode cX7_back 27 = .ok (.ireturn, 1) := by decide +kernel
theorem dX7_back_28 : decode cX7_back 28 = .ok (.iconst 0, 1) := by decide +kernel
theorem dX7_back_29 : decode cX7_back 29 = .ok (.istore_n 2, 1) := by decide +kernel
theorem dX7_back_30 : decode cX7_back 30 = .ok (.iload_n 2, 1) := by decide +kernel
theorem dX7_back_31 : decode cX7_back 31 = .ok (.bipush 82, 2) := by decide +kernel
theorem dX7_back_33 : decode cX7_back 33 = .ok (.if_icmp .ge 26, 3) := by decide +kernel
theorem dX7_back_36 : decode cX7_back 36 = .ok (.aload_n 0, 1) := by decide +kernel
theorem dX7_back_37 : decode cX7_back 37 = .ok (.getfield 19, 3) := by decide +kernel
theorem dX7_back_40 : decode cX7_back 40 = .ok (.iload_n 2, 1) := by decide +kernel
theorem dX7_back_41 : decode cX7_back 41 = .ok (.aload_n 0, 1) := by decide +kernel
theorem dX7_back_42 : decode cX7_back 42 = .ok (.getfield 25, 3) := by decide +kernel
theorem dX7_back_45 : decode cX7_back 45 = .ok (.bipush 82, 2) := by decide +kernel
theorem dX7_back_47 : decode cX7_back 47 = .ok (.iload_n 1, 1) := by decide +kernel
theorem dX7_back_48 : decode cX7_back 48 = .ok (.imul, 1) := by decide +kernel
theorem dX7_back_49 : decode cX7_back 49 = .ok (.iload_n 2, 1) := by decide +kernel
theorem dX7_back_50 : decode cX7_back 50 = .ok (.iadd, 1) := by decide +kernel
theorem dX7_back_51 : decode cX7_back 51 = .ok (.iaload, 1) := by decide +kernel
theorem dX7_back_52 : decode cX7_back 52 = .ok (.iastore, 1) := by decide +kernel
theorem dX7_back_53 : decode cX7_back 53 = .ok (.iinc 2 1, 3) := by decide +kernel
theorem dX7_back_56 : decode cX7_back 56 = .ok (.goto (-26), 3) := by decide +kernel
theorem dX7_back_59 : decode cX7_back 59 = .ok (.aload_n 0, 1) := by decide +kernel
theorem dX7_back_60 : decode cX7_back 60 = .ok (.getfield 19, 3) := by decide +kernel
theorem dX7_back_63 : decode cX7_back 63 = .ok (.bipush 72, 2) := by decide +kernel
theorem dX7_back_65 : decode cX7_back 65 = .ok (.iaload, 1) := by decide +kernel
theorem dX7_back_66 : decode cX7_back 66 = .ok (.ireturn, 1) := by decide +kernel
theorem dX7_count_0 : decode cX7_count 0 = .ok (.aload_n 0, 1) := by decide +kernel
theorem dX7_count_1 : decode cX7_count 1 = .ok (.iconst 0, 1) := by decide +kernel
theorem dX7_count_2 : decode cX7_count 2 = .ok (.putfield 51, 3) := by decide +kernel
theorem dX7_count_5 : decode cX7_count 5 = .ok (.iconst 0, 1) := by decide +kernel
theorem dX7_count_6 : decode cX7_count 6 = .ok (.istore_n 2, 1) := by decide +kernel
theorem dX7_count_7 : decode cX7_count 7 = .ok (.iconst 0, 1) := by decide +kernel
theorem dX7_count_8 : decode cX7_count 8 = .ok (.istore_n 3, 1) := by decide +kernel
theorem dX7_count_9 : decode cX7_count 9 = .ok (.iload_n 3, 1) := by decide +kernel
theorem dX7_count_10 : decode cX7_count 10 = .ok (.aload_n 0, 1) := by decide +kernel
theorem dX7_count_11 : decode cX7_count 11 = .ok (.getfield 137, 3) := by decide +kernel
theorem dX7_count_14 : decode cX7_count 14 = .ok (.if_icmp .ge 28, 3) := by decide +kernel
theorem dX7_count_17 : decode cX7_count 17 = .ok (.iload_n 2, 1) := by decide +kernel
theorem dX7_count_18 : decode cX7_count 18 = .ok (.aload_n 0, 1) := by decide +kernel
theorem dX7_count_19 : decode cX7_count 19 = .ok (.getfield 16, 3) := by decide +kernel
theorem dX7_count_22 : decode cX7_count 22 = .ok (.iload_n 3, 1) := by decide +kernel
theorem dX7_count_23 : decode cX7_count 23 = .ok (.iaload, 1) := by decide +kernel
theorem dX7_count_24 : decode cX7_count 24 = .ok (.bipush (-9), 2) := by decide +kernel
theorem dX7_count_26 : decode cX7_count 26 = .ok (.if_icmp .eq 7, 3) := by decide +kernel
theorem dX7_count_29 : decode cX7_count 29 = .ok (.iconst 1, 1) := by decide +kernel
theorem dX7_count_30 : decode cX7_count 30 = .ok (.goto 4, 3) := by decide +kernel
theorem dX7_count_33 : decode cX7_count 33 = .ok (.iconst 0, 1) := by decide +kernel
theorem dX7_count_34 : decode cX7_count 34 = .ok (.iadd, 1) := by decide +kernel
theorem dX7_count_35 : decode cX7_count 35 = .ok (.istore_n 2, 1) := by decide +kernel
theorem dX7_count_36 : decode cX7_count 36 = .ok (.iinc 3 1, 3) := by decide +kernel
theorem dX7_count_39 : decode cX7_count 39 = .ok (.goto (-30), 3) := by decide +kernel
theorem dX7_count_42 : decode cX7_count 42 = .ok (.iload_n 1, 1) := by decide +kernel
theorem dX7_count_43 : decode cX7_count 43 = .ok (.ifCond .ne 10, 3) := by decide +kernel
theorem dX7_count_46 : decode cX7_count 46 = .ok (.aload_n 0, 1) := by decide +kernel
theorem dX7_count_47 : decode cX7_count 47 = .ok (.getfield 137, 3) := by decide +kernel
theorem dX7_count_50 : decode cX7_count 50 = .ok (.goto 37, 3) := by decide +kernel
theorem dX7_count_53 : decode cX7_count 53 = .ok (.iload_n 1, 1) := by decide +kernel
theorem dX7_count_54 : decode cX7_count 54 = .ok (.iconst 1, 1) := by decide +kernel
theorem dX7_count_55 : decode cX7_count 55 = .ok (.if_icmp .ne 10, 3) := by decide +kernel
theorem dX7_count_58 : decode cX7_count 58 = .ok (.aload_n 0, 1) := by decide +kernel
theorem dX7_count_59 : decode cX7_count 59 = .ok (.invokevirtual 177, 3) := by decide +kernel
theorem dX7_count_62 : decode cX7_count 62 = .ok (.goto 25, 3) := by decide +kernel
theorem dX7_count_65 : decode cX7_count 65 = .ok (.iload_n 1, 1) := by decide +kernel
theorem dX7_count_66 : decode cX7_count 66 = .ok (.iconst 2, 1) := by decide +kernel
theorem dX7_count_67 : decode cX7_count 67 = .ok (.if_icmp .ne 7, 3) := by decide +kernel
theorem dX7_count_70 : decode cX7_count 70 = .ok (.iload_n 2, 1) := by decide +kernel
theorem dX7_count_71 : decode cX7_count 71 = .ok (.goto 16, 3) := by decide +kernel
theorem dX7_count_74 : decode cX7_count 74 = .ok (.iload_n 1, 1) := by decide +kernel
theorem dX7_count_75 : decode cX7_count 75 = .ok (.iconst 3, 1) := by decide +kernel
theorem dX7_count_76 : decode cX7_count 76 = .ok (.if_icmp .ne 10, 3) := by decide +kernel
theorem dX7_count_79 : decode cX7_count 79 = .ok (.aload_n 0, 1) := by decide +kernel
theorem dX7_count_80 : decode cX7_count 80 = .ok (.getfield 58, 3) := by decide +kernel
theorem dX7_count_83 : decode cX7_count 83 = .ok (.goto 4, 3) := by decide +kernel
theorem dX7_count_86 : decode cX7_count 86 = .ok (.iconst (-1), 1) := by decide +kernel
theorem dX7_count_87 : decode cX7_count 87 = .ok (.ireturn, 1) := by decide +kernel
theorem dX7_trace_0 : decode cX7_trace 0 = .ok (.aload_n 0, 1) := by decide +kernel
theorem dX7_trace_1 : decode cX7_trace 1 = .ok (.iconst 0, 1) := by decide +kernel
theorem dX7_trace_2 : decode cX7_trace 2 = .ok (.putfield 51, 3) := by decide +kernel
theorem dX7_trace_5 : decode cX7_trace 5 = .ok (.aload_n 0, 1) := by decide +kernel
theorem dX7_trace_6 : decode cX7_trace 6 = .ok (.getfield 220, 3) := by decide +kernel
theorem dX7_trace_9 : decode cX7_trace 9 = .ok (.lreturn, 1) := by decide +kernel
end
section
/-! A JUDGEMENT OF ITS OWN OVER THE KIT: all cells of ours stand one behind another from the law's start on; a heap is a function from their numbers. 'Go' is a walk inside a method, 'Sp' a method's contract. -/
abbrev kM : Type := MethodName × ByteArray × Nat × Option FieldType
abbrev kG : Type := va_G × ClassId × ClassId × State
abbrev kH : Type := Nat → va_E
abbrev kZ : Type := Nat × Nat × Nat
def kb (G : kG) : Nat := G.2.2.2.heap.size
def kws (G : kG) (n : Nat) (h : kH) : va_W := (List.range n).map (fun i => (kb G + i, h i))
def kA (G : kG) : Nat → Prop := fun q => kb G ≤ q
def kty (G : kG) : List (ClassId × FieldType) := [(G.2.1, .int), (G.2.2.1, .boolean)]
def kOK (G : kG) : Prop := (∃ b : Nat, (∀ w ∈ lw_tbl, w.before #[Value.ref b] G.2.2.2 = true) ∧ (Jvm.Cond.and given_1 narrow_1).before #[Value.ref b] G.2.2.2 = true) ∧ va_K G.1 vwCl (kty G) G.2.2.2 ∧ G.2.2.2.vm.findClass ("[" ++ FieldType.int.toString) = some G.2.1 ∧ G.2.2.2.vm.findClass ("[" ++ FieldType.boolean.toString) = some G.2.2.1
def hu (h : kH) (i : Nat) (e : va_E) : kH := fun j => if j = i then e else h j
def kWd (G : kG) (n : Nat) (h : kH) (H : Heap) (locs : List Loc) : Prop := H.size = kb G + n ∧ va_P G.1 vwCl (kws G n h) H ∧ va_S (kA G) G.2.2.2.heap H locs
theorem kws_get {G : kG} {n : Nat} {h : kH} {i : Nat} (hi : i < n) : (kws G n h)[i]? = some (kb G + i, h i) := by
  simp [kws, List.getElem?_range hi]
theorem kws_of {G : kG} {n : Nat} {h : kH} {i : Nat} {q : Nat × va_E} (hq : (kws G n h)[i]? = some q) : i < n ∧ q = (kb G + i, h i) := by
  have hl : i < (kws G n h).length := (List.getElem?_eq_some_iff.mp hq).1
  have hi : i < n := by simpa [kws] using hl
  rw [kws_get hi] at hq
  exact ⟨hi, (Option.some.inj hq).symm⟩
theorem hu_self (h : kH) (i : Nat) (e : va_E) : hu h i e i = e := by simp [hu]
theorem hu_ne (h : kH) {i j : Nat} (e : va_E) (hj : j ≠ i) : hu h i e j = h j := by simp [hu, hj]
theorem kws_set {G : kG} {n : Nat} {h : kH} {i : Nat} {e : va_E} (hi : i < n) : (kws G n h).set i (kb G + i, e) = kws G n (hu h i e) := by
  have hl : i < (kws G n h).length := by simpa [kws] using hi
  apply List.ext_getElem?
  intro j
  by_cases hj : j = i
  · subst hj
    rw [List.getElem?_set_self hl, kws_get hi, hu_self]
  · rw [List.getElem?_set_ne (Ne.symm hj)]
    by_cases hn : j < n
    · rw [kws_get hn, kws_get hn, hu_ne _ _ hj]
    · rw [List.getElem?_eq_none (by simp [kws]; omega), List.getElem?_eq_none (by simp [kws]; omega)]
theorem kws_push {G : kG} {n : Nat} {h : kH} {e : va_E} : kws G n h ++ [(kb G + n, e)] = kws G (n + 1) (hu h n e) := by
  apply List.ext_getElem?
  intro j
  by_cases hj : j < n
  · rw [List.getElem?_append_left (by simp [kws]; omega), kws_get hj, kws_get (by omega), hu_ne _ _ (by omega)]
  · rw [List.getElem?_append_right (by simp [kws]; omega)]
    by_cases hn : j = n
    · subst hn
      have e1 : j - (kws G j h).length = 0 := by simp [kws]
      rw [e1, kws_get (by omega), hu_self]
      rfl
    · have e1 : 0 < j - (kws G n h).length := by simp [kws]; omega
      rw [List.getElem?_eq_none (by simp only [List.length_cons, List.length_nil]; omega), List.getElem?_eq_none (by simp [kws]; omega)]
theorem kws_D {G : kG} {n : Nat} {h : kH} : va_D (kA G) (kws G n h) := by
  refine ⟨fun i j p q hi hj e => ?_, fun k q hk => ?_⟩
  · obtain ⟨-, rfl⟩ := kws_of hi
    obtain ⟨-, rfl⟩ := kws_of hj
    have e' : kb G + i = kb G + j := e
    omega
  · obtain ⟨-, rfl⟩ := kws_of hk
    exact Nat.le_add_right _ _
/-- the words at any place of the run -/
theorem kword {G : kG} (hG : kOK G) {s : State} (hW : G.2.2.2.WarmedH s.vm) {w : Cond} (hw : w ∈ lw_tbl ∧ goodWord w = true) (args : Array Value) : w.before args s = true := by
  obtain ⟨⟨b, hts, -⟩, -⟩ := hG
  exact word_at hW (good_of_word hw.2) (hts w hw.1)
theorem kwordN {G : kG} (hG : kOK G) {s : State} (hW : G.2.2.2.WarmedH s.vm) {own : String} {idx : Nat} {y : MethodName} {host : String} (hw : Cond.methodLinkNest own idx y host ∈ lw_tbl) : va_Nw (.methodLinkNest own idx y host) s := by
  obtain ⟨⟨b, hts, -⟩, -⟩ := hG
  exact va_Nw.warmM hW (va_Nw.of rfl (hts _ hw))
theorem kK {G : kG} (hG : kOK G) {s : State} (hW : G.2.2.2.WarmedH s.vm) : va_K G.1 vwCl (kty G) s := va_K.moved hW.alike hG.2.1
/-- a frame of the method M; how deep it may call, what it may make -/
def kC (G : kG) (M : kM) (κ : kZ) (p : Program) (R : Room) (s : State) (m : MethodId) (meth : Method) (c : Code) : Prop :=
  p.tables.exec = Jvm.exec ∧ c.code = M.2.1 ∧ c.maxLocals = M.2.2.1 ∧ s.vm.findClass M.1.cls = some m.cls ∧ meth.name = M.1.name ∧ G.2.2.2.WarmedH s.vm ∧ κ.1 + 1 ≤ R.frames ∧ 40 * (κ.1 + 1) ≤ R.locals ∧ κ.2.1 ≤ R.cells ∧ κ.2.2 ≤ R.slots
def kRet (M : kM) (pc : Nat) : Option Value → Prop
  | none => decode M.2.1 pc = .ok (.return_, 1)
  | some (.int _) => decode M.2.1 pc = .ok (.ireturn, 1)
  | some (.long _) => decode M.2.1 pc = .ok (.lreturn, 1)
  | some (.ref _) => decode M.2.1 pc = .ok (.areturn, 1)
  | _ => False
def Go (G : kG) (M : kM) (κ : kZ) (pc : Nat) (lv : List (Nat × Value)) (st : List Value) (z : kZ) (h : kH) (Q : Option Value → kZ → kH → Prop) : Prop :=
  ∀ (p : Program) (l : Launch) (e : Env) (R : Room) (s : State) (m : MethodId) (args : Array Value) (below : List Frame) (meth : Method) (c : Code) (H : Heap) (locs : List Loc) (ls : Array Slot) (Qm : State → Prop),
    kOK G → kC G M κ p R s m meth c → kWd G z.1 h H locs → lv_has ls M.2.2.1 lv →
    (∀ (r : Option Value) (z' : kZ) (h' : kH) (H' : Heap) (locs' : List Loc) (ls' : Array Slot) (pc' : Nat), Q r z' h' → kWd G z'.1 h' H' locs' → kRet M pc' r → W p l e R s m args below meth c H' locs' z'.2.1 z'.2.2 Qm (F0 m pc' ls' r.toList)) →
    W p l e R s m args below meth c H locs z.2.1 z.2.2 Qm (F0 m pc ls st)
def Sp (G : kG) (M : kM) (κ : kZ) (as : List Value) (n : Nat) (h : kH) (Q : Option Value → Nat → kH → Prop) : Prop :=
  ∀ l : Launch, kOK G → Met l M.1 [Cond.code M.1 M.2.1 M.2.2.1 M.2.2.2] ({ frames := κ.1 + 1, cells := κ.2.1, slots := κ.2.2, locals := 40 * (κ.1 + 1) } : Room)
    (fun v U => v = as.toArray ∧ G.2.2.2.WarmedH U.vm ∧ kWd G n h U.heap [])
    (fun _ _ o t => ∃ (r : Option Value) (n' : Nat) (h' : kH), o = .returned r ∧ Q r n' h' ∧ kWd G n' h' t.heap []) κ.2.1 κ.2.2 (kA G)
/-- an answer is of the method's type -/
def kTy (M : kM) : Option Value → Prop
  | none => M.2.2.2 = none
  | some (.int v) => ∃ ty, M.2.2.2 = some ty ∧ narrow ty (.int v) = .int v
  | some (.long _) => M.2.2.2 = some .long
  | some (.ref _) => ∃ rt, M.2.2.2 = some rt ∧ ((∃ n, rt = .object n) ∨ ∃ t, rt = .array t)
  | _ => False
theorem kWd.noLocs {G : kG} {n : Nat} {h : kH} {H : Heap} {locs : List Loc} (w : kWd G n h H locs) : kWd G n h H [] := ⟨w.1, w.2.1, w.2.2.1, w.2.2.2.1, fun _ h => by cases h⟩
theorem Sp.mono {G : kG} {M : kM} {κ : kZ} {as : List Value} {n : Nat} {h : kH} {Q Q' : Option Value → Nat → kH → Prop} (H : Sp G M κ as n h Q) (hq : ∀ r n' h', Q r n' h' → Q' r n' h') : Sp G M κ as n h Q' := by
  intro l hG
  have k := H l hG
  unfold Met at k ⊢
  exact k.mono (fun _ _ h => h) (fun _ _ _ _ _ h => h) fun a st o t _ ⟨⟨r, n', h', e1, e2, e3⟩, hf⟩ => ⟨⟨r, n', h', e1, hq _ _ _ e2, e3⟩, hf⟩
set_option maxHeartbeats 1000000 in
theorem Sp.of {G : kG} {M : kM} {κ : kZ} {as : List Value} {n : Nat} {h : kH} {Q : Option Value → Nat → kH → Prop} (hy : plainName M.1.cls = true) (hlen : (lg_sl as).length ≤ M.2.2.1)
    (H : Go G M κ 0 (lv_args 0 as) [] (n, 0, 0) h (fun r z h' => z.2.1 ≤ κ.2.1 ∧ z.2.2 ≤ κ.2.2 ∧ kTy M r ∧ Q r z.1 h')) : Sp G M κ as n h Q := by
  intro l hG
  refine Met.ofW (cc := M.2.1) (maxL := M.2.2.1) (ret := M.2.2.2) hy rfl ?_
  intro p e s m args below meth c s₁ B hml hv
  obtain ⟨rfl, hW, hWd⟩ := hv
  have hx := B.exec
  have hb := B.bytes
  have hr := B.returns
  have hown : s.vm.findClass M.1.cls = some m.cls := findClass_of_methodNamed B.named
  have hlocks := B.notSynchronized
  have hin : meth.name = M.1.name := (name_of_methodNamed B.named B.method).1
  have hl := lv_entry as (n := M.2.2.1) hlen
  rw [lg_entry_eq]
  refine H p l e _ s m _ below meth c s.heap [] _ _ hG ⟨hx, hb, hml, hown, hin, hW, Nat.le_refl _, Nat.le_refl _, Nat.le_refl _, Nat.le_refl _⟩ hWd hl ?_
  rintro r z' h' H' locs' ls' pc' ⟨hz1, hz2, hty, hQ⟩ hWd' hret
  refine W.widen hz1 hz2 ?_
  have hf : ∀ q ∈ locs', kA G q.base := hWd'.2.2.2.2
  have key : ∀ t : State, t.heap = H' → (fun _ _ o t => ∃ (r : Option Value) (n' : Nat) (h' : kH), o = .returned r ∧ Q r n' h' ∧ kWd G n' h' t.heap [] : Array Value → State → Outcome → State → Prop) as.toArray s (.returned r) t := fun t ht => ⟨r, z'.1, h', rfl, hQ, by rw [ht]; exact hWd'.noLocs⟩
  match r, hret, hty with
  | none, hret, hty => exact W.vret hx hb (hr.trans hty) (fun t ht _ => key t ht) hf hret
  | some (.int v), hret, ⟨ty, e1, e2⟩ => exact W.zret hx hb (hr.trans e1) e2 (fun t ht _ => key t ht) hf hret
  | some (.long v), hret, hty => exact W.lret hx hb (hr.trans hty) (fun t ht _ => key t ht) hf hret
  | some (.ref v), hret, ⟨rt, e1, e2⟩ => exact W.aret hx hb (hr.trans e1) e2 (Or.inr ⟨v, rfl⟩) (fun t ht _ => key t ht) hf hret
end
section
section KR
variable {G : kG} {M : kM} {κ z : kZ} {pc nx : Nat} {lv : List (Nat × Value)} {st : List Value} {h : kH} {Q : Option Value → kZ → kH → Prop}
theorem Go.mono {Q' : Option Value → kZ → kH → Prop} (k : Go G M κ pc lv st z h Q') (hq : ∀ r z' h', Q' r z' h' → Q r z' h') : Go G M κ pc lv st z h Q := by
  intro p l e R s m args below meth c H locs ls Qm hG hC hW hl hr
  exact k p l e R s m args below meth c H locs ls Qm hG hC hW hl (fun r z' h' H' locs' ls' pc' hQ => hr r z' h' H' locs' ls' pc' (hq _ _ _ hQ))
theorem Go.sub (ks : List Nat) {lv' : List (Nat × Value)} (hl' : lv_pick lv ks = lv') (k : Go G M κ pc lv' st z h Q) : Go G M κ pc lv st z h Q := by
  intro p l e R s m args below meth c H locs ls Qm hG hC hW hl hr
  exact k p l e R s m args below meth c H locs ls Qm hG hC hW (lv_sub hl ks hl') hr
theorem Go.heap {h' : kH} (e : h = h') (k : Go G M κ pc lv st z h' Q) : Go G M κ pc lv st z h Q := e ▸ k
theorem Go.stk {st' : List Value} (e : st = st') (k : Go G M κ pc lv st' z h Q) : Go G M κ pc lv st z h Q := e ▸ k
theorem Go.loc {lv' : List (Nat × Value)} (e : lv = lv') (k : Go G M κ pc lv' st z h Q) : Go G M κ pc lv st z h Q := e ▸ k
theorem Go.ok (k : kOK G → Go G M κ pc lv st z h Q) : Go G M κ pc lv st z h Q := fun p l e R s m args below meth c H locs ls Qm hG => k hG p l e R s m args below meth c H locs ls Qm hG
theorem go_iconst {n : Int} {v : Int32} (hd : decode M.2.1 pc = .ok (.iconst n, 1)) (hv : Int32.ofInt n = v) (hn : pc + 1 = nx) (k : Go G M κ nx lv (.int v :: st) z h Q) : Go G M κ pc lv (st) z h Q := by
  intro p l e R s m args below meth c H locs ls Qm hG hC hW hl hr
  have hx := hC.1
  have hb := hC.2.1
  subst hn
  exact lv_iconst hx hb hd hv (k p l e R s m args below meth c H locs ls Qm hG hC hW hl hr)
theorem go_bipush {n : Int} {v : Int32} (hd : decode M.2.1 pc = .ok (.bipush n, 2)) (hv : (Int8.ofInt n).toInt32 = v) (hn : pc + 2 = nx) (k : Go G M κ nx lv (.int v :: st) z h Q) : Go G M κ pc lv (st) z h Q := by
  intro p l e R s m args below meth c H locs ls Qm hG hC hW hl hr
  have hx := hC.1
  have hb := hC.2.1
  subst hn
  exact lv_bipush hx hb hd hv (k p l e R s m args below meth c H locs ls Qm hG hC hW hl hr)
theorem go_sipush {n : Int} {v : Int32} (hd : decode M.2.1 pc = .ok (.sipush n, 3)) (hv : (Int16.ofInt n).toInt32 = v) (hn : pc + 3 = nx) (k : Go G M κ nx lv (.int v :: st) z h Q) : Go G M κ pc lv (st) z h Q := by
  intro p l e R s m args below meth c H locs ls Qm hG hC hW hl hr
  have hx := hC.1
  have hb := hC.2.1
  subst hn
  exact lv_sipush hx hb hd hv (k p l e R s m args below meth c H locs ls Qm hG hC hW hl hr)
theorem go_lconst {n : Fin 2} {v : Int64} (hd : decode M.2.1 pc = .ok (.lconst n, 1)) (hv : Int64.ofNat (n : Nat) = v) (hn : pc + 1 = nx) (k : Go G M κ nx lv (.long v :: st) z h Q) : Go G M κ pc lv (st) z h Q := by
  intro p l e R s m args below meth c H locs ls Qm hG hC hW hl hr
  have hx := hC.1
  have hb := hC.2.1
  subst hn
  exact lv_lconst hx hb hd hv (k p l e R s m args below meth c H locs ls Qm hG hC hW hl hr)
theorem go_iload_n (k0 : Nat) {k : Fin 4} {i : Nat} {x : Int32} (hd : decode M.2.1 pc = .ok (.iload_n k, 1)) (hi : (k : Nat) = i) (hk : lv[k0]? = some (i, .int x)) (hn : pc + 1 = nx) (kk : Go G M κ nx lv (.int x :: st) z h Q) : Go G M κ pc lv st z h Q := by
  intro p l e R s m args below meth c H locs ls Qm hG hC hW hl hr
  have hx := hC.1
  have hb := hC.2.1
  subst hn
  exact lv_iload_n hx hb hd hi (lv_at hl k0 hk) (kk p l e R s m args below meth c H locs ls Qm hG hC hW hl hr)
theorem go_iload (k0 : Nat) {i : Nat} {x : Int32} (hd : decode M.2.1 pc = .ok (.iload i, 2)) (hk : lv[k0]? = some (i, .int x)) (hn : pc + 2 = nx) (kk : Go G M κ nx lv (.int x :: st) z h Q) : Go G M κ pc lv st z h Q := by
  intro p l e R s m args below meth c H locs ls Qm hG hC hW hl hr
  have hx := hC.1
  have hb := hC.2.1
  subst hn
  exact lv_iload hx hb hd (lv_at hl k0 hk) (kk p l e R s m args below meth c H locs ls Qm hG hC hW hl hr)
theorem go_istore_n {lv' : List (Nat × Value)} {k : Fin 4} {i : Nat} {x : Int32} (hd : decode M.2.1 pc = .ok (.istore_n k, 1)) (hi : (k : Nat) = i) (hlt : i < M.2.2.1) (hl' : (i, Value.int x) :: lv.filter (fun q => !(q.1 == i) && !(q.1 + 1 == i && q.2.category == 2)) = lv') (hn : pc + 1 = nx) (kk : Go G M κ nx lv' st z h Q) : Go G M κ pc lv (.int x :: st) z h Q := by
  intro p l e R s m args below meth c H locs ls Qm hG hC hW hl hr
  have hx := hC.1
  have hb := hC.2.1
  subst hn
  exact lv_istore_n hx hb hd hi hl hlt hl' (fun ls' hls => kk p l e R s m args below meth c H locs ls' Qm hG hC hW hls hr)
theorem go_istore {lv' : List (Nat × Value)} {i : Nat} {x : Int32} (hd : decode M.2.1 pc = .ok (.istore i, 2)) (hlt : i < M.2.2.1) (hl' : (i, Value.int x) :: lv.filter (fun q => !(q.1 == i) && !(q.1 + 1 == i && q.2.category == 2)) = lv') (hn : pc + 2 = nx) (kk : Go G M κ nx lv' st z h Q) : Go G M κ pc lv (.int x :: st) z h Q := by
  intro p l e R s m args below meth c H locs ls Qm hG hC hW hl hr
  have hx := hC.1
  have hb := hC.2.1
  subst hn
  exact lv_istore hx hb hd hl hlt hl' (fun ls' hls => kk p l e R s m args below meth c H locs ls' Qm hG hC hW hls hr)
theorem go_lload_n (k0 : Nat) {k : Fin 4} {i : Nat} {x : Int64} (hd : decode M.2.1 pc = .ok (.lload_n k, 1)) (hi : (k : Nat) = i) (hk : lv[k0]? = some (i, .long x)) (hn : pc + 1 = nx) (kk : Go G M κ nx lv (.long x :: st) z h Q) : Go G M κ pc lv st z h Q := by
  intro p l e R s m args below meth c H locs ls Qm hG hC hW hl hr
  have hx := hC.1
  have hb := hC.2.1
  subst hn
  exact lv_lload_n hx hb hd hi (lv_at hl k0 hk) (kk p l e R s m args below meth c H locs ls Qm hG hC hW hl hr)
theorem go_lload (k0 : Nat) {i : Nat} {x : Int64} (hd : decode M.2.1 pc = .ok (.lload i, 2)) (hk : lv[k0]? = some (i, .long x)) (hn : pc + 2 = nx) (kk : Go G M κ nx lv (.long x :: st) z h Q) : Go G M κ pc lv st z h Q := by
  intro p l e R s m args below meth c H locs ls Qm hG hC hW hl hr
  have hx := hC.1
  have hb := hC.2.1
  subst hn
  exact lv_lload hx hb hd (lv_at hl k0 hk) (kk p l e R s m args below meth c H locs ls Qm hG hC hW hl hr)
theorem go_lstore_n {lv' : List (Nat × Value)} {k : Fin 4} {i : Nat} {x : Int64} (hd : decode M.2.1 pc = .ok (.lstore_n k, 1)) (hi : (k : Nat) = i) (hlt : i + 1 < M.2.2.1) (hl' : (i, Value.long x) :: lv.filter (fun q => !(q.1 == i) && (!(q.1 == i + 1) && !(q.1 + 1 == i && q.2.category == 2))) = lv') (hn : pc + 1 = nx) (kk : Go G M κ nx lv' st z h Q) : Go G M κ pc lv (.long x :: st) z h Q := by
  intro p l e R s m args below meth c H locs ls Qm hG hC hW hl hr
  have hx := hC.1
  have hb := hC.2.1
  subst hn
  exact lv_lstore_n hx hb hd hi hl hlt hl' (fun ls' hls => kk p l e R s m args below meth c H locs ls' Qm hG hC hW hls hr)
theorem go_lstore {lv' : List (Nat × Value)} {i : Nat} {x : Int64} (hd : decode M.2.1 pc = .ok (.lstore i, 2)) (hlt : i + 1 < M.2.2.1) (hl' : (i, Value.long x) :: lv.filter (fun q => !(q.1 == i) && (!(q.1 == i + 1) && !(q.1 + 1 == i && q.2.category == 2))) = lv') (hn : pc + 2 = nx) (kk : Go G M κ nx lv' st z h Q) : Go G M κ pc lv (.long x :: st) z h Q := by
  intro p l e R s m args below meth c H locs ls Qm hG hC hW hl hr
  have hx := hC.1
  have hb := hC.2.1
  subst hn
  exact lv_lstore hx hb hd hl hlt hl' (fun ls' hls => kk p l e R s m args below meth c H locs ls' Qm hG hC hW hls hr)
theorem go_aload_n (k0 : Nat) {k : Fin 4} {i : Nat} {x : Nat} (hd : decode M.2.1 pc = .ok (.aload_n k, 1)) (hi : (k : Nat) = i) (hk : lv[k0]? = some (i, .ref x)) (hn : pc + 1 = nx) (kk : Go G M κ nx lv (.ref x :: st) z h Q) : Go G M κ pc lv st z h Q := by
  intro p l e R s m args below meth c H locs ls Qm hG hC hW hl hr
  have hx := hC.1
  have hb := hC.2.1
  subst hn
  exact lv_aload_n hx hb hd hi (lv_at hl k0 hk) (kk p l e R s m args below meth c H locs ls Qm hG hC hW hl hr)
theorem go_aload (k0 : Nat) {i : Nat} {x : Nat} (hd : decode M.2.1 pc = .ok (.aload i, 2)) (hk : lv[k0]? = some (i, .ref x)) (hn : pc + 2 = nx) (kk : Go G M κ nx lv (.ref x :: st) z h Q) : Go G M κ pc lv st z h Q := by
  intro p l e R s m args below meth c H locs ls Qm hG hC hW hl hr
  have hx := hC.1
  have hb := hC.2.1
  subst hn
  exact lv_aload hx hb hd (lv_at hl k0 hk) (kk p l e R s m args below meth c H locs ls Qm hG hC hW hl hr)
theorem go_astore_n {lv' : List (Nat × Value)} {k : Fin 4} {i : Nat} {x : Nat} (hd : decode M.2.1 pc = .ok (.astore_n k, 1)) (hi : (k : Nat) = i) (hlt : i < M.2.2.1) (hl' : (i, Value.ref x) :: lv.filter (fun q => !(q.1 == i) && !(q.1 + 1 == i && q.2.category == 2)) = lv') (hn : pc + 1 = nx) (kk : Go G M κ nx lv' st z h Q) : Go G M κ pc lv (.ref x :: st) z h Q := by
  intro p l e R s m args below meth c H locs ls Qm hG hC hW hl hr
  have hx := hC.1
  have hb := hC.2.1
  subst hn
  exact lv_astore_n hx hb hd hi hl hlt hl' (fun ls' hls => kk p l e R s m args below meth c H locs ls' Qm hG hC hW hls hr)
theorem go_astore {lv' : List (Nat × Value)} {i : Nat} {x : Nat} (hd : decode M.2.1 pc = .ok (.astore i, 2)) (hlt : i < M.2.2.1) (hl' : (i, Value.ref x) :: lv.filter (fun q => !(q.1 == i) && !(q.1 + 1 == i && q.2.category == 2)) = lv') (hn : pc + 2 = nx) (kk : Go G M κ nx lv' st z h Q) : Go G M κ pc lv (.ref x :: st) z h Q := by
  intro p l e R s m args below meth c H locs ls Qm hG hC hW hl hr
  have hx := hC.1
  have hb := hC.2.1
  subst hn
  exact lv_astore hx hb hd hl hlt hl' (fun ls' hls => kk p l e R s m args below meth c H locs ls' Qm hG hC hW hls hr)
theorem go_iinc (k0 : Nat) {lv' : List (Nat × Value)} {i : Nat} {n : Int} {x v : Int32} (hd : decode M.2.1 pc = .ok (.iinc i n, 3)) (hk : lv[k0]? = some (i, .int x)) (hv : x + Int32.ofInt n = v) (hlt : i < M.2.2.1) (hl' : (i, Value.int v) :: lv.filter (fun q => !(q.1 == i) && !(q.1 + 1 == i && q.2.category == 2)) = lv') (hn : pc + 3 = nx) (kk : Go G M κ nx lv' st z h Q) : Go G M κ pc lv st z h Q := by
  intro p l e R s m args below meth c H locs ls Qm hG hC hW hl hr
  have hx := hC.1
  have hb := hC.2.1
  subst hn
  exact lv_iinc hx hb hd hl hk hv hlt hl' (fun ls' hls => kk p l e R s m args below meth c H locs ls' Qm hG hC hW hls hr)
theorem go_iadd {x y : Int32} (hd : decode M.2.1 pc = .ok (.iadd, 1)) (hn : pc + 1 = nx) (k : Go G M κ nx lv (.int (x + y) :: st) z h Q) : Go G M κ pc lv (.int y :: .int x :: st) z h Q := by
  intro p l e R s m args below meth c H locs ls Qm hG hC hW hl hr
  have hx := hC.1
  have hb := hC.2.1
  subst hn
  exact lv_iadd hx hb hd (k p l e R s m args below meth c H locs ls Qm hG hC hW hl hr)
theorem go_isub {x y : Int32} (hd : decode M.2.1 pc = .ok (.isub, 1)) (hn : pc + 1 = nx) (k : Go G M κ nx lv (.int (x - y) :: st) z h Q) : Go G M κ pc lv (.int y :: .int x :: st) z h Q := by
  intro p l e R s m args below meth c H locs ls Qm hG hC hW hl hr
  have hx := hC.1
  have hb := hC.2.1
  subst hn
  exact lv_isub hx hb hd (k p l e R s m args below meth c H locs ls Qm hG hC hW hl hr)
theorem go_imul {x y : Int32} (hd : decode M.2.1 pc = .ok (.imul, 1)) (hn : pc + 1 = nx) (k : Go G M κ nx lv (.int (x * y) :: st) z h Q) : Go G M κ pc lv (.int y :: .int x :: st) z h Q := by
  intro p l e R s m args below meth c H locs ls Qm hG hC hW hl hr
  have hx := hC.1
  have hb := hC.2.1
  subst hn
  exact lv_imul hx hb hd (k p l e R s m args below meth c H locs ls Qm hG hC hW hl hr)
theorem go_iand {x y : Int32} (hd : decode M.2.1 pc = .ok (.iand, 1)) (hn : pc + 1 = nx) (k : Go G M κ nx lv (.int (x &&& y) :: st) z h Q) : Go G M κ pc lv (.int y :: .int x :: st) z h Q := by
  intro p l e R s m args below meth c H locs ls Qm hG hC hW hl hr
  have hx := hC.1
  have hb := hC.2.1
  subst hn
  exact lv_iand hx hb hd (k p l e R s m args below meth c H locs ls Qm hG hC hW hl hr)
theorem go_ior {x y : Int32} (hd : decode M.2.1 pc = .ok (.ior, 1)) (hn : pc + 1 = nx) (k : Go G M κ nx lv (.int (x ||| y) :: st) z h Q) : Go G M κ pc lv (.int y :: .int x :: st) z h Q := by
  intro p l e R s m args below meth c H locs ls Qm hG hC hW hl hr
  have hx := hC.1
  have hb := hC.2.1
  subst hn
  exact lv_ior hx hb hd (k p l e R s m args below meth c H locs ls Qm hG hC hW hl hr)
theorem go_ixor {x y : Int32} (hd : decode M.2.1 pc = .ok (.ixor, 1)) (hn : pc + 1 = nx) (k : Go G M κ nx lv (.int (x ^^^ y) :: st) z h Q) : Go G M κ pc lv (.int y :: .int x :: st) z h Q := by
  intro p l e R s m args below meth c H locs ls Qm hG hC hW hl hr
  have hx := hC.1
  have hb := hC.2.1
  subst hn
  exact lv_ixor hx hb hd (k p l e R s m args below meth c H locs ls Qm hG hC hW hl hr)
theorem go_ishl {x y : Int32} (hd : decode M.2.1 pc = .ok (.ishl, 1)) (hn : pc + 1 = nx) (k : Go G M κ nx lv (.int (x <<< (y &&& 31)) :: st) z h Q) : Go G M κ pc lv (.int y :: .int x :: st) z h Q := by
  intro p l e R s m args below meth c H locs ls Qm hG hC hW hl hr
  have hx := hC.1
  have hb := hC.2.1
  subst hn
  exact lv_ishl hx hb hd (k p l e R s m args below meth c H locs ls Qm hG hC hW hl hr)
theorem go_ishr {x y : Int32} (hd : decode M.2.1 pc = .ok (.ishr, 1)) (hn : pc + 1 = nx) (k : Go G M κ nx lv (.int (x >>> (y &&& 31)) :: st) z h Q) : Go G M κ pc lv (.int y :: .int x :: st) z h Q := by
  intro p l e R s m args below meth c H locs ls Qm hG hC hW hl hr
  have hx := hC.1
  have hb := hC.2.1
  subst hn
  exact lv_ishr hx hb hd (k p l e R s m args below meth c H locs ls Qm hG hC hW hl hr)
theorem go_idiv {x y : Int32} (hd : decode M.2.1 pc = .ok (.idiv, 1)) (hne : ¬ y = 0) (hn : pc + 1 = nx) (k : Go G M κ nx lv (.int (x / y) :: st) z h Q) : Go G M κ pc lv (.int y :: .int x :: st) z h Q := by
  intro p l e R s m args below meth c H locs ls Qm hG hC hW hl hr
  have hx := hC.1
  have hb := hC.2.1
  subst hn
  exact lv_idiv hx hb hd hne (k p l e R s m args below meth c H locs ls Qm hG hC hW hl hr)
theorem go_irem {x y : Int32} (hd : decode M.2.1 pc = .ok (.irem, 1)) (hne : ¬ y = 0) (hn : pc + 1 = nx) (k : Go G M κ nx lv (.int (x - x / y * y) :: st) z h Q) : Go G M κ pc lv (.int y :: .int x :: st) z h Q := by
  intro p l e R s m args below meth c H locs ls Qm hG hC hW hl hr
  have hx := hC.1
  have hb := hC.2.1
  subst hn
  exact lv_irem hx hb hd hne (k p l e R s m args below meth c H locs ls Qm hG hC hW hl hr)
theorem go_ladd {x y : Int64} (hd : decode M.2.1 pc = .ok (.ladd, 1)) (hn : pc + 1 = nx) (k : Go G M κ nx lv (.long (x + y) :: st) z h Q) : Go G M κ pc lv (.long y :: .long x :: st) z h Q := by
  intro p l e R s m args below meth c H locs ls Qm hG hC hW hl hr
  have hx := hC.1
  have hb := hC.2.1
  subst hn
  exact lv_ladd hx hb hd (k p l e R s m args below meth c H locs ls Qm hG hC hW hl hr)
theorem go_lmul {x y : Int64} (hd : decode M.2.1 pc = .ok (.lmul, 1)) (hn : pc + 1 = nx) (k : Go G M κ nx lv (.long (x * y) :: st) z h Q) : Go G M κ pc lv (.long y :: .long x :: st) z h Q := by
  intro p l e R s m args below meth c H locs ls Qm hG hC hW hl hr
  have hx := hC.1
  have hb := hC.2.1
  subst hn
  exact lv_lmul hx hb hd (k p l e R s m args below meth c H locs ls Qm hG hC hW hl hr)
theorem go_land {x y : Int64} (hd : decode M.2.1 pc = .ok (.land, 1)) (hn : pc + 1 = nx) (k : Go G M κ nx lv (.long (x &&& y) :: st) z h Q) : Go G M κ pc lv (.long y :: .long x :: st) z h Q := by
  intro p l e R s m args below meth c H locs ls Qm hG hC hW hl hr
  have hx := hC.1
  have hb := hC.2.1
  subst hn
  exact lv_land hx hb hd (k p l e R s m args below meth c H locs ls Qm hG hC hW hl hr)
theorem go_lor {x y : Int64} (hd : decode M.2.1 pc = .ok (.lor, 1)) (hn : pc + 1 = nx) (k : Go G M κ nx lv (.long (x ||| y) :: st) z h Q) : Go G M κ pc lv (.long y :: .long x :: st) z h Q := by
  intro p l e R s m args below meth c H locs ls Qm hG hC hW hl hr
  have hx := hC.1
  have hb := hC.2.1
  subst hn
  exact lv_lor hx hb hd (k p l e R s m args below meth c H locs ls Qm hG hC hW hl hr)
theorem go_lshl {x : Int64} {y : Int32} (hd : decode M.2.1 pc = .ok (.lshl, 1)) (hn : pc + 1 = nx) (k : Go G M κ nx lv (.long (x <<< (y.toInt64 &&& 63)) :: st) z h Q) : Go G M κ pc lv (.int y :: .long x :: st) z h Q := by
  intro p l e R s m args below meth c H locs ls Qm hG hC hW hl hr
  have hx := hC.1
  have hb := hC.2.1
  subst hn
  exact lv_lshl hx hb hd rfl (k p l e R s m args below meth c H locs ls Qm hG hC hW hl hr)
theorem go_lshr {x : Int64} {y : Int32} (hd : decode M.2.1 pc = .ok (.lshr, 1)) (hn : pc + 1 = nx) (k : Go G M κ nx lv (.long (x >>> (y.toInt64 &&& 63)) :: st) z h Q) : Go G M κ pc lv (.int y :: .long x :: st) z h Q := by
  intro p l e R s m args below meth c H locs ls Qm hG hC hW hl hr
  have hx := hC.1
  have hb := hC.2.1
  subst hn
  exact lv_lshr hx hb hd rfl (k p l e R s m args below meth c H locs ls Qm hG hC hW hl hr)
theorem go_iushr {x y : Int32} (hd : decode M.2.1 pc = .ok (.iushr, 1)) (hn : pc + 1 = nx) (k : Go G M κ nx lv (.int ((x.toUInt32 >>> (y.toUInt32 &&& Int32.toUInt32 31)).toInt32) :: st) z h Q) : Go G M κ pc lv (.int y :: .int x :: st) z h Q := by
  intro p l e R s m args below meth c H locs ls Qm hG hC hW hl hr
  have hx := hC.1
  have hb := hC.2.1
  subst hn
  exact lv_iushr hx hb hd rfl (k p l e R s m args below meth c H locs ls Qm hG hC hW hl hr)
theorem go_i2l {x : Int32} (hd : decode M.2.1 pc = .ok (.i2l, 1)) (hn : pc + 1 = nx) (k : Go G M κ nx lv (.long x.toInt64 :: st) z h Q) : Go G M κ pc lv (.int x :: st) z h Q := by
  intro p l e R s m args below meth c H locs ls Qm hG hC hW hl hr
  have hx := hC.1
  have hb := hC.2.1
  subst hn
  exact lv_i2l hx hb hd rfl (k p l e R s m args below meth c H locs ls Qm hG hC hW hl hr)
theorem go_l2i {x : Int64} (hd : decode M.2.1 pc = .ok (.l2i, 1)) (hn : pc + 1 = nx) (k : Go G M κ nx lv (.int x.toInt32 :: st) z h Q) : Go G M κ pc lv (.long x :: st) z h Q := by
  intro p l e R s m args below meth c H locs ls Qm hG hC hW hl hr
  have hx := hC.1
  have hb := hC.2.1
  subst hn
  exact lv_l2i hx hb hd rfl (k p l e R s m args below meth c H locs ls Qm hG hC hW hl hr)
theorem go_i2c {x : Int32} (hd : decode M.2.1 pc = .ok (.i2c, 1)) (hn : pc + 1 = nx) (k : Go G M κ nx lv (.int (x.toUInt32 % 65536).toInt32 :: st) z h Q) : Go G M κ pc lv (.int x :: st) z h Q := by
  intro p l e R s m args below meth c H locs ls Qm hG hC hW hl hr
  have hx := hC.1
  have hb := hC.2.1
  subst hn
  exact lv_i2c hx hb hd rfl (k p l e R s m args below meth c H locs ls Qm hG hC hW hl hr)
theorem go_dup {a : Value} (hd : decode M.2.1 pc = .ok (.dup, 1)) (hc : a.category = 1) (hn : pc + 1 = nx) (k : Go G M κ nx lv (a :: a :: st) z h Q) : Go G M κ pc lv (a :: st) z h Q := by
  intro p l e R s m args below meth c H locs ls Qm hG hC hW hl hr
  have hx := hC.1
  have hb := hC.2.1
  subst hn
  exact lv_dup hx hb hd hc (k p l e R s m args below meth c H locs ls Qm hG hC hW hl hr)
theorem go_pop {a : Value} (hd : decode M.2.1 pc = .ok (.pop, 1)) (hc : a.category = 1) (hn : pc + 1 = nx) (k : Go G M κ nx lv (st) z h Q) : Go G M κ pc lv (a :: st) z h Q := by
  intro p l e R s m args below meth c H locs ls Qm hG hC hW hl hr
  have hx := hC.1
  have hb := hC.2.1
  subst hn
  exact lv_pop hx hb hd hc (k p l e R s m args below meth c H locs ls Qm hG hC hW hl hr)
theorem go_dup2_11 {a b : Value} (hd : decode M.2.1 pc = .ok (.dup2, 1)) (hc : a.category = 1) (hc2 : b.category = 1) (hn : pc + 1 = nx) (k : Go G M κ nx lv (a :: b :: a :: b :: st) z h Q) : Go G M κ pc lv (a :: b :: st) z h Q := by
  intro p l e R s m args below meth c H locs ls Qm hG hC hW hl hr
  have hx := hC.1
  have hb := hC.2.1
  subst hn
  exact lv_dup2_11 hx hb hd hc hc2 (k p l e R s m args below meth c H locs ls Qm hG hC hW hl hr)
theorem go_if_eq (tgt : Nat) {x : Int32} {off : Int} (hd : decode M.2.1 pc = .ok (.ifCond .eq off, 3)) (ht : (pc : Int) + off = (tgt : Int)) (hn : pc + 3 = nx) (kt : x = 0 → Go G M κ tgt lv st z h Q) (kf : ¬ x = 0 → Go G M κ nx lv st z h Q) : Go G M κ pc lv (.int x :: st) z h Q := by
  intro p l e R s m args below meth c H locs ls Qm hG hC hW hl hr
  have hx := hC.1
  have hb := hC.2.1
  subst hn
  exact lv_if_eq hx hb hd ht (fun q => kt q p l e R s m args below meth c H locs ls Qm hG hC hW hl hr) (fun q => kf q p l e R s m args below meth c H locs ls Qm hG hC hW hl hr)
theorem go_icmp_eq (tgt : Nat) {x y : Int32} {off : Int} (hd : decode M.2.1 pc = .ok (.if_icmp .eq off, 3)) (ht : (pc : Int) + off = (tgt : Int)) (hn : pc + 3 = nx) (kt : x = y → Go G M κ tgt lv st z h Q) (kf : ¬ x = y → Go G M κ nx lv st z h Q) : Go G M κ pc lv (.int y :: .int x :: st) z h Q := by
  intro p l e R s m args below meth c H locs ls Qm hG hC hW hl hr
  have hx := hC.1
  have hb := hC.2.1
  subst hn
  exact lv_icmp_eq hx hb hd ht (fun q => kt q p l e R s m args below meth c H locs ls Qm hG hC hW hl hr) (fun q => kf q p l e R s m args below meth c H locs ls Qm hG hC hW hl hr)
theorem go_if_ne (tgt : Nat) {x : Int32} {off : Int} (hd : decode M.2.1 pc = .ok (.ifCond .ne off, 3)) (ht : (pc : Int) + off = (tgt : Int)) (hn : pc + 3 = nx) (kt : ¬ x = 0 → Go G M κ tgt lv st z h Q) (kf : x = 0 → Go G M κ nx lv st z h Q) : Go G M κ pc lv (.int x :: st) z h Q := by
  intro p l e R s m args below meth c H locs ls Qm hG hC hW hl hr
  have hx := hC.1
  have hb := hC.2.1
  subst hn
  exact lv_if_ne hx hb hd ht (fun q => kt q p l e R s m args below meth c H locs ls Qm hG hC hW hl hr) (fun q => kf q p l e R s m args below meth c H locs ls Qm hG hC hW hl hr)
theorem go_icmp_ne (tgt : Nat) {x y : Int32} {off : Int} (hd : decode M.2.1 pc = .ok (.if_icmp .ne off, 3)) (ht : (pc : Int) + off = (tgt : Int)) (hn : pc + 3 = nx) (kt : ¬ x = y → Go G M κ tgt lv st z h Q) (kf : x = y → Go G M κ nx lv st z h Q) : Go G M κ pc lv (.int y :: .int x :: st) z h Q := by
  intro p l e R s m args below meth c H locs ls Qm hG hC hW hl hr
  have hx := hC.1
  have hb := hC.2.1
  subst hn
  exact lv_icmp_ne hx hb hd ht (fun q => kt q p l e R s m args below meth c H locs ls Qm hG hC hW hl hr) (fun q => kf q p l e R s m args below meth c H locs ls Qm hG hC hW hl hr)
theorem go_if_lt (tgt : Nat) {x : Int32} {off : Int} (hd : decode M.2.1 pc = .ok (.ifCond .lt off, 3)) (ht : (pc : Int) + off = (tgt : Int)) (hn : pc + 3 = nx) (kt : x < 0 → Go G M κ tgt lv st z h Q) (kf : ¬ x < 0 → Go G M κ nx lv st z h Q) : Go G M κ pc lv (.int x :: st) z h Q := by
  intro p l e R s m args below meth c H locs ls Qm hG hC hW hl hr
  have hx := hC.1
  have hb := hC.2.1
  subst hn
  exact lv_if_lt hx hb hd ht (fun q => kt q p l e R s m args below meth c H locs ls Qm hG hC hW hl hr) (fun q => kf q p l e R s m args below meth c H locs ls Qm hG hC hW hl hr)
theorem go_icmp_lt (tgt : Nat) {x y : Int32} {off : Int} (hd : decode M.2.1 pc = .ok (.if_icmp .lt off, 3)) (ht : (pc : Int) + off = (tgt : Int)) (hn : pc + 3 = nx) (kt : x < y → Go G M κ tgt lv st z h Q) (kf : ¬ x < y → Go G M κ nx lv st z h Q) : Go G M κ pc lv (.int y :: .int x :: st) z h Q := by
  intro p l e R s m args below meth c H locs ls Qm hG hC hW hl hr
  have hx := hC.1
  have hb := hC.2.1
  subst hn
  exact lv_icmp_lt hx hb hd ht (fun q => kt q p l e R s m args below meth c H locs ls Qm hG hC hW hl hr) (fun q => kf q p l e R s m args below meth c H locs ls Qm hG hC hW hl hr)
theorem go_if_ge (tgt : Nat) {x : Int32} {off : Int} (hd : decode M.2.1 pc = .ok (.ifCond .ge off, 3)) (ht : (pc : Int) + off = (tgt : Int)) (hn : pc + 3 = nx) (kt : 0 ≤ x → Go G M κ tgt lv st z h Q) (kf : ¬ 0 ≤ x → Go G M κ nx lv st z h Q) : Go G M κ pc lv (.int x :: st) z h Q := by
  intro p l e R s m args below meth c H locs ls Qm hG hC hW hl hr
  have hx := hC.1
  have hb := hC.2.1
  subst hn
  exact lv_if_ge hx hb hd ht (fun q => kt q p l e R s m args below meth c H locs ls Qm hG hC hW hl hr) (fun q => kf q p l e R s m args below meth c H locs ls Qm hG hC hW hl hr)
theorem go_icmp_ge (tgt : Nat) {x y : Int32} {off : Int} (hd : decode M.2.1 pc = .ok (.if_icmp .ge off, 3)) (ht : (pc : Int) + off = (tgt : Int)) (hn : pc + 3 = nx) (kt : y ≤ x → Go G M κ tgt lv st z h Q) (kf : ¬ y ≤ x → Go G M κ nx lv st z h Q) : Go G M κ pc lv (.int y :: .int x :: st) z h Q := by
  intro p l e R s m args below meth c H locs ls Qm hG hC hW hl hr
  have hx := hC.1
  have hb := hC.2.1
  subst hn
  exact lv_icmp_ge hx hb hd ht (fun q => kt q p l e R s m args below meth c H locs ls Qm hG hC hW hl hr) (fun q => kf q p l e R s m args below meth c H locs ls Qm hG hC hW hl hr)
theorem go_if_gt (tgt : Nat) {x : Int32} {off : Int} (hd : decode M.2.1 pc = .ok (.ifCond .gt off, 3)) (ht : (pc : Int) + off = (tgt : Int)) (hn : pc + 3 = nx) (kt : 0 < x → Go G M κ tgt lv st z h Q) (kf : ¬ 0 < x → Go G M κ nx lv st z h Q) : Go G M κ pc lv (.int x :: st) z h Q := by
  intro p l e R s m args below meth c H locs ls Qm hG hC hW hl hr
  have hx := hC.1
  have hb := hC.2.1
  subst hn
  exact lv_if_gt hx hb hd ht (fun q => kt q p l e R s m args below meth c H locs ls Qm hG hC hW hl hr) (fun q => kf q p l e R s m args below meth c H locs ls Qm hG hC hW hl hr)
theorem go_icmp_gt (tgt : Nat) {x y : Int32} {off : Int} (hd : decode M.2.1 pc = .ok (.if_icmp .gt off, 3)) (ht : (pc : Int) + off = (tgt : Int)) (hn : pc + 3 = nx) (kt : y < x → Go G M κ tgt lv st z h Q) (kf : ¬ y < x → Go G M κ nx lv st z h Q) : Go G M κ pc lv (.int y :: .int x :: st) z h Q := by
  intro p l e R s m args below meth c H locs ls Qm hG hC hW hl hr
  have hx := hC.1
  have hb := hC.2.1
  subst hn
  exact lv_icmp_gt hx hb hd ht (fun q => kt q p l e R s m args below meth c H locs ls Qm hG hC hW hl hr) (fun q => kf q p l e R s m args below meth c H locs ls Qm hG hC hW hl hr)
theorem go_if_le (tgt : Nat) {x : Int32} {off : Int} (hd : decode M.2.1 pc = .ok (.ifCond .le off, 3)) (ht : (pc : Int) + off = (tgt : Int)) (hn : pc + 3 = nx) (kt : x ≤ 0 → Go G M κ tgt lv st z h Q) (kf : ¬ x ≤ 0 → Go G M κ nx lv st z h Q) : Go G M κ pc lv (.int x :: st) z h Q := by
  intro p l e R s m args below meth c H locs ls Qm hG hC hW hl hr
  have hx := hC.1
  have hb := hC.2.1
  subst hn
  exact lv_if_le hx hb hd ht (fun q => kt q p l e R s m args below meth c H locs ls Qm hG hC hW hl hr) (fun q => kf q p l e R s m args below meth c H locs ls Qm hG hC hW hl hr)
theorem go_icmp_le (tgt : Nat) {x y : Int32} {off : Int} (hd : decode M.2.1 pc = .ok (.if_icmp .le off, 3)) (ht : (pc : Int) + off = (tgt : Int)) (hn : pc + 3 = nx) (kt : x ≤ y → Go G M κ tgt lv st z h Q) (kf : ¬ x ≤ y → Go G M κ nx lv st z h Q) : Go G M κ pc lv (.int y :: .int x :: st) z h Q := by
  intro p l e R s m args below meth c H locs ls Qm hG hC hW hl hr
  have hx := hC.1
  have hb := hC.2.1
  subst hn
  exact lv_icmp_le hx hb hd ht (fun q => kt q p l e R s m args below meth c H locs ls Qm hG hC hW hl hr) (fun q => kf q p l e R s m args below meth c H locs ls Qm hG hC hW hl hr)
theorem go_goto (tgt : Nat) {off : Int} (hd : decode M.2.1 pc = .ok (.goto off, 3)) (ht : (pc : Int) + off = (tgt : Int)) (k : Go G M κ tgt lv st z h Q) : Go G M κ pc lv st z h Q := by
  intro p l e R s m args below meth c H locs ls Qm hG hC hW hl hr
  have hx := hC.1
  have hb := hC.2.1
  exact lv_goto hx hb hd ht (k p l e R s m args below meth c H locs ls Qm hG hC hW hl hr)
theorem go_tableOut (tgt : Nat) {dflt lo hi : Int} {offs : Array Int} {len : Nat} {x : Int32} (hd : decode M.2.1 pc = .ok (.tableswitch dflt lo hi offs, len)) (hout : x.toInt < lo ∨ hi < x.toInt) (ht : (pc : Int) + dflt = (tgt : Int)) (k : Go G M κ tgt lv st z h Q) : Go G M κ pc lv (.int x :: st) z h Q := by
  intro p l e R s m args below meth c H locs ls Qm hG hC hW hl hr
  have hx := hC.1
  have hb := hC.2.1
  exact lv_tableOut hx hb hd hout ht (k p l e R s m args below meth c H locs ls Qm hG hC hW hl hr)
theorem go_tableIn (tgt : Nat) {dflt lo hi off : Int} {offs : Array Int} {len : Nat} {x : Int32} (hd : decode M.2.1 pc = .ok (.tableswitch dflt lo hi offs, len)) (h1 : ¬ x.toInt < lo) (h2 : ¬ hi < x.toInt) (ho : offs[(x.toInt - lo).toNat]? = some off) (ht : (pc : Int) + off = (tgt : Int)) (k : Go G M κ tgt lv st z h Q) : Go G M κ pc lv (.int x :: st) z h Q := by
  intro p l e R s m args below meth c H locs ls Qm hG hC hW hl hr
  have hx := hC.1
  have hb := hC.2.1
  exact lv_tableIn hx hb hd h1 h2 ho ht (k p l e R s m args below meth c H locs ls Qm hG hC hW hl hr)
theorem go_lcmp {x y : Int64} (hd : decode M.2.1 pc = .ok (.lcmp, 1)) (hn : pc + 1 = nx) (k : Go G M κ nx lv (.int (lg_cmp x y) :: st) z h Q) : Go G M κ pc lv (.long y :: .long x :: st) z h Q := by
  intro p l e R s m args below meth c H locs ls Qm hG hC hW hl hr
  have hx := hC.1
  have hb := hC.2.1
  subst hn
  exact W.lcmp hx hb hd (k p l e R s m args below meth c H locs ls Qm hG hC hW hl hr)
theorem go_ldc {idx : Nat} {v : Int32} (hc : Cond.constant M.1.cls idx v ∈ lw_tbl ∧ goodWord (Cond.constant M.1.cls idx v) = true) (hd : decode M.2.1 pc = .ok (.ldc idx, 2)) (hn : pc + 2 = nx) (k : Go G M κ nx lv (.int v :: st) z h Q) : Go G M κ pc lv st z h Q := by
  intro p l e R s m args below meth c H locs ls Qm hG hC hW hl hr
  have hx := hC.1
  have hb := hC.2.1
  subst hn
  exact lv_ldc hx hb hC.2.2.2.1 (kword hG hC.2.2.2.2.2.1 hc args) hd (k p l e R s m args below meth c H locs ls Qm hG hC hW hl hr)
theorem go_ldcw {idx : Nat} {v : Int32} (hc : Cond.constant M.1.cls idx v ∈ lw_tbl ∧ goodWord (Cond.constant M.1.cls idx v) = true) (hd : decode M.2.1 pc = .ok (.ldc_w idx, 3)) (hn : pc + 3 = nx) (k : Go G M κ nx lv (.int v :: st) z h Q) : Go G M κ pc lv st z h Q := by
  intro p l e R s m args below meth c H locs ls Qm hG hC hW hl hr
  have hx := hC.1
  have hb := hC.2.1
  subst hn
  exact lv_ldcw hx hb hC.2.2.2.1 (kword hG hC.2.2.2.2.2.1 hc args) hd (k p l e R s m args below meth c H locs ls Qm hG hC hW hl hr)
theorem go_ldc2 {idx : Nat} {v : Int64} (hc : Cond.constantLong M.1.cls idx v ∈ lw_tbl ∧ goodWord (Cond.constantLong M.1.cls idx v) = true) (hd : decode M.2.1 pc = .ok (.ldc2_w idx, 3)) (hn : pc + 3 = nx) (k : Go G M κ nx lv (.long v :: st) z h Q) : Go G M κ pc lv st z h Q := by
  intro p l e R s m args below meth c H locs ls Qm hG hC hW hl hr
  have hx := hC.1
  have hb := hC.2.1
  subst hn
  exact lv_ldc2 hx hb hC.2.2.2.1 (kword hG hC.2.2.2.2.2.1 hc args) hd (k p l e R s m args below meth c H locs ls Qm hG hC hW hl hr)
theorem go_ireturn {v : Int32} (hd : decode M.2.1 pc = .ok (.ireturn, 1)) (hq : Q (some (.int v)) z h) : Go G M κ pc lv [.int v] z h Q := by
  intro p l e R s m args below meth c H locs ls Qm hG hC hW hl hr
  exact hr _ z h H locs ls pc hq hW hd
theorem go_lreturn {v : Int64} (hd : decode M.2.1 pc = .ok (.lreturn, 1)) (hq : Q (some (.long v)) z h) : Go G M κ pc lv [.long v] z h Q := by
  intro p l e R s m args below meth c H locs ls Qm hG hC hW hl hr
  exact hr _ z h H locs ls pc hq hW hd
theorem go_areturn {v : Nat} (hd : decode M.2.1 pc = .ok (.areturn, 1)) (hq : Q (some (.ref v)) z h) : Go G M κ pc lv [.ref v] z h Q := by
  intro p l e R s m args below meth c H locs ls Qm hG hC hW hl hr
  exact hr _ z h H locs ls pc hq hW hd
theorem go_return (hd : decode M.2.1 pc = .ok (.return_, 1)) (hq : Q none z h) : Go G M κ pc lv [] z h Q := by
  intro p l e R s m args below meth c H locs ls Qm hG hC hW hl hr
  exact hr _ z h H locs ls pc hq hW hd
end KR
end
section
/-! THE RULES OF 'Go' THAT TOUCH THE HEAP, AND CALLS -/
def kW (w : Cond) : Prop := w ∈ lw_tbl ∧ goodWord w = true
/-- the class number ci: its words are there -/
def kCl (ci : Nat) (C : String) (T : u_T) (N : Nat) (ty : Nat → FieldType) : Prop :=
  vwCl[ci]? = some (C, T, N) ∧ (∀ w ∈ u_ws C T N, kW w) ∧ (∀ k, k < N → parseFieldDescriptor (T k).2.2.1 = some (ty k)) ∧ (∀ a, a < N → ∀ b, b < N → a ≠ b → (T a).2.1 ≠ (T b).2.1)
/-- a field instruction of the class own: field k of the class number ci -/
def kGet (own : String) (idx ci k : Nat) : Prop :=
  ∃ (C : String) (T : u_T) (N : Nat) (ty : Nat → FieldType), kCl ci C T N ty ∧ k < N ∧ kW (Cond.fieldLink own idx (T k).1 (T k).2.1 (T k).2.2.1)
def kPut (own name : String) (idx ci k : Nat) (ty0 : FieldType) : Prop :=
  ∃ (C : String) (T : u_T) (N : Nat) (ty : Nat → FieldType), kCl ci C T N ty ∧ k < N ∧ kW (Cond.fieldLink own idx (T k).1 (T k).2.1 (T k).2.2.1) ∧ ty k = ty0 ∧ ((T k).2.2.2 = false ∨ ((T k).2.2.2 = true ∧ name = "<init>" ∧ (T k).1 = own))
section KH
variable {G : kG} {M : kM} {κ z : kZ} {pc nx : Nat} {lv : List (Nat × Value)} {st : List Value} {h : kH} {Q : Option Value → kZ → kH → Prop}
theorem go_getfield {idx ci k i : Nat} {fs : List Value} {v : Value} (ce : kGet M.1.cls idx ci k) (hd : decode M.2.1 pc = .ok (.getfield idx, 3)) (hi : i < z.1) (hh : h i = .inr (ci, fs)) (hv : fs[k]? = some v) (hn : pc + 3 = nx) (kk : Go G M κ nx lv (v :: st) z h Q) : Go G M κ pc lv (.ref (kb G + i) :: st) z h Q := by
  intro p l e R s m args below meth c H locs ls Qm hG hC hW hl hr
  subst hn
  obtain ⟨C, T, N, ty, ⟨hc, hin, -, -⟩, hk, hli⟩ := ce
  obtain ⟨hx, hb, -, hown, -, hWm, -⟩ := id hC
  exact va_get hx hb (Ts := u_ws C T N) (fun w hw => kword hG hWm (hin w hw) args) (fun _ h => h) hown (kK hG hWm) hW.2.1 i (by rw [kws_get hi, hh]) hc k hk (kword hG hWm hli args) (fun _ q => q) hv hd (kk p l e R s m args below meth c H locs ls Qm hG hC hW hl hr)
theorem go_putfield {idx ci k i : Nat} {fs : List Value} {v : Value} {ty0 : FieldType} (ce : kPut M.1.cls M.1.name idx ci k ty0) (hd : decode M.2.1 pc = .ok (.putfield idx, 3)) (hi : i < z.1) (hh : h i = .inr (ci, fs)) (hl0 : k < fs.length) (hty : narrow ty0 v = v ∧ fits ty0 v = true) (hn : pc + 3 = nx) (kk : Go G M κ nx lv st z (hu h i (.inr (ci, fs.set k v))) Q) : Go G M κ pc lv (v :: .ref (kb G + i) :: st) z h Q := by
  intro p l e R s m args below meth c H locs ls Qm hG hC hW hl hr
  subst hn
  obtain ⟨C, T, N, ty, ⟨hc, hin, hpt, hnm⟩, hk, hli, hte, hfin⟩ := ce
  obtain ⟨hx, hb, -, hown, hname, hWm, -⟩ := id hC
  have he : (kws G z.1 h)[i]? = some (kb G + i, .inr (ci, fs)) := by rw [kws_get hi, hh]
  have hd0 : parseFieldDescriptor (T k).2.2.1 = some ty0 := by rw [hpt k hk, hte]
  have kx : ∀ (H1 : Heap) (locs1 : List Loc), H1.size = H.size → va_P G.1 vwCl ((kws G z.1 h).set i (kb G + i, .inr (ci, fs.set k v))) H1 → va_S (kA G) G.2.2.2.heap H1 locs1 → W p l e R s m args below meth c H1 locs1 z.2.1 z.2.2 Qm (F0 m (pc + 3) ls st) := by
    intro H1 locs1 hz hP1 hS1
    rw [kws_set hi] at hP1
    exact kk p l e R s m args below meth c H1 locs1 ls Qm hG hC ⟨hz.trans hW.1, hP1, hS1⟩ hl hr
  have hap := va_apart (own := M.1.cls) (Ts := u_ws C T N) (args := args) (fun w hw => kword hG hWm (hin w hw) args) (fun _ h => h) ty hpt hnm (kK hG hWm) hc
  obtain ⟨r, h1, cell, q1, q2, q3, q4⟩ := hW.2.1 i _ he
  have hr2 : r = (C, T, N) := Option.some.inj (h1.symm.trans hc)
  subst hr2
  obtain ⟨hS, hfc, kC0, hkC, hkind⟩ := (kK hG hWm).1 ci _ hc
  obtain ⟨cf, kf, fi, f, hi2, hsl⟩ := hS k hk
  have hts : ∀ w ∈ u_ws C T N, w.before args s = true := fun w hw => kword hG hWm (hin w hw) args
  have hlay := hts _ (u_in_lay hk)
  have hst := (u_facts hfc hkC (u_lays hts (fun _ h => h) hk) hi2).1
  unfold u_lay at hlay
  rcases hfin with hfin | ⟨hfin, hini, hdecl⟩
  · rw [if_neg (by rw [hfin]; decide)] at hlay
    have h6 := u_store hfc hkC hkind hlay hi2 hd0 hty.1 hty.2
    refine W.putK hx hb (f := f) ⟨hown, kword hG hWm hli args, ⟨_, _, _, hi2⟩, hst⟩ (by rw [q2]; exact h6) q1 q3 (by rw [hsl]; exact k2_hasslot (q4 k hk)) rfl rfl hd fun H' e1 e2 e3 => ?_
    rw [hsl] at e1 ⊢
    exact kx H' _ e2 (hW.2.1.set kws_D he ⟨_, hc, t_OB.to (V := updV (vp_V fs) k v) ⟨_, e1, q2, q3, t_set q4 hap hk v⟩ (fun j _ => vp_updV_set hl0 v j)⟩ e3) (hW.2.2.put e2 e3 (Nat.le_add_right _ _))
  · rw [if_pos hfin] at hlay
    have hcf : m.cls = cf := by
      obtain ⟨_, _, c', _, _, _, -, -, hf', -, -, -, hown2, -⟩ := Cond.laysFinal_spec hlay
      have e1 : c' = cf := by have := hi2.symm.trans hf'; simp at this; exact this.1.symm
      rw [hdecl] at hown2
      rw [← e1]; exact Option.some.inj (hown.symm.trans hown2)
    have h6 := u_fits hfc hkC hkind (Or.inr hlay) hi2 hd0 hty.1 hty.2
    refine W.putFinK hx hb hown (kword hG hWm hli args) hi2 hst hcf (hname.trans hini) (by rw [q2]; exact h6) q1 q3 (by rw [hsl]; exact k2_hasslot (q4 k hk)) rfl rfl hd fun H' e1 e2 e3 => ?_
    rw [hsl] at e1 ⊢
    exact kx H' _ e2 (hW.2.1.set kws_D he ⟨_, hc, t_OB.to (V := updV (vp_V fs) k v) ⟨_, e1, q2, q3, t_set q4 hap hk v⟩ (fun j _ => vp_updV_set hl0 v j)⟩ e3) (hW.2.2.put e2 e3 (Nat.le_add_right _ _))
theorem go_iaload (j : Nat) {i len : Nat} {f : Nat → Int32} {x : Int32} (hd : decode M.2.1 pc = .ok (.iaload, 1)) (hi : i < z.1) (hh : h i = .inl (G.2.1, len, .inl f)) (hx0 : x = nI j) (hj : j < len) (hlen : len < 2 ^ 31) (hn : pc + 1 = nx) (kk : Go G M κ nx lv (.int (f j) :: st) z h Q) : Go G M κ pc lv (.int x :: .ref (kb G + i) :: st) z h Q := by
  intro p l e R s m args below meth c H locs ls Qm hG hC hW hl hr
  subst hn
  subst hx0
  obtain ⟨hx, hb, -, hown, -, hWm, -⟩ := id hC
  have k2 := kk p l e R s m args below meth c H locs ls Qm hG hC hW hl hr
  rw [show f j = f (nI j).toNatClampNeg by rw [nI_clamp (by omega)]] at k2
  exact va_iald hx hb (kK hG hWm) hW.2.1 i 0 (by rw [kws_get hi, hh]) rfl (vp_in_nI hj hlen) hd k2
theorem go_iastore (j : Nat) {i len : Nat} {f : Nat → Int32} {x v : Int32} (hd : decode M.2.1 pc = .ok (.iastore, 1)) (hi : i < z.1) (hh : h i = .inl (G.2.1, len, .inl f)) (hx0 : x = nI j) (hj : j < len) (hlen : len < 2 ^ 31) (hn : pc + 1 = nx) (kk : Go G M κ nx lv st z (hu h i (.inl (G.2.1, len, .inl (upd f j v)))) Q) : Go G M κ pc lv (.int v :: .int x :: .ref (kb G + i) :: st) z h Q := by
  intro p l e R s m args below meth c H locs ls Qm hG hC hW hl hr
  subst hn
  subst hx0
  obtain ⟨hx, hb, -, hown, -, hWm, -⟩ := id hC
  have he : (kws G z.1 h)[i]? = some (kb G + i, .inl (G.2.1, len, .inl f)) := by rw [kws_get hi, hh]
  refine W.iast hx hb (hW.2.1 i _ he) (((kK hG hWm).2 0 _ rfl).1 len (fun j => .int (f j))) (fun q => by cases q) (by show ¬ (nI j < 0 ∨ (arrV _ _ _).slots.size ≤ _); rw [arrV_size]; exact vp_in_nI hj hlen) rfl rfl hd fun H1 e1 e2 e3 => ?_
  refine kk p l e R s m args below meth c H1 _ ls Qm hG hC ⟨e2.trans hW.1, ?_, hW.2.2.put e2 e3 (Nat.le_add_right _ _)⟩ hl hr
  rw [← kws_set hi]
  refine hW.2.1.set kws_D he ?_ e3
  show H1[kb G + i]? = some (vp_cell _ _)
  rw [e1, vp_cell_i, vp_cell_i, arrV_store, nI_clamp (by omega)]
  congr 2
  funext q
  by_cases hq : q = j
  · subst hq
    simp [updV, upd]
  · simp [updV, upd, hq]
theorem go_baload (j : Nat) {i len : Nat} {f : Nat → Int32} {x : Int32} (hd : decode M.2.1 pc = .ok (.baload, 1)) (hi : i < z.1) (hh : h i = .inl (G.2.2.1, len, .inl f)) (hx0 : x = nI j) (hj : j < len) (hlen : len < 2 ^ 31) (hn : pc + 1 = nx) (kk : Go G M κ nx lv (.int (f j) :: st) z h Q) : Go G M κ pc lv (.int x :: .ref (kb G + i) :: st) z h Q := by
  intro p l e R s m args below meth c H locs ls Qm hG hC hW hl hr
  subst hn
  subst hx0
  obtain ⟨hx, hb, -, hown, -, hWm, -⟩ := id hC
  have k2 := kk p l e R s m args below meth c H locs ls Qm hG hC hW hl hr
  rw [show f j = f (nI j).toNatClampNeg by rw [nI_clamp (by omega)]] at k2
  exact va_zald hx hb (kK hG hWm) hW.2.1 i 1 (by rw [kws_get hi, hh]) rfl (vp_in_nI hj hlen) hd k2
theorem go_bastore (j : Nat) {i len : Nat} {f : Nat → Int32} {x v : Int32} (hd : decode M.2.1 pc = .ok (.bastore, 1)) (hi : i < z.1) (hh : h i = .inl (G.2.2.1, len, .inl f)) (hx0 : x = nI j) (hj : j < len) (hlen : len < 2 ^ 31) (hv : narrow .boolean (.int v) = .int v) (hn : pc + 1 = nx) (kk : Go G M κ nx lv st z (hu h i (.inl (G.2.2.1, len, .inl (upd f j v)))) Q) : Go G M κ pc lv (.int v :: .int x :: .ref (kb G + i) :: st) z h Q := by
  intro p l e R s m args below meth c H locs ls Qm hG hC hW hl hr
  subst hn
  subst hx0
  obtain ⟨hx, hb, -, hown, -, hWm, -⟩ := id hC
  have he : (kws G z.1 h)[i]? = some (kb G + i, .inl (G.2.2.1, len, .inl f)) := by rw [kws_get hi, hh]
  refine W.zast hx hb (hW.2.1 i _ he) (((kK hG hWm).2 1 _ rfl).1 len (fun j => .int (f j))) (fun q => by cases q) (by show ¬ (nI j < 0 ∨ (arrV _ _ _).slots.size ≤ _); rw [arrV_size]; exact vp_in_nI hj hlen) rfl rfl hd fun H1 e1 e2 e3 => ?_
  refine kk p l e R s m args below meth c H1 _ ls Qm hG hC ⟨e2.trans hW.1, ?_, hW.2.2.put e2 e3 (Nat.le_add_right _ _)⟩ hl hr
  rw [← kws_set hi]
  refine hW.2.1.set kws_D he ?_ e3
  show H1[kb G + i]? = some (vp_cell _ _)
  rw [e1, vp_cell_i, vp_cell_i, arrV_store, nI_clamp (by omega)]
  congr 2
  funext q
  by_cases hq : q = j
  · subst hq
    simp [updV, upd, hv]
  · simp [updV, upd, hq]
theorem go_arraylength {i len : Nat} {f : Nat → Int32} {v : Int32} (hd : decode M.2.1 pc = .ok (.arraylength, 1)) (hi : i < z.1) (hh : h i = .inl (G.2.1, len, .inl f)) (hv : nI len = v) (hn : pc + 1 = nx) (kk : Go G M κ nx lv (.int v :: st) z h Q) : Go G M κ pc lv (.ref (kb G + i) :: st) z h Q := by
  intro p l e R s m args below meth c H locs ls Qm hG hC hW hl hr
  subst hn
  obtain ⟨hx, hb, -, hown, -, hWm, -⟩ := id hC
  exact va_alen (x := (len, .inl f)) hx hb (kK hG hWm) hW.2.1 i 0 (by rw [kws_get hi, hh]) rfl hv hd (kk p l e R s m args below meth c H locs ls Qm hG hC hW hl hr)
/-- a class that an instruction makes -/
def kNew (own : String) (idx ci : Nat) (N : Nat) (fs : List Value) : Prop :=
  ∃ (C : String) (T : u_T) (ty : Nat → FieldType), kCl ci C T N ty ∧ kW (Cond.classLink own idx C) ∧ kW (Cond.instantiable C N) ∧ kW (Cond.initialized C) ∧ ∀ j, j < N → defaultValue (ty j) = vp_V fs j
theorem go_new {idx ci N : Nat} {fs : List Value} (ce : kNew M.1.cls idx ci N fs) (hd : decode M.2.1 pc = .ok (.new idx, 3)) (hc1 : z.2.1 + 1 ≤ κ.2.1) (hs1 : z.2.2 + N ≤ κ.2.2) (hn : pc + 3 = nx) (kk : Go G M κ nx lv (.ref (kb G + z.1) :: st) (z.1 + 1, z.2.1 + 1, z.2.2 + N) (hu h z.1 (.inr (ci, fs))) Q) : Go G M κ pc lv st z h Q := by
  intro p l e R s m args below meth c H locs ls Qm hG hC hW hl hr
  subst hn
  obtain ⟨C, T, ty, ⟨hc, hin, hpt, hnm⟩, hcl, hinst, hini, hfs⟩ := ce
  obtain ⟨hx, hb, -, hown, hname, hWm, -, -, hrc, hrs⟩ := id hC
  have hKn := (kK hG hWm).1 ci _ hc
  refine W.newcK hx hb hown (kword hG hWm hcl args) (kword hG hWm hinst args) (kword hG hWm hini args) rfl hd (by omega) (by omega) hKn.2.1 hW.1 fun H1 kC0 hkC e1 z1 o1 => ?_
  have hk : ∀ (k : Nat) (x : Nat × va_E), (kws G z.1 h)[k]? = some x → H1[x.1]? = H[x.1]? := fun k x hx => o1 x.1 (by have := (hW.2.1 k x hx).lt; rw [hW.1] at this; exact this)
  have hP1 : va_P G.1 vwCl (kws G (z.1 + 1) (hu h z.1 (.inr (ci, fs)))) H1 := by
    rw [← kws_push]
    refine (hW.2.1.kept hk).app (fun k x hx => ?_)
    have hz : k < 1 := (List.getElem?_eq_some_iff.mp hx).1
    rw [show k = 0 by omega] at hx
    cases hx
    exact ⟨_, hc, (u_born ty (ws := u_ws C T N) (fun w hw => kword hG hWm (hin w hw) args) (fun _ h => h) hKn hkC e1 hpt).to hfs⟩
  have hS := hW.2.2
  have hB : kb G = G.2.2.2.heap.size := rfl
  exact kk p l e R s m args below meth c H1 locs ls Qm hG hC ⟨by rw [z1]; show _ = kb G + (z.1 + 1); omega, hP1, Nat.le_trans hS.1 (by have := hW.1; omega), fun x h1 h2 => (o1 x (by omega)).trans (hS.2.1 x h1 h2), hS.2.2⟩ hl hr
theorem go_newarray {at0 : ArrayType} {ty : FieldType} {cA : ClassId} {n : Int32} (N : Nat) (hat : newarray.typeOf at0 = ty) (hca : (ty = .int ∧ cA = G.2.1) ∨ (ty = .boolean ∧ cA = G.2.2.1)) (hw : kW (Cond.arrayClass ty)) (hd : decode M.2.1 pc = .ok (.newarray at0, 2)) (hn0 : n = nI N) (hN : N ≤ 100000) (hc1 : z.2.1 + 1 ≤ κ.2.1) (hs1 : z.2.2 + N ≤ κ.2.2) (hn : pc + 2 = nx) (kk : Go G M κ nx lv (.ref (kb G + z.1) :: st) (z.1 + 1, z.2.1 + 1, z.2.2 + N) (hu h z.1 (.inl (cA, N, .inl fun _ => 0))) Q) : Go G M κ pc lv (.int n :: st) z h Q := by
  intro p l e R s m args below meth c H locs ls Qm hG hC hW hl hr
  subst hn
  subst hat
  subst hn0
  obtain ⟨hx, hb, -, hown, hname, hWm, -, -, hrc, hrs⟩ := id hC
  have hbytes : N * componentBytes (newarray.typeOf at0) ≤ 536870912 := by
    have h8 : componentBytes (newarray.typeOf at0) ≤ 8 := by cases at0 <;> decide
    calc N * componentBytes (newarray.typeOf at0) ≤ 100000 * 8 := Nat.mul_le_mul hN h8
      _ ≤ _ := by decide
  refine va_newaK hx hb (kword hG hWm hw args) rfl hd rfl (nI_pos (by omega)) (nI_clamp (by omega)) hbytes (by omega) (by omega) hW.1 fun H1 cA' e1 z1 o1 hAr hNm => ?_
  have hk : ∀ (k : Nat) (x : Nat × va_E), (kws G z.1 h)[k]? = some x → H1[x.1]? = H[x.1]? := fun k x hx => o1 x.1 (by have := (hW.2.1 k x hx).lt; rw [hW.1] at this; exact this)
  have hcell : H1[kb G + z.1]? = some (vp_cell cA (N, .inl fun _ => 0)) := by
    rw [e1, vp_cell_i]
    have hf := hWm.alike
    rcases hca with ⟨h1, h2⟩ | ⟨h1, h2⟩
    · have h3 := hG.2.2.1
      rw [← hf.findClass, ← h1, hNm] at h3
      rw [h2, ← Option.some.inj h3, h1]
      rfl
    · have h3 := hG.2.2.2
      rw [← hf.findClass, ← h1, hNm] at h3
      rw [h2, ← Option.some.inj h3, h1]
      rfl
  have hP1 : va_P G.1 vwCl (kws G (z.1 + 1) (hu h z.1 (.inl (cA, N, .inl fun _ => 0)))) H1 := by
    rw [← kws_push]
    refine (hW.2.1.kept hk).app (fun k x hx => ?_)
    have hz : k < 1 := (List.getElem?_eq_some_iff.mp hx).1
    rw [show k = 0 by omega] at hx
    cases hx
    exact hcell
  have hS := hW.2.2
  have hB : kb G = G.2.2.2.heap.size := rfl
  exact kk p l e R s m args below meth c H1 locs ls Qm hG hC ⟨by rw [z1]; show _ = kb G + (z.1 + 1); omega, hP1, Nat.le_trans hS.1 (by have := hW.1; omega), fun x h1 h2 => (o1 x (by omega)).trans (hS.2.1 x h1 h2), hS.2.2⟩ hl hr
end KH
/-! CALLS -/
/-- what is known of a method that is called, n parameters -/
def kMe (M : kM) (n : Nat) : Prop := kW (Cond.code M.1 M.2.1 M.2.2.1 M.2.2.2) ∧ kW (Cond.initialized M.1.cls) ∧ (M.1.cls ≠ "java/lang/invoke/MethodHandle" ∧ M.1.cls ≠ "java/lang/invoke/VarHandle" ∧ (parseMethodDescriptor M.1.desc).map (fun d => d.parameters.length) = some n) ∧ M.2.2.1 ≤ 20
def kCS (own : String) (idx : Nat) (M : kM) (n : Nat) : Prop := kMe M n ∧ kW (Cond.methodLink own idx M.1) ∧ kW (Cond.static M.1)
def kCV (own : String) (idx : Nat) (M : kM) (n : Nat) : Prop := kMe M n ∧ kW (Cond.methodLink own idx M.1) ∧ kW (Cond.instanceMethod M.1) ∧ kW (Cond.selects M.1.cls M.1 M.1)
def kCI (own : String) (idx : Nat) (M : kM) (n : Nat) : Prop := kMe M n ∧ kW (Cond.methodLink own idx M.1) ∧ kW (Cond.instanceMethod M.1) ∧ M.1.name = "<init>" ∧ M.2.2.2 = none
def kCSN (own : String) (idx : Nat) (M : kM) (n : Nat) : Prop := kMe M n ∧ (∃ host, Cond.methodLinkNest own idx M.1 host ∈ lw_tbl) ∧ kW (Cond.static M.1)
def kCIN (own : String) (idx : Nat) (M : kM) (n : Nat) : Prop := kMe M n ∧ (∃ host, Cond.methodLinkNest own idx M.1 host ∈ lw_tbl) ∧ kW (Cond.instanceMethod M.1) ∧ M.1.name = "<init>" ∧ M.2.2.2 = none
section KCALL
variable {G : kG} {M M' : kM} {κ κ' z : kZ} {pc nx idx na : Nat} {lv : List (Nat × Value)} {st rest : List Value} {h : kH} {Q : Option Value → kZ → kH → Prop} {Q' : Option Value → Nat → kH → Prop}
def kPreC (G : kG) (as : List Value) (n : Nat) (h : kH) : Array Value → State → Prop := fun v U => v = as.toArray ∧ G.2.2.2.WarmedH U.vm ∧ kWd G n h U.heap []
def kPostC (G : kG) (Q : Option Value → Nat → kH → Prop) : Array Value → State → Outcome → State → Prop := fun _ _ o t => ∃ (r : Option Value) (n' : Nat) (h' : kH), o = .returned r ∧ Q r n' h' ∧ kWd G n' h' t.heap []
theorem kPreC.blind {as : List Value} {n : Nat} : FrameBlind (kPreC G as n h) := fun _ _ _ _ q => q
theorem kBoth {as : List Value} {s : State} {H : Heap} {locs : List Loc} {n : Nat} (hWm : G.2.2.2.WarmedH s.vm) (hW : kWd G n h H locs) : ∀ U : State, U.heap = H → s.WarmedH U.vm → kPreC G as n h as.toArray U := fun U hU hW2 => ⟨rfl, State.WarmedH.trans hWm hW2, by rw [hU]; exact hW.noLocs⟩
/-- behind a call -/
theorem kBehind {p : Program} {l : Launch} {e : Env} {R : Room} {s : State} {m : MethodId} {args : Array Value} {below : List Frame} {meth : Method} {c : Code} {H : Heap} {locs : List Loc} {ls : Array Slot} {Qm : State → Prop} {a : Array Value} {mc ms cells slots n : Nat}
    (hr : va_Run p l e R s m args below meth c H locs cells slots mc ms (F0 m pc ls st) rest (kPostC G Q' a) (kA G)) (hW : kWd G n h H locs)
    (kk : ∀ (r : Option Value) (n' : Nat) (h' : kH) (H' : Heap) (locs' : List Loc), Q' r n' h' → kWd G n' h' H' locs' → W p l e R s m args below meth c H' locs' (cells + mc) (slots + ms) Qm (F0 m (pc + 3) ls (r.toList ++ rest))) :
    W p l e R s m args below meth c H locs cells slots Qm (F0 m pc ls st) := by
  intro T hT X
  obtain ⟨v, st₀, t, T', L, h0, X', hL, e1, e2, ⟨r, n', h', hv, hQ, hWd⟩, hst⟩ := hr T hT X
  cases hv
  obtain ⟨t2, a1, b1⟩ := kk v n' h' T'.heap (locs ++ L) hQ (by
    rw [e1]
    refine ⟨hWd.1, hWd.2.1, hWd.2.2.1, hWd.2.2.2.1, fun q hq => ?_⟩
    rcases List.mem_append.mp hq with h | h
    · exact hW.2.2.2.2 q h
    · exact hL q h) T' rfl X'
  exact ⟨t2, hst t2 a1, b1⟩
theorem kCallB {R : Room} {s : State} {args : Array Value} {own : String} (hG : kOK G) (hWm : G.2.2.2.WarmedH s.vm) (me : kMe M' na) (hκ : κ'.1 + 1 ≤ κ.1) (hfr : κ.1 + 1 ≤ R.frames) (hlo : 40 * (κ.1 + 1) ≤ R.locals) (hl : kW (Cond.methodLink own idx M'.1)) :
    CallB R s args own idx M'.1 M'.2.1 M'.2.2.1 M'.2.2.2 [Cond.code M'.1 M'.2.1 M'.2.2.1 M'.2.2.2] ({ frames := κ'.1 + 1, cells := κ'.2.1, slots := κ'.2.2, locals := 40 * (κ'.1 + 1) } : Room) κ'.2.1 κ'.2.2 na := by
  obtain ⟨hco, hin, ⟨h1, h2, h3⟩, hmx⟩ := me
  refine ⟨rfl, rfl, by show κ'.1 + 1 + 1 ≤ _; omega, by show 8 + (M'.2.2.1 + 11) + 40 * (κ'.1 + 1) ≤ _; omega, fun w hw a' U hU => ?_, List.mem_cons_self, kword hG hWm hco args, kword hG hWm hin args, ⟨h1, h2⟩, fun sig h => ?_, kword hG hWm hl args⟩
  · rcases List.mem_cons.mp hw with rfl | hw
    · exact kword hG (State.WarmedH.trans hWm hU) hco a'
    · cases hw
  · rw [h] at h3
    exact (Option.some.inj h3).symm
theorem kCallN {R : Room} {s : State} {args : Array Value} {own host : String} (hG : kOK G) (hWm : G.2.2.2.WarmedH s.vm) (me : kMe M' na) (hκ : κ'.1 + 1 ≤ κ.1) (hfr : κ.1 + 1 ≤ R.frames) (hlo : 40 * (κ.1 + 1) ≤ R.locals) (hl : Cond.methodLinkNest own idx M'.1 host ∈ lw_tbl) :
    va_CN R s args own idx M'.1 host M'.2.1 M'.2.2.1 M'.2.2.2 [Cond.code M'.1 M'.2.1 M'.2.2.1 M'.2.2.2] ({ frames := κ'.1 + 1, cells := κ'.2.1, slots := κ'.2.2, locals := 40 * (κ'.1 + 1) } : Room) κ'.2.1 κ'.2.2 na := by
  obtain ⟨hco, hin, ⟨h1, h2, h3⟩, hmx⟩ := me
  refine ⟨⟨rfl, rfl, by show κ'.1 + 1 + 1 ≤ _; omega, by show 8 + (M'.2.2.1 + 11) + 40 * (κ'.1 + 1) ≤ _; omega, fun w hw a' U hU => ?_, List.mem_cons_self⟩, kword hG hWm hco args, kword hG hWm hin args, ⟨h1, h2⟩, fun sig h => ?_, va_Nw.use rfl (kwordN hG hWm hl)⟩
  · rcases List.mem_cons.mp hw with rfl | hw
    · exact kword hG (State.WarmedH.trans hWm hU) hco a'
    · cases hw
  · rw [h] at h3
    exact (Option.some.inj h3).symm
theorem go_callS (as : List Value) (ce : kCS M.1.cls idx M' na) (hsp : Sp G M' κ' as z.1 h Q') (hd : decode M.2.1 pc = .ok (.invokestatic idx, 3)) (hst : st = as.reverse ++ rest) (hna : as.length = na) (hcat : (rest.map fun v => v.category).sum ≤ 8) (hκ : κ'.1 + 1 ≤ κ.1 ∧ z.2.1 + κ'.2.1 ≤ κ.2.1 ∧ z.2.2 + κ'.2.2 ≤ κ.2.2) (hn : pc + 3 = nx)
    (kk : ∀ r n' h', Q' r n' h' → Go G M κ nx lv (r.toList ++ rest) (n', z.2.1 + κ'.2.1, z.2.2 + κ'.2.2) h' Q) : Go G M κ pc lv st z h Q := by
  intro p l e R s m args below meth c H locs ls Qm hG hC hW hl hr
  subst hn
  subst hst
  obtain ⟨hx, hb, hml, hown, hname, hWm, hfr, hlo, hrc, hrs⟩ := id hC
  refine kBehind (va_runS (own := M.1.cls) (Ts := []) ⟨hx, hb, hml, hown, fun _ h => by cases h⟩ (hsp l hG) ⟨kCallB (κ := κ) hG hWm ce.1 hκ.1 hfr hlo ce.2.1, kword hG hWm ce.2.2 args⟩ ⟨kPreC.blind, kBoth hWm hW⟩ rfl hna hl.1 rfl (lv_room hcat) hd ⟨Nat.le_trans hκ.2.1 hrc, Nat.le_trans hκ.2.2 hrs⟩) hW fun r n' h' H' locs' hQ hW' => ?_
  exact kk r n' h' hQ p l e R s m args below meth c H' locs' ls Qm hG hC hW' hl hr
theorem go_callSN (as : List Value) (ce : kCSN M.1.cls idx M' na) (hsp : Sp G M' κ' as z.1 h Q') (hd : decode M.2.1 pc = .ok (.invokestatic idx, 3)) (hst : st = as.reverse ++ rest) (hna : as.length = na) (hcat : (rest.map fun v => v.category).sum ≤ 8) (hκ : κ'.1 + 1 ≤ κ.1 ∧ z.2.1 + κ'.2.1 ≤ κ.2.1 ∧ z.2.2 + κ'.2.2 ≤ κ.2.2) (hn : pc + 3 = nx)
    (kk : ∀ r n' h', Q' r n' h' → Go G M κ nx lv (r.toList ++ rest) (n', z.2.1 + κ'.2.1, z.2.2 + κ'.2.2) h' Q) : Go G M κ pc lv st z h Q := by
  intro p l e R s m args below meth c H locs ls Qm hG hC hW hl hr
  subst hn
  subst hst
  obtain ⟨hx, hb, hml, hown, hname, hWm, hfr, hlo, hrc, hrs⟩ := id hC
  obtain ⟨me, ⟨host, hli⟩, hsta⟩ := ce
  refine kBehind (va_runSN (own := M.1.cls) (Ts := []) ⟨hx, hb, hml, hown, fun _ h => by cases h⟩ (hsp l hG) ⟨kCallN (κ := κ) hG hWm me hκ.1 hfr hlo hli, kword hG hWm hsta args, trivial⟩ ⟨kPreC.blind, kBoth hWm hW⟩ rfl hna hl.1 rfl (lv_room hcat) hd ⟨Nat.le_trans hκ.2.1 hrc, Nat.le_trans hκ.2.2 hrs⟩) hW fun r n' h' H' locs' hQ hW' => ?_
  exact kk r n' h' hQ p l e R s m args below meth c H' locs' ls Qm hG hC hW' hl hr
theorem go_callV {ci i : Nat} {fs : List Value} (as : List Value) (ce : kCV M.1.cls idx M' na) (hcl : ∃ T N, vwCl[ci]? = some (M'.1.cls, T, N)) (hi : i < z.1) (hh : h i = .inr (ci, fs)) (hsp : Sp G M' κ' (.ref (kb G + i) :: as) z.1 h Q') (hd : decode M.2.1 pc = .ok (.invokevirtual idx, 3)) (hst : st = as.reverse ++ .ref (kb G + i) :: rest) (hna : as.length = na) (hcat : (rest.map fun v => v.category).sum ≤ 8) (hκ : κ'.1 + 1 ≤ κ.1 ∧ z.2.1 + κ'.2.1 ≤ κ.2.1 ∧ z.2.2 + κ'.2.2 ≤ κ.2.2) (hn : pc + 3 = nx)
    (kk : ∀ r n' h', Q' r n' h' → Go G M κ nx lv (r.toList ++ rest) (n', z.2.1 + κ'.2.1, z.2.2 + κ'.2.2) h' Q) : Go G M κ pc lv st z h Q := by
  intro p l e R s m args below meth c H locs ls Qm hG hC hW hl hr
  subst hn
  subst hst
  obtain ⟨hx, hb, hml, hown, hname, hWm, hfr, hlo, hrc, hrs⟩ := id hC
  obtain ⟨me, hli, hin, hse⟩ := ce
  obtain ⟨T0, N0, hcl⟩ := hcl
  refine kBehind (va_runV (own := M.1.cls) (C := M'.1.cls) (Ts := []) ⟨hx, hb, hml, hown, fun _ h => by cases h⟩ (hsp l hG) ⟨kCallB (κ := κ) hG hWm me hκ.1 hfr hlo hli, kword hG hWm hin args, kword hG hWm hse args⟩ ⟨kPreC.blind, va_recv (kK hG hWm) hW.2.1 hcl (by rw [kws_get hi, hh]), kBoth hWm hW⟩ rfl hna hl.1 rfl (lv_room hcat) hd ⟨Nat.le_trans hκ.2.1 hrc, Nat.le_trans hκ.2.2 hrs⟩) hW fun r n' h' H' locs' hQ hW' => ?_
  exact kk r n' h' hQ p l e R s m args below meth c H' locs' ls Qm hG hC hW' hl hr
theorem go_callI {i : Nat} (as : List Value) (ce : kCI M.1.cls idx M' na) (hsp : Sp G M' κ' (.ref (kb G + i) :: as) z.1 h Q') (hd : decode M.2.1 pc = .ok (.invokespecial idx, 3)) (hst : st = as.reverse ++ .ref (kb G + i) :: rest) (hna : as.length = na) (hcat : (rest.map fun v => v.category).sum ≤ 8) (hκ : κ'.1 + 1 ≤ κ.1 ∧ z.2.1 + κ'.2.1 ≤ κ.2.1 ∧ z.2.2 + κ'.2.2 ≤ κ.2.2) (hn : pc + 3 = nx)
    (kk : ∀ r n' h', Q' r n' h' → Go G M κ nx lv (r.toList ++ rest) (n', z.2.1 + κ'.2.1, z.2.2 + κ'.2.2) h' Q) : Go G M κ pc lv st z h Q := by
  intro p l e R s m args below meth c H locs ls Qm hG hC hW hl hr
  subst hn
  subst hst
  obtain ⟨hx, hb, hml, hown, hname, hWm, hfr, hlo, hrc, hrs⟩ := id hC
  obtain ⟨me, hli, hin, hini, hno⟩ := ce
  have cb := kCallB (R := R) (s := s) (args := args) (own := M.1.cls) (idx := idx) (κ := κ) (κ' := κ') hG hWm me hκ.1 hfr hlo hli
  have hM := hsp l hG
  rw [hno] at cb hM
  refine kBehind (va_runI (own := M.1.cls) (Ts := []) ⟨hx, hb, hml, hown, fun _ h => by cases h⟩ hM ⟨cb, hini, kword hG hWm hin args⟩ ⟨kPreC.blind, kBoth hWm hW⟩ rfl hna hl.1 rfl (lv_room hcat) hd ⟨Nat.le_trans hκ.2.1 hrc, Nat.le_trans hκ.2.2 hrs⟩) hW fun r n' h' H' locs' hQ hW' => ?_
  exact kk r n' h' hQ p l e R s m args below meth c H' locs' ls Qm hG hC hW' hl hr
theorem go_callIN {i : Nat} (as : List Value) (ce : kCIN M.1.cls idx M' na) (hsp : Sp G M' κ' (.ref (kb G + i) :: as) z.1 h Q') (hd : decode M.2.1 pc = .ok (.invokespecial idx, 3)) (hst : st = as.reverse ++ .ref (kb G + i) :: rest) (hna : as.length = na) (hcat : (rest.map fun v => v.category).sum ≤ 8) (hκ : κ'.1 + 1 ≤ κ.1 ∧ z.2.1 + κ'.2.1 ≤ κ.2.1 ∧ z.2.2 + κ'.2.2 ≤ κ.2.2) (hn : pc + 3 = nx)
    (kk : ∀ r n' h', Q' r n' h' → Go G M κ nx lv (r.toList ++ rest) (n', z.2.1 + κ'.2.1, z.2.2 + κ'.2.2) h' Q) : Go G M κ pc lv st z h Q := by
  intro p l e R s m args below meth c H locs ls Qm hG hC hW hl hr
  subst hn
  subst hst
  obtain ⟨hx, hb, hml, hown, hname, hWm, hfr, hlo, hrc, hrs⟩ := id hC
  obtain ⟨me, ⟨host, hli⟩, hin, hini, hno⟩ := ce
  have cb := kCallN (R := R) (s := s) (args := args) (own := M.1.cls) (idx := idx) (κ := κ) (κ' := κ') hG hWm me hκ.1 hfr hlo hli
  have hM := hsp l hG
  rw [hno] at cb hM
  refine kBehind (va_runIN (own := M.1.cls) (Ts := []) ⟨hx, hb, hml, hown, fun _ h => by cases h⟩ hM ⟨cb, hini, kword hG hWm hin args⟩ ⟨kPreC.blind, kBoth hWm hW⟩ rfl hna hl.1 rfl (lv_room hcat) hd ⟨Nat.le_trans hκ.2.1 hrc, Nat.le_trans hκ.2.2 hrs⟩) hW fun r n' h' H' locs' hQ hW' => ?_
  exact kk r n' h' hQ p l e R s m args below meth c H' locs' ls Qm hG hC hW' hl hr
/-- Object.<init> -/
theorem go_objInit {a : Nat} (hli : kW (Cond.methodLink M.1.cls idx Lib.objectInit) ∧ kW (Cond.instanceMethod Lib.objectInit) ∧ kW (Cond.code Lib.objectInit ⟨#[0xb1]⟩ 1 none)) (hd : decode M.2.1 pc = .ok (.invokespecial idx, 3)) (hcat : (st.map fun v => v.category).sum ≤ 8) (hn : pc + 3 = nx) (kk : Go G M κ nx lv st z h Q) : Go G M κ pc lv (.ref a :: st) z h Q := by
  intro p l e R s m args below meth c H locs ls Qm hG hC hW hl hr
  subst hn
  obtain ⟨hx, hb, hml, hown, hname, hWm, hfr, hlo, hrc, hrs⟩ := id hC
  exact W.objInit hx hb hown (kword hG hWm hli.1 args) (kword hG hWm hli.2.1 args) (kword hG hWm hli.2.2 args) rfl (hl.1.trans hml.symm) rfl hd (by omega) (by have := lv_room (m := m) (pc := pc) (ls := ls) (rest := .ref a :: st) hcat; omega) (kk p l e R s m args below meth c H locs ls Qm hG hC hW hl hr)
end KCALL
end
section
theorem kcw_0 : ∀ w ∈ u_ws RX0 TX0 4, w ∈ lw_tbl ∧ goodWord w = true := by decide +kernel
theorem kcl_0 : kCl 0 RX0 TX0 4 tyX0 := ⟨rfl, fun w hw => kcw_0 w hw, tyX0_ok, nmX0⟩
theorem kcw_1 : ∀ w ∈ u_ws RX1 TX1 2, w ∈ lw_tbl ∧ goodWord w = true := by decide +kernel
theorem kcl_1 : kCl 1 RX1 TX1 2 tyX1 := ⟨rfl, fun w hw => kcw_1 w hw, tyX1_ok, nmX1⟩
theorem kcw_2 : ∀ w ∈ u_ws RX2 TX2 7, w ∈ lw_tbl ∧ goodWord w = true := by decide +kernel
theorem kcl_2 : kCl 2 RX2 TX2 7 tyX2 := ⟨rfl, fun w hw => kcw_2 w hw, tyX2_ok, nmX2⟩
theorem kcw_3 : ∀ w ∈ u_ws RX3 TX3 6, w ∈ lw_tbl ∧ goodWord w = true := by decide +kernel
theorem kcl_3 : kCl 3 RX3 TX3 6 tyX3 := ⟨rfl, fun w hw => kcw_3 w hw, tyX3_ok, nmX3⟩
theorem kcw_4 : ∀ w ∈ u_ws RX4 TX4 2, w ∈ lw_tbl ∧ goodWord w = true := by decide +kernel
theorem kcl_4 : kCl 4 RX4 TX4 2 tyX4 := ⟨rfl, fun w hw => kcw_4 w hw, tyX4_ok, nmX4⟩
theorem kcw_5 : ∀ w ∈ u_ws RX5 TX5 6, w ∈ lw_tbl ∧ goodWord w = true := by decide +kernel
theorem kcl_5 : kCl 5 RX5 TX5 6 tyX5 := ⟨rfl, fun w hw => kcw_5 w hw, tyX5_ok, nmX5⟩
theorem kcw_6 : ∀ w ∈ u_ws RX6 TX6 9, w ∈ lw_tbl ∧ goodWord w = true := by decide +kernel
theorem kcl_6 : kCl 6 RX6 TX6 9 tyX6 := ⟨rfl, fun w hw => kcw_6 w hw, tyX6_ok, nmX6⟩
theorem kcw_7 : ∀ w ∈ u_ws RX7 TX7 29, w ∈ lw_tbl ∧ goodWord w = true := by decide +kernel
theorem kcl_7 : kCl 7 RX7 TX7 29 tyX7 := ⟨rfl, fun w hw => kcw_7 w hw, tyX7_ok, nmX7⟩
abbrev mJ0_charAt_5068e : kM := (yJ0_charAt_5068e, cJ0_charAt_5068e, 2, (some .char))
abbrev mJ0_checkIndex_df160 : kM := (yJ0_checkIndex_df160, cJ0_checkIndex_df160, 2, none)
abbrev mJ0_coder_7d493 : kM := (yJ0_coder_7d493, cJ0_coder_7d493, 1, (some .byte))
abbrev mJ0_isLatin1_aae02 : kM := (yJ0_isLatin1_aae02, cJ0_isLatin1_aae02, 1, (some .boolean))
abbrev mJ0_length_8abf5 : kM := (yJ0_length_8abf5, cJ0_length_8abf5, 1, (some .int))
abbrev mJ1_charAt_3b067 : kM := (yJ1_charAt_3b067, cJ1_charAt_3b067, 2, (some .char))
abbrev mJ2_charAt_3b067 : kM := (yJ2_charAt_3b067, cJ2_charAt_3b067, 2, (some .char))
abbrev mJ2_checkIndex_2214a : kM := (yJ2_checkIndex_2214a, cJ2_checkIndex_2214a, 2, none)
abbrev mJ2_getChar_3b067 : kM := (yJ2_getChar_3b067, cJ2_getChar_3b067, 2, (some .char))
abbrev mJ2_length_9d52b : kM := (yJ2_length_9d52b, cJ2_length_9d52b, 1, (some .int))
abbrev mJ3_checkIndex_8e157 : kM := (yJ3_checkIndex_8e157, cJ3_checkIndex_8e157, 3, (some .int))
abbrev mJ6_bitCount_0f7a4 : kM := (yJ6_bitCount_0f7a4, cJ6_bitCount_0f7a4, 1, (some .int))
abbrev mJ9_min_7cf53 : kM := (yJ9_min_7cf53, cJ9_min_7cf53, 2, (some .int))
abbrev mX0_bringsAbout : kM := (yX0_bringsAbout, cX0_bringsAbout, 12, (some .boolean))
abbrev mX0_fewestPairs : kM := (yX0_fewestPairs, cX0_fewestPairs, 6, (some .int))
abbrev mX0_init : kM := (yX0_init, cX0_init, 1, none)
abbrev mX0_isRing : kM := (yX0_isRing, cX0_isRing, 3, (some .boolean))
abbrev mX0_lastDays : kM := (yX0_lastDays, cX0_lastDays, 6, (some .int))
abbrev mX0_leastRing : kM := (yX0_leastRing, cX0_leastRing, 4, (some .int))
abbrev mX0_noteInFront : kM := (yX0_noteInFront, cX0_noteInFront, 3, none)
abbrev mX0_outcome : kM := (yX0_outcome, cX0_outcome, 12, (some .int))
abbrev mX0_rulerAhead : kM := (yX0_rulerAhead, cX0_rulerAhead, 5, (some .int))
abbrev mX1_init : kM := (yX1_init, cX1_init, 1, none)
abbrev mX2_acquaintances : kM := (yX2_acquaintances, cX2_acquaintances, 4, (some .int))
abbrev mX2_allCounts : kM := (yX2_allCounts, cX2_allCounts, 3, (some .int))
abbrev mX2_begin : kM := (yX2_begin, cX2_begin, 3, none)
abbrev mX2_copyFrom : kM := (yX2_copyFrom, cX2_copyFrom, 2, none)
abbrev mX2_crown : kM := (yX2_crown, cX2_crown, 4, none)
abbrev mX2_fewestAsks : kM := (yX2_fewestAsks, cX2_fewestAsks, 8, (some .int))
abbrev mX2_forget : kM := (yX2_forget, cX2_forget, 4, none)
abbrev mX2_init : kM := (yX2_init, cX2_init, 1, none)
abbrev mX2_isAware : kM := (yX2_isAware, cX2_isAware, 3, (some .boolean))
abbrev mX2_isParty : kM := (yX2_isParty, cX2_isParty, 4, (some .boolean))
abbrev mX2_learn : kM := (yX2_learn, cX2_learn, 4, (some .int))
abbrev mX2_setKnowers : kM := (yX2_setKnowers, cX2_setKnowers, 3, none)
abbrev mX2_sight : kM := (yX2_sight, cX2_sight, 3, (some .int))
abbrev mX2_spring : kM := (yX2_spring, cX2_spring, 4, (some .int))
abbrev mX3_findTokens : kM := (yX3_findTokens, cX3_findTokens, 4, none)
abbrev mX3_init : kM := (yX3_init, cX3_init, 1, none)
abbrev mX3_isWord : kM := (yX3_isWord, cX3_isWord, 7, (some .boolean))
abbrev mX3_mayBegin : kM := (yX3_mayBegin, cX3_mayBegin, 3, (some .boolean))
abbrev mX3_number : kM := (yX3_number, cX3_number, 1, (some .int))
abbrev mX3_numberAt : kM := (yX3_numberAt, cX3_numberAt, 4, (some .int))
abbrev mX3_read : kM := (yX3_read, cX3_read, 4, (some .int))
abbrev mX3_readForgets : kM := (yX3_readForgets, cX3_readForgets, 3, (some .boolean))
abbrev mX3_readItem : kM := (yX3_readItem, cX3_readItem, 4, none)
abbrev mX3_readLaw : kM := (yX3_readLaw, cX3_readLaw, 4, (some .boolean))
abbrev mX3_readPair : kM := (yX3_readPair, cX3_readPair, 6, (some .boolean))
abbrev mX3_take : kM := (yX3_take, cX3_take, 2, (some .boolean))
abbrev mX3_tokenAt : kM := (yX3_tokenAt, cX3_tokenAt, 3, (some .int))
abbrev mX3_wordAt : kM := (yX3_wordAt, cX3_wordAt, 3, (some .int))
abbrev mX4_add : kM := (yX4_add, cX4_add, 2, none)
abbrev mX4_begins : kM := (yX4_begins, cX4_begins, 6, (some .boolean))
abbrev mX4_byteAt : kM := (yX4_byteAt, cX4_byteAt, 2, (some .int))
abbrev mX4_init : kM := (yX4_init, cX4_init, 1, none)
abbrev mX4_isDigit : kM := (yX4_isDigit, cX4_isDigit, 1, (some .boolean))
abbrev mX4_isLetter : kM := (yX4_isLetter, cX4_isLetter, 1, (some .boolean))
abbrev mX5_choose : kM := (yX5_choose, cX5_choose, 6, (some .int))
abbrev mX5_empty : kM := (yX5_empty, cX5_empty, 1, none)
abbrev mX5_everyone : kM := (yX5_everyone, cX5_everyone, 1, (some .int))
abbrev mX5_firstWith : kM := (yX5_firstWith, cX5_firstWith, 4, (some .int))
abbrev mX5_habits : kM := (yX5_habits, cX5_habits, 3, (some .int))
abbrev mX5_init : kM := (yX5_init, cX5_init, 1, none)
abbrev mX5_leastOf : kM := (yX5_leastOf, cX5_leastOf, 6, (some .int))
abbrev mX5_tell : kM := (yX5_tell, cX5_tell, 3, none)
abbrev mX6_anew : kM := (yX6_anew, cX6_anew, 2, (some .int))
abbrev mX6_asHermit : kM := (yX6_asHermit, cX6_asHermit, 2, (some .int))
abbrev mX6_asKnown : kM := (yX6_asKnown, cX6_asKnown, 2, (some .int))
abbrev mX6_asMayor : kM := (yX6_asMayor, cX6_asMayor, 2, (some .int))
abbrev mX6_asPerson : kM := (yX6_asPerson, cX6_asPerson, 2, (some .int))
abbrev mX6_asShy : kM := (yX6_asShy, cX6_asShy, 2, (some .int))
abbrev mX6_asStranger : kM := (yX6_asStranger, cX6_asStranger, 2, (some .int))
abbrev mX6_asks : kM := (yX6_asks, cX6_asks, 3, (some .int))
abbrev mX6_at : kM := (yX6_at, cX6_at, 2, (some .int))
abbrev mX6_back : kM := (yX6_back, cX6_back, 3, (some .int))
abbrev mX6_brings : kM := (yX6_brings, cX6_brings, 5, (some .int))
abbrev mX6_chosen : kM := (yX6_chosen, cX6_chosen, 1, (some .int))
abbrev mX6_clear : kM := (yX6_clear, cX6_clear, 2, (some .int))
abbrev mX6_copy : kM := (yX6_copy, cX6_copy, 3, none)
abbrev mX6_count : kM := (yX6_count, cX6_count, 2, (some .int))
abbrev mX6_days : kM := (yX6_days, cX6_days, 6, (some .int))
abbrev mX6_fill : kM := (yX6_fill, cX6_fill, 3, none)
abbrev mX6_go : kM := (yX6_go, cX6_go, 4, (some .int))
abbrev mX6_imageOf : kM := (yX6_imageOf, cX6_imageOf, 2, (some (.object "LeastKnown$Image")))
abbrev mX6_init : kM := (yX6_init, cX6_init, 1, none)
abbrev mX6_introduce : kM := (yX6_introduce, cX6_introduce, 4, (some .int))
abbrev mX6_isChoice : kM := (yX6_isChoice, cX6_isChoice, 1, (some .boolean))
abbrev mX6_isPair : kM := (yX6_isPair, cX6_isPair, 3, (some .boolean))
abbrev mX6_isPerson : kM := (yX6_isPerson, cX6_isPerson, 2, (some .boolean))
abbrev mX6_keep : kM := (yX6_keep, cX6_keep, 3, (some .int))
abbrev mX6_knows : kM := (yX6_knows, cX6_knows, 3, (some .int))
abbrev mX6_law : kM := (yX6_law, cX6_law, 2, (some .int))
abbrev mX6_meet : kM := (yX6_meet, cX6_meet, 3, (some .int))
abbrev mX6_moves : kM := (yX6_moves, cX6_moves, 3, (some .int))
abbrev mX6_now : kM := (yX6_now, cX6_now, 2, (some .int))
abbrev mX6_parties : kM := (yX6_parties, cX6_parties, 7, (some .int))
abbrev mX6_party : kM := (yX6_party, cX6_party, 2, (some .int))
abbrev mX6_person : kM := (yX6_person, cX6_person, 3, (some .int))
abbrev mX6_put : kM := (yX6_put, cX6_put, 3, none)
abbrev mX6_rate : kM := (yX6_rate, cX6_rate, 3, (some .int))
abbrev mX6_reigns : kM := (yX6_reigns, cX6_reigns, 2, (some .int))
abbrev mX6_ring : kM := (yX6_ring, cX6_ring, 1, (some .int))
abbrev mX6_rules : kM := (yX6_rules, cX6_rules, 5, (some .int))
abbrev mX6_seen : kM := (yX6_seen, cX6_seen, 3, (some .int))
abbrev mX6_town : kM := (yX6_town, cX6_town, 3, (some .int))
abbrev mX6_trace : kM := (yX6_trace, cX6_trace, 1, (some .long))
abbrev mX6_type : kM := (yX6_type, cX6_type, 5, (some .int))
abbrev mX7_acts : kM := (yX7_acts, cX7_acts, 5, (some .boolean))
abbrev mX7_add : kM := (yX7_add, cX7_add, 3, (some .long))
abbrev mX7_advances : kM := (yX7_advances, cX7_advances, 4, none)
abbrev mX7_anew : kM := (yX7_anew, cX7_anew, 2, (some .int))
abbrev mX7_areTwo : kM := (yX7_areTwo, cX7_areTwo, 3, (some .boolean))
abbrev mX7_aside : kM := (yX7_aside, cX7_aside, 3, none)
abbrev mX7_asideOf : kM := (yX7_asideOf, cX7_asideOf, 4, none)
abbrev mX7_asks : kM := (yX7_asks, cX7_asks, 7, (some .int))
abbrev mX7_back : kM := (yX7_back, cX7_back, 3, (some .int))
abbrev mX7_begins : kM := (yX7_begins, cX7_begins, 2, none)
abbrev mX7_brings : kM := (yX7_brings, cX7_brings, 6, (some .int))
abbrev mX7_bringsBy : kM := (yX7_bringsBy, cX7_bringsBy, 5, (some .int))
abbrev mX7_byteAt : kM := (yX7_byteAt, cX7_byteAt, 2, (some .int))
abbrev mX7_chosen : kM := (yX7_chosen, cX7_chosen, 1, (some .int))
abbrev mX7_chosenNow : kM := (yX7_chosenNow, cX7_chosenNow, 5, (some .int))
abbrev mX7_clear : kM := (yX7_clear, cX7_clear, 2, (some .int))
abbrev mX7_count : kM := (yX7_count, cX7_count, 4, (some .int))
abbrev mX7_countAll : kM := (yX7_countAll, cX7_countAll, 3, (some .int))
abbrev mX7_countOf : kM := (yX7_countOf, cX7_countOf, 4, (some .int))
abbrev mX7_days : kM := (yX7_days, cX7_days, 6, (some .int))
abbrev mX7_firstDay : kM := (yX7_firstDay, cX7_firstDay, 8, (some .int))
abbrev mX7_go : kM := (yX7_go, cX7_go, 3, (some .int))
abbrev mX7_in : kM := (yX7_in, cX7_in, 3, (some .boolean))
abbrev mX7_init : kM := (yX7_init, cX7_init, 2, none)
abbrev mX7_introduce : kM := (yX7_introduce, cX7_introduce, 4, (some .int))
abbrev mX7_isKnown : kM := (yX7_isKnown, cX7_isKnown, 3, (some .boolean))
abbrev mX7_isParty : kM := (yX7_isParty, cX7_isParty, 5, (some .boolean))
abbrev mX7_isPerson : kM := (yX7_isPerson, cX7_isPerson, 2, (some .boolean))
abbrev mX7_isSo : kM := (yX7_isSo, cX7_isSo, 3, (some .boolean))
abbrev mX7_isWell : kM := (yX7_isWell, cX7_isWell, 1, (some .boolean))
abbrev mX7_keep : kM := (yX7_keep, cX7_keep, 3, (some .int))
abbrev mX7_knows : kM := (yX7_knows, cX7_knows, 3, (some .int))
abbrev mX7_lastButOne : kM := (yX7_lastButOne, cX7_lastButOne, 9, (some .int))
abbrev mX7_lastDay : kM := (yX7_lastDay, cX7_lastDay, 8, (some .int))
abbrev mX7_law : kM := (yX7_law, cX7_law, 2, (some .int))
abbrev mX7_learns : kM := (yX7_learns, cX7_learns, 4, (some .int))
abbrev mX7_leastOf : kM := (yX7_leastOf, cX7_leastOf, 5, (some .int))
abbrev mX7_meet : kM := (yX7_meet, cX7_meet, 3, (some .int))
abbrev mX7_meets : kM := (yX7_meets, cX7_meets, 2, none)
abbrev mX7_moves : kM := (yX7_moves, cX7_moves, 4, (some .int))
abbrev mX7_named : kM := (yX7_named, cX7_named, 6, (some .long))
abbrev mX7_nextPair : kM := (yX7_nextPair, cX7_nextPair, 3, (some .int))
abbrev mX7_now : kM := (yX7_now, cX7_now, 2, (some .int))
abbrev mX7_number : kM := (yX7_number, cX7_number, 3, (some .int))
abbrev mX7_ones : kM := (yX7_ones, cX7_ones, 3, (some .int))
abbrev mX7_parties : kM := (yX7_parties, cX7_parties, 5, (some .int))
abbrev mX7_party : kM := (yX7_party, cX7_party, 2, (some .int))
abbrev mX7_person : kM := (yX7_person, cX7_person, 3, (some .int))
abbrev mX7_rate : kM := (yX7_rate, cX7_rate, 6, (some .int))
abbrev mX7_readsItem : kM := (yX7_readsItem, cX7_readsItem, 3, none)
abbrev mX7_readsTwo : kM := (yX7_readsTwo, cX7_readsTwo, 4, none)
abbrev mX7_reigns : kM := (yX7_reigns, cX7_reigns, 4, (some .int))
abbrev mX7_ring : kM := (yX7_ring, cX7_ring, 4, (some .int))
abbrev mX7_rules : kM := (yX7_rules, cX7_rules, 4, (some .int))
abbrev mX7_seen : kM := (yX7_seen, cX7_seen, 3, (some .int))
abbrev mX7_springs : kM := (yX7_springs, cX7_springs, 3, (some .int))
abbrev mX7_takes : kM := (yX7_takes, cX7_takes, 3, (some .int))
abbrev mX7_town : kM := (yX7_town, cX7_town, 4, (some .int))
abbrev mX7_trace : kM := (yX7_trace, cX7_trace, 1, (some .long))
abbrev mX7_type : kM := (yX7_type, cX7_type, 5, (some .int))
abbrev mX7_whoOf : kM := (yX7_whoOf, cX7_whoOf, 3, (some .int))
abbrev mX7_wordOf : kM := (yX7_wordOf, cX7_wordOf, 4, (some .int))
theorem km_J0_charAt_5068e : kMe mJ0_charAt_5068e 1 := ⟨⟨List.mem_of_getElem? (i := 353) (by decide +kernel), by decide +kernel⟩, ⟨List.mem_of_getElem? (i := 63) (by decide +kernel), by decide +kernel⟩, ⟨by decide +kernel, by decide +kernel, by decide +kernel⟩, by decide⟩
theorem km_J0_length_8abf5 : kMe mJ0_length_8abf5 0 := ⟨⟨List.mem_of_getElem? (i := 343) (by decide +kernel), by decide +kernel⟩, ⟨List.mem_of_getElem? (i := 63) (by decide +kernel), by decide +kernel⟩, ⟨by decide +kernel, by decide +kernel, by decide +kernel⟩, by decide⟩
theorem km_J6_bitCount_0f7a4 : kMe mJ6_bitCount_0f7a4 1 := ⟨⟨List.mem_of_getElem? (i := 254) (by decide +kernel), by decide +kernel⟩, ⟨List.mem_of_getElem? (i := 61) (by decide +kernel), by decide +kernel⟩, ⟨by decide +kernel, by decide +kernel, by decide +kernel⟩, by decide⟩
theorem km_J9_min_7cf53 : kMe mJ9_min_7cf53 2 := ⟨⟨List.mem_of_getElem? (i := 514) (by decide +kernel), by decide +kernel⟩, ⟨List.mem_of_getElem? (i := 67) (by decide +kernel), by decide +kernel⟩, ⟨by decide +kernel, by decide +kernel, by decide +kernel⟩, by decide⟩
theorem km_X0_bringsAbout : kMe mX0_bringsAbout 5 := ⟨⟨List.mem_of_getElem? (i := 586) (by decide +kernel), by decide +kernel⟩, ⟨List.mem_of_getElem? (i := 59) (by decide +kernel), by decide +kernel⟩, ⟨by decide +kernel, by decide +kernel, by decide +kernel⟩, by decide⟩
theorem km_X0_fewestPairs : kMe mX0_fewestPairs 4 := ⟨⟨List.mem_of_getElem? (i := 582) (by decide +kernel), by decide +kernel⟩, ⟨List.mem_of_getElem? (i := 59) (by decide +kernel), by decide +kernel⟩, ⟨by decide +kernel, by decide +kernel, by decide +kernel⟩, by decide⟩
theorem km_X0_init : kMe mX0_init 0 := ⟨⟨List.mem_of_getElem? (i := 172) (by decide +kernel), by decide +kernel⟩, ⟨List.mem_of_getElem? (i := 59) (by decide +kernel), by decide +kernel⟩, ⟨by decide +kernel, by decide +kernel, by decide +kernel⟩, by decide⟩
theorem km_X0_isRing : kMe mX0_isRing 1 := ⟨⟨List.mem_of_getElem? (i := 570) (by decide +kernel), by decide +kernel⟩, ⟨List.mem_of_getElem? (i := 59) (by decide +kernel), by decide +kernel⟩, ⟨by decide +kernel, by decide +kernel, by decide +kernel⟩, by decide⟩
theorem km_X0_lastDays : kMe mX0_lastDays 5 := ⟨⟨List.mem_of_getElem? (i := 600) (by decide +kernel), by decide +kernel⟩, ⟨List.mem_of_getElem? (i := 59) (by decide +kernel), by decide +kernel⟩, ⟨by decide +kernel, by decide +kernel, by decide +kernel⟩, by decide⟩
theorem km_X0_leastRing : kMe mX0_leastRing 2 := ⟨⟨List.mem_of_getElem? (i := 565) (by decide +kernel), by decide +kernel⟩, ⟨List.mem_of_getElem? (i := 59) (by decide +kernel), by decide +kernel⟩, ⟨by decide +kernel, by decide +kernel, by decide +kernel⟩, by decide⟩
theorem km_X0_noteInFront : kMe mX0_noteInFront 1 := ⟨⟨List.mem_of_getElem? (i := 592) (by decide +kernel), by decide +kernel⟩, ⟨List.mem_of_getElem? (i := 59) (by decide +kernel), by decide +kernel⟩, ⟨by decide +kernel, by decide +kernel, by decide +kernel⟩, by decide⟩
theorem km_X0_outcome : kMe mX0_outcome 5 := ⟨⟨List.mem_of_getElem? (i := 605) (by decide +kernel), by decide +kernel⟩, ⟨List.mem_of_getElem? (i := 59) (by decide +kernel), by decide +kernel⟩, ⟨by decide +kernel, by decide +kernel, by decide +kernel⟩, by decide⟩
theorem km_X0_rulerAhead : kMe mX0_rulerAhead 3 := ⟨⟨List.mem_of_getElem? (i := 549) (by decide +kernel), by decide +kernel⟩, ⟨List.mem_of_getElem? (i := 59) (by decide +kernel), by decide +kernel⟩, ⟨by decide +kernel, by decide +kernel, by decide +kernel⟩, by decide⟩
theorem km_X1_init : kMe mX1_init 0 := ⟨⟨List.mem_of_getElem? (i := 156) (by decide +kernel), by decide +kernel⟩, ⟨List.mem_of_getElem? (i := 58) (by decide +kernel), by decide +kernel⟩, ⟨by decide +kernel, by decide +kernel, by decide +kernel⟩, by decide⟩
theorem km_X2_acquaintances : kMe mX2_acquaintances 1 := ⟨⟨List.mem_of_getElem? (i := 462) (by decide +kernel), by decide +kernel⟩, ⟨List.mem_of_getElem? (i := 57) (by decide +kernel), by decide +kernel⟩, ⟨by decide +kernel, by decide +kernel, by decide +kernel⟩, by decide⟩
theorem km_X2_allCounts : kMe mX2_allCounts 0 := ⟨⟨List.mem_of_getElem? (i := 537) (by decide +kernel), by decide +kernel⟩, ⟨List.mem_of_getElem? (i := 57) (by decide +kernel), by decide +kernel⟩, ⟨by decide +kernel, by decide +kernel, by decide +kernel⟩, by decide⟩
theorem km_X2_begin : kMe mX2_begin 1 := ⟨⟨List.mem_of_getElem? (i := 241) (by decide +kernel), by decide +kernel⟩, ⟨List.mem_of_getElem? (i := 57) (by decide +kernel), by decide +kernel⟩, ⟨by decide +kernel, by decide +kernel, by decide +kernel⟩, by decide⟩
theorem km_X2_copyFrom : kMe mX2_copyFrom 1 := ⟨⟨List.mem_of_getElem? (i := 553) (by decide +kernel), by decide +kernel⟩, ⟨List.mem_of_getElem? (i := 57) (by decide +kernel), by decide +kernel⟩, ⟨by decide +kernel, by decide +kernel, by decide +kernel⟩, by decide⟩
theorem km_X2_crown : kMe mX2_crown 2 := ⟨⟨List.mem_of_getElem? (i := 524) (by decide +kernel), by decide +kernel⟩, ⟨List.mem_of_getElem? (i := 57) (by decide +kernel), by decide +kernel⟩, ⟨by decide +kernel, by decide +kernel, by decide +kernel⟩, by decide⟩
theorem km_X2_fewestAsks : kMe mX2_fewestAsks 3 := ⟨⟨List.mem_of_getElem? (i := 613) (by decide +kernel), by decide +kernel⟩, ⟨List.mem_of_getElem? (i := 57) (by decide +kernel), by decide +kernel⟩, ⟨by decide +kernel, by decide +kernel, by decide +kernel⟩, by decide⟩
theorem km_X2_forget : kMe mX2_forget 1 := ⟨⟨List.mem_of_getElem? (i := 528) (by decide +kernel), by decide +kernel⟩, ⟨List.mem_of_getElem? (i := 57) (by decide +kernel), by decide +kernel⟩, ⟨by decide +kernel, by decide +kernel, by decide +kernel⟩, by decide⟩
theorem km_X2_init : kMe mX2_init 0 := ⟨⟨List.mem_of_getElem? (i := 121) (by decide +kernel), by decide +kernel⟩, ⟨List.mem_of_getElem? (i := 57) (by decide +kernel), by decide +kernel⟩, ⟨by decide +kernel, by decide +kernel, by decide +kernel⟩, by decide⟩
theorem km_X2_isAware : kMe mX2_isAware 2 := ⟨⟨List.mem_of_getElem? (i := 444) (by decide +kernel), by decide +kernel⟩, ⟨List.mem_of_getElem? (i := 57) (by decide +kernel), by decide +kernel⟩, ⟨by decide +kernel, by decide +kernel, by decide +kernel⟩, by decide⟩
theorem km_X2_isParty : kMe mX2_isParty 1 := ⟨⟨List.mem_of_getElem? (i := 622) (by decide +kernel), by decide +kernel⟩, ⟨List.mem_of_getElem? (i := 57) (by decide +kernel), by decide +kernel⟩, ⟨by decide +kernel, by decide +kernel, by decide +kernel⟩, by decide⟩
theorem km_X2_learn : kMe mX2_learn 2 := ⟨⟨List.mem_of_getElem? (i := 498) (by decide +kernel), by decide +kernel⟩, ⟨List.mem_of_getElem? (i := 57) (by decide +kernel), by decide +kernel⟩, ⟨by decide +kernel, by decide +kernel, by decide +kernel⟩, by decide⟩
theorem km_X2_setKnowers : kMe mX2_setKnowers 2 := ⟨⟨List.mem_of_getElem? (i := 248) (by decide +kernel), by decide +kernel⟩, ⟨List.mem_of_getElem? (i := 57) (by decide +kernel), by decide +kernel⟩, ⟨by decide +kernel, by decide +kernel, by decide +kernel⟩, by decide⟩
theorem km_X2_sight : kMe mX2_sight 2 := ⟨⟨List.mem_of_getElem? (i := 453) (by decide +kernel), by decide +kernel⟩, ⟨List.mem_of_getElem? (i := 57) (by decide +kernel), by decide +kernel⟩, ⟨by decide +kernel, by decide +kernel, by decide +kernel⟩, by decide⟩
theorem km_X2_spring : kMe mX2_spring 1 := ⟨⟨List.mem_of_getElem? (i := 518) (by decide +kernel), by decide +kernel⟩, ⟨List.mem_of_getElem? (i := 57) (by decide +kernel), by decide +kernel⟩, ⟨by decide +kernel, by decide +kernel, by decide +kernel⟩, by decide⟩
theorem km_X3_findTokens : kMe mX3_findTokens 1 := ⟨⟨List.mem_of_getElem? (i := 312) (by decide +kernel), by decide +kernel⟩, ⟨List.mem_of_getElem? (i := 56) (by decide +kernel), by decide +kernel⟩, ⟨by decide +kernel, by decide +kernel, by decide +kernel⟩, by decide⟩
theorem km_X3_init : kMe mX3_init 0 := ⟨⟨List.mem_of_getElem? (i := 96) (by decide +kernel), by decide +kernel⟩, ⟨List.mem_of_getElem? (i := 56) (by decide +kernel), by decide +kernel⟩, ⟨by decide +kernel, by decide +kernel, by decide +kernel⟩, by decide⟩
theorem km_X3_isWord : kMe mX3_isWord 3 := ⟨⟨List.mem_of_getElem? (i := 338) (by decide +kernel), by decide +kernel⟩, ⟨List.mem_of_getElem? (i := 56) (by decide +kernel), by decide +kernel⟩, ⟨by decide +kernel, by decide +kernel, by decide +kernel⟩, by decide⟩
theorem km_X3_mayBegin : kMe mX3_mayBegin 2 := ⟨⟨List.mem_of_getElem? (i := 401) (by decide +kernel), by decide +kernel⟩, ⟨List.mem_of_getElem? (i := 56) (by decide +kernel), by decide +kernel⟩, ⟨by decide +kernel, by decide +kernel, by decide +kernel⟩, by decide⟩
theorem km_X3_number : kMe mX3_number 0 := ⟨⟨List.mem_of_getElem? (i := 413) (by decide +kernel), by decide +kernel⟩, ⟨List.mem_of_getElem? (i := 56) (by decide +kernel), by decide +kernel⟩, ⟨by decide +kernel, by decide +kernel, by decide +kernel⟩, by decide⟩
theorem km_X3_numberAt : kMe mX3_numberAt 2 := ⟨⟨List.mem_of_getElem? (i := 391) (by decide +kernel), by decide +kernel⟩, ⟨List.mem_of_getElem? (i := 56) (by decide +kernel), by decide +kernel⟩, ⟨by decide +kernel, by decide +kernel, by decide +kernel⟩, by decide⟩
theorem km_X3_read : kMe mX3_read 2 := ⟨⟨List.mem_of_getElem? (i := 307) (by decide +kernel), by decide +kernel⟩, ⟨List.mem_of_getElem? (i := 56) (by decide +kernel), by decide +kernel⟩, ⟨by decide +kernel, by decide +kernel, by decide +kernel⟩, by decide⟩
theorem km_X3_readForgets : kMe mX3_readForgets 1 := ⟨⟨List.mem_of_getElem? (i := 409) (by decide +kernel), by decide +kernel⟩, ⟨List.mem_of_getElem? (i := 56) (by decide +kernel), by decide +kernel⟩, ⟨by decide +kernel, by decide +kernel, by decide +kernel⟩, by decide⟩
theorem km_X3_readItem : kMe mX3_readItem 1 := ⟨⟨List.mem_of_getElem? (i := 397) (by decide +kernel), by decide +kernel⟩, ⟨List.mem_of_getElem? (i := 56) (by decide +kernel), by decide +kernel⟩, ⟨by decide +kernel, by decide +kernel, by decide +kernel⟩, by decide⟩
theorem km_X3_readLaw : kMe mX3_readLaw 1 := ⟨⟨List.mem_of_getElem? (i := 417) (by decide +kernel), by decide +kernel⟩, ⟨List.mem_of_getElem? (i := 56) (by decide +kernel), by decide +kernel⟩, ⟨by decide +kernel, by decide +kernel, by decide +kernel⟩, by decide⟩
theorem km_X3_readPair : kMe mX3_readPair 2 := ⟨⟨List.mem_of_getElem? (i := 421) (by decide +kernel), by decide +kernel⟩, ⟨List.mem_of_getElem? (i := 56) (by decide +kernel), by decide +kernel⟩, ⟨by decide +kernel, by decide +kernel, by decide +kernel⟩, by decide⟩
theorem km_X3_take : kMe mX3_take 1 := ⟨⟨List.mem_of_getElem? (i := 405) (by decide +kernel), by decide +kernel⟩, ⟨List.mem_of_getElem? (i := 56) (by decide +kernel), by decide +kernel⟩, ⟨by decide +kernel, by decide +kernel, by decide +kernel⟩, by decide⟩
theorem km_X3_tokenAt : kMe mX3_tokenAt 2 := ⟨⟨List.mem_of_getElem? (i := 330) (by decide +kernel), by decide +kernel⟩, ⟨List.mem_of_getElem? (i := 56) (by decide +kernel), by decide +kernel⟩, ⟨by decide +kernel, by decide +kernel, by decide +kernel⟩, by decide⟩
theorem km_X3_wordAt : kMe mX3_wordAt 2 := ⟨⟨List.mem_of_getElem? (i := 335) (by decide +kernel), by decide +kernel⟩, ⟨List.mem_of_getElem? (i := 56) (by decide +kernel), by decide +kernel⟩, ⟨by decide +kernel, by decide +kernel, by decide +kernel⟩, by decide⟩
theorem km_X4_add : kMe mX4_add 1 := ⟨⟨List.mem_of_getElem? (i := 294) (by decide +kernel), by decide +kernel⟩, ⟨List.mem_of_getElem? (i := 55) (by decide +kernel), by decide +kernel⟩, ⟨by decide +kernel, by decide +kernel, by decide +kernel⟩, by decide⟩
theorem km_X4_begins : kMe mX4_begins 1 := ⟨⟨List.mem_of_getElem? (i := 316) (by decide +kernel), by decide +kernel⟩, ⟨List.mem_of_getElem? (i := 55) (by decide +kernel), by decide +kernel⟩, ⟨by decide +kernel, by decide +kernel, by decide +kernel⟩, by decide⟩
theorem km_X4_byteAt : kMe mX4_byteAt 1 := ⟨⟨List.mem_of_getElem? (i := 320) (by decide +kernel), by decide +kernel⟩, ⟨List.mem_of_getElem? (i := 55) (by decide +kernel), by decide +kernel⟩, ⟨by decide +kernel, by decide +kernel, by decide +kernel⟩, by decide⟩
theorem km_X4_init : kMe mX4_init 0 := ⟨⟨List.mem_of_getElem? (i := 80) (by decide +kernel), by decide +kernel⟩, ⟨List.mem_of_getElem? (i := 55) (by decide +kernel), by decide +kernel⟩, ⟨by decide +kernel, by decide +kernel, by decide +kernel⟩, by decide⟩
theorem km_X4_isDigit : kMe mX4_isDigit 1 := ⟨⟨List.mem_of_getElem? (i := 327) (by decide +kernel), by decide +kernel⟩, ⟨List.mem_of_getElem? (i := 55) (by decide +kernel), by decide +kernel⟩, ⟨by decide +kernel, by decide +kernel, by decide +kernel⟩, by decide⟩
theorem km_X4_isLetter : kMe mX4_isLetter 1 := ⟨⟨List.mem_of_getElem? (i := 324) (by decide +kernel), by decide +kernel⟩, ⟨List.mem_of_getElem? (i := 55) (by decide +kernel), by decide +kernel⟩, ⟨by decide +kernel, by decide +kernel, by decide +kernel⟩, by decide⟩
theorem km_X5_choose : kMe mX5_choose 1 := ⟨⟨List.mem_of_getElem? (i := 479) (by decide +kernel), by decide +kernel⟩, ⟨List.mem_of_getElem? (i := 60) (by decide +kernel), by decide +kernel⟩, ⟨by decide +kernel, by decide +kernel, by decide +kernel⟩, by decide⟩
theorem km_X5_empty : kMe mX5_empty 0 := ⟨⟨List.mem_of_getElem? (i := 200) (by decide +kernel), by decide +kernel⟩, ⟨List.mem_of_getElem? (i := 60) (by decide +kernel), by decide +kernel⟩, ⟨by decide +kernel, by decide +kernel, by decide +kernel⟩, by decide⟩
theorem km_X5_everyone : kMe mX5_everyone 0 := ⟨⟨List.mem_of_getElem? (i := 483) (by decide +kernel), by decide +kernel⟩, ⟨List.mem_of_getElem? (i := 60) (by decide +kernel), by decide +kernel⟩, ⟨by decide +kernel, by decide +kernel, by decide +kernel⟩, by decide⟩
theorem km_X5_firstWith : kMe mX5_firstWith 2 := ⟨⟨List.mem_of_getElem? (i := 490) (by decide +kernel), by decide +kernel⟩, ⟨List.mem_of_getElem? (i := 60) (by decide +kernel), by decide +kernel⟩, ⟨by decide +kernel, by decide +kernel, by decide +kernel⟩, by decide⟩
theorem km_X5_habits : kMe mX5_habits 0 := ⟨⟨List.mem_of_getElem? (i := 681) (by decide +kernel), by decide +kernel⟩, ⟨List.mem_of_getElem? (i := 60) (by decide +kernel), by decide +kernel⟩, ⟨by decide +kernel, by decide +kernel, by decide +kernel⟩, by decide⟩
theorem km_X5_init : kMe mX5_init 0 := ⟨⟨List.mem_of_getElem? (i := 195) (by decide +kernel), by decide +kernel⟩, ⟨List.mem_of_getElem? (i := 60) (by decide +kernel), by decide +kernel⟩, ⟨by decide +kernel, by decide +kernel, by decide +kernel⟩, by decide⟩
theorem km_X5_leastOf : kMe mX5_leastOf 2 := ⟨⟨List.mem_of_getElem? (i := 486) (by decide +kernel), by decide +kernel⟩, ⟨List.mem_of_getElem? (i := 60) (by decide +kernel), by decide +kernel⟩, ⟨by decide +kernel, by decide +kernel, by decide +kernel⟩, by decide⟩
theorem km_X5_tell : kMe mX5_tell 2 := ⟨⟨List.mem_of_getElem? (i := 425) (by decide +kernel), by decide +kernel⟩, ⟨List.mem_of_getElem? (i := 60) (by decide +kernel), by decide +kernel⟩, ⟨by decide +kernel, by decide +kernel, by decide +kernel⟩, by decide⟩
theorem km_X6_anew : kMe mX6_anew 0 := ⟨⟨List.mem_of_getElem? (i := 541) (by decide +kernel), by decide +kernel⟩, ⟨List.mem_of_getElem? (i := 54) (by decide +kernel), by decide +kernel⟩, ⟨by decide +kernel, by decide +kernel, by decide +kernel⟩, by decide⟩
theorem km_X6_asHermit : kMe mX6_asHermit 1 := ⟨⟨List.mem_of_getElem? (i := 654) (by decide +kernel), by decide +kernel⟩, ⟨List.mem_of_getElem? (i := 54) (by decide +kernel), by decide +kernel⟩, ⟨by decide +kernel, by decide +kernel, by decide +kernel⟩, by decide⟩
theorem km_X6_asKnown : kMe mX6_asKnown 1 := ⟨⟨List.mem_of_getElem? (i := 644) (by decide +kernel), by decide +kernel⟩, ⟨List.mem_of_getElem? (i := 54) (by decide +kernel), by decide +kernel⟩, ⟨by decide +kernel, by decide +kernel, by decide +kernel⟩, by decide⟩
theorem km_X6_asMayor : kMe mX6_asMayor 1 := ⟨⟨List.mem_of_getElem? (i := 649) (by decide +kernel), by decide +kernel⟩, ⟨List.mem_of_getElem? (i := 54) (by decide +kernel), by decide +kernel⟩, ⟨by decide +kernel, by decide +kernel, by decide +kernel⟩, by decide⟩
theorem km_X6_asPerson : kMe mX6_asPerson 1 := ⟨⟨List.mem_of_getElem? (i := 635) (by decide +kernel), by decide +kernel⟩, ⟨List.mem_of_getElem? (i := 54) (by decide +kernel), by decide +kernel⟩, ⟨by decide +kernel, by decide +kernel, by decide +kernel⟩, by decide⟩
theorem km_X6_asShy : kMe mX6_asShy 1 := ⟨⟨List.mem_of_getElem? (i := 639) (by decide +kernel), by decide +kernel⟩, ⟨List.mem_of_getElem? (i := 54) (by decide +kernel), by decide +kernel⟩, ⟨by decide +kernel, by decide +kernel, by decide +kernel⟩, by decide⟩
theorem km_X6_asStranger : kMe mX6_asStranger 1 := ⟨⟨List.mem_of_getElem? (i := 659) (by decide +kernel), by decide +kernel⟩, ⟨List.mem_of_getElem? (i := 54) (by decide +kernel), by decide +kernel⟩, ⟨by decide +kernel, by decide +kernel, by decide +kernel⟩, by decide⟩
theorem km_X6_asks : kMe mX6_asks 2 := ⟨⟨List.mem_of_getElem? (i := 609) (by decide +kernel), by decide +kernel⟩, ⟨List.mem_of_getElem? (i := 54) (by decide +kernel), by decide +kernel⟩, ⟨by decide +kernel, by decide +kernel, by decide +kernel⟩, by decide⟩
theorem km_X6_at : kMe mX6_at 2 := ⟨⟨List.mem_of_getElem? (i := 244) (by decide +kernel), by decide +kernel⟩, ⟨List.mem_of_getElem? (i := 54) (by decide +kernel), by decide +kernel⟩, ⟨by decide +kernel, by decide +kernel, by decide +kernel⟩, by decide⟩
theorem km_X6_back : kMe mX6_back 1 := ⟨⟨List.mem_of_getElem? (i := 673) (by decide +kernel), by decide +kernel⟩, ⟨List.mem_of_getElem? (i := 54) (by decide +kernel), by decide +kernel⟩, ⟨by decide +kernel, by decide +kernel, by decide +kernel⟩, by decide⟩
theorem km_X6_brings : kMe mX6_brings 3 := ⟨⟨List.mem_of_getElem? (i := 575) (by decide +kernel), by decide +kernel⟩, ⟨List.mem_of_getElem? (i := 54) (by decide +kernel), by decide +kernel⟩, ⟨by decide +kernel, by decide +kernel, by decide +kernel⟩, by decide⟩
theorem km_X6_chosen : kMe mX6_chosen 0 := ⟨⟨List.mem_of_getElem? (i := 475) (by decide +kernel), by decide +kernel⟩, ⟨List.mem_of_getElem? (i := 54) (by decide +kernel), by decide +kernel⟩, ⟨by decide +kernel, by decide +kernel, by decide +kernel⟩, by decide⟩
theorem km_X6_clear : kMe mX6_clear 0 := ⟨⟨List.mem_of_getElem? (i := 299) (by decide +kernel), by decide +kernel⟩, ⟨List.mem_of_getElem? (i := 54) (by decide +kernel), by decide +kernel⟩, ⟨by decide +kernel, by decide +kernel, by decide +kernel⟩, by decide⟩
theorem km_X6_copy : kMe mX6_copy 2 := ⟨⟨List.mem_of_getElem? (i := 556) (by decide +kernel), by decide +kernel⟩, ⟨List.mem_of_getElem? (i := 54) (by decide +kernel), by decide +kernel⟩, ⟨by decide +kernel, by decide +kernel, by decide +kernel⟩, by decide⟩
theorem km_X6_count : kMe mX6_count 1 := ⟨⟨List.mem_of_getElem? (i := 677) (by decide +kernel), by decide +kernel⟩, ⟨List.mem_of_getElem? (i := 54) (by decide +kernel), by decide +kernel⟩, ⟨by decide +kernel, by decide +kernel, by decide +kernel⟩, by decide⟩
theorem km_X6_days : kMe mX6_days 4 := ⟨⟨List.mem_of_getElem? (i := 596) (by decide +kernel), by decide +kernel⟩, ⟨List.mem_of_getElem? (i := 54) (by decide +kernel), by decide +kernel⟩, ⟨by decide +kernel, by decide +kernel, by decide +kernel⟩, by decide⟩
theorem km_X6_fill : kMe mX6_fill 2 := ⟨⟨List.mem_of_getElem? (i := 203) (by decide +kernel), by decide +kernel⟩, ⟨List.mem_of_getElem? (i := 54) (by decide +kernel), by decide +kernel⟩, ⟨by decide +kernel, by decide +kernel, by decide +kernel⟩, by decide⟩
theorem km_X6_go : kMe mX6_go 1 := ⟨⟨List.mem_of_getElem? (i := 511) (by decide +kernel), by decide +kernel⟩, ⟨List.mem_of_getElem? (i := 54) (by decide +kernel), by decide +kernel⟩, ⟨by decide +kernel, by decide +kernel, by decide +kernel⟩, by decide⟩
theorem km_X6_imageOf : kMe mX6_imageOf 1 := ⟨⟨List.mem_of_getElem? (i := 668) (by decide +kernel), by decide +kernel⟩, ⟨List.mem_of_getElem? (i := 54) (by decide +kernel), by decide +kernel⟩, ⟨by decide +kernel, by decide +kernel, by decide +kernel⟩, by decide⟩
theorem km_X6_init : kMe mX6_init 0 := ⟨⟨List.mem_of_getElem? (i := 72) (by decide +kernel), by decide +kernel⟩, ⟨List.mem_of_getElem? (i := 54) (by decide +kernel), by decide +kernel⟩, ⟨by decide +kernel, by decide +kernel, by decide +kernel⟩, by decide⟩
theorem km_X6_introduce : kMe mX6_introduce 3 := ⟨⟨List.mem_of_getElem? (i := 502) (by decide +kernel), by decide +kernel⟩, ⟨List.mem_of_getElem? (i := 54) (by decide +kernel), by decide +kernel⟩, ⟨by decide +kernel, by decide +kernel, by decide +kernel⟩, by decide⟩
theorem km_X6_isChoice : kMe mX6_isChoice 1 := ⟨⟨List.mem_of_getElem? (i := 578) (by decide +kernel), by decide +kernel⟩, ⟨List.mem_of_getElem? (i := 54) (by decide +kernel), by decide +kernel⟩, ⟨by decide +kernel, by decide +kernel, by decide +kernel⟩, by decide⟩
theorem km_X6_isPair : kMe mX6_isPair 2 := ⟨⟨List.mem_of_getElem? (i := 436) (by decide +kernel), by decide +kernel⟩, ⟨List.mem_of_getElem? (i := 54) (by decide +kernel), by decide +kernel⟩, ⟨by decide +kernel, by decide +kernel, by decide +kernel⟩, by decide⟩
theorem km_X6_isPerson : kMe mX6_isPerson 1 := ⟨⟨List.mem_of_getElem? (i := 440) (by decide +kernel), by decide +kernel⟩, ⟨List.mem_of_getElem? (i := 54) (by decide +kernel), by decide +kernel⟩, ⟨by decide +kernel, by decide +kernel, by decide +kernel⟩, by decide⟩
theorem km_X6_keep : kMe mX6_keep 1 := ⟨⟨List.mem_of_getElem? (i := 664) (by decide +kernel), by decide +kernel⟩, ⟨List.mem_of_getElem? (i := 54) (by decide +kernel), by decide +kernel⟩, ⟨by decide +kernel, by decide +kernel, by decide +kernel⟩, by decide⟩
theorem km_X6_knows : kMe mX6_knows 2 := ⟨⟨List.mem_of_getElem? (i := 432) (by decide +kernel), by decide +kernel⟩, ⟨List.mem_of_getElem? (i := 54) (by decide +kernel), by decide +kernel⟩, ⟨by decide +kernel, by decide +kernel, by decide +kernel⟩, by decide⟩
theorem km_X6_law : kMe mX6_law 1 := ⟨⟨List.mem_of_getElem? (i := 467) (by decide +kernel), by decide +kernel⟩, ⟨List.mem_of_getElem? (i := 54) (by decide +kernel), by decide +kernel⟩, ⟨by decide +kernel, by decide +kernel, by decide +kernel⟩, by decide⟩
theorem km_X6_meet : kMe mX6_meet 2 := ⟨⟨List.mem_of_getElem? (i := 494) (by decide +kernel), by decide +kernel⟩, ⟨List.mem_of_getElem? (i := 54) (by decide +kernel), by decide +kernel⟩, ⟨by decide +kernel, by decide +kernel, by decide +kernel⟩, by decide⟩
theorem km_X6_moves : kMe mX6_moves 1 := ⟨⟨List.mem_of_getElem? (i := 506) (by decide +kernel), by decide +kernel⟩, ⟨List.mem_of_getElem? (i := 54) (by decide +kernel), by decide +kernel⟩, ⟨by decide +kernel, by decide +kernel, by decide +kernel⟩, by decide⟩
theorem km_X6_now : kMe mX6_now 1 := ⟨⟨List.mem_of_getElem? (i := 533) (by decide +kernel), by decide +kernel⟩, ⟨List.mem_of_getElem? (i := 54) (by decide +kernel), by decide +kernel⟩, ⟨by decide +kernel, by decide +kernel, by decide +kernel⟩, by decide⟩
theorem km_X6_parties : kMe mX6_parties 1 := ⟨⟨List.mem_of_getElem? (i := 626) (by decide +kernel), by decide +kernel⟩, ⟨List.mem_of_getElem? (i := 54) (by decide +kernel), by decide +kernel⟩, ⟨by decide +kernel, by decide +kernel, by decide +kernel⟩, by decide⟩
theorem km_X6_party : kMe mX6_party 1 := ⟨⟨List.mem_of_getElem? (i := 617) (by decide +kernel), by decide +kernel⟩, ⟨List.mem_of_getElem? (i := 54) (by decide +kernel), by decide +kernel⟩, ⟨by decide +kernel, by decide +kernel, by decide +kernel⟩, by decide⟩
theorem km_X6_person : kMe mX6_person 2 := ⟨⟨List.mem_of_getElem? (i := 457) (by decide +kernel), by decide +kernel⟩, ⟨List.mem_of_getElem? (i := 54) (by decide +kernel), by decide +kernel⟩, ⟨by decide +kernel, by decide +kernel, by decide +kernel⟩, by decide⟩
theorem km_X6_put : kMe mX6_put 3 := ⟨⟨List.mem_of_getElem? (i := 251) (by decide +kernel), by decide +kernel⟩, ⟨List.mem_of_getElem? (i := 54) (by decide +kernel), by decide +kernel⟩, ⟨by decide +kernel, by decide +kernel, by decide +kernel⟩, by decide⟩
theorem km_X6_rate : kMe mX6_rate 2 := ⟨⟨List.mem_of_getElem? (i := 631) (by decide +kernel), by decide +kernel⟩, ⟨List.mem_of_getElem? (i := 54) (by decide +kernel), by decide +kernel⟩, ⟨by decide +kernel, by decide +kernel, by decide +kernel⟩, by decide⟩
theorem km_X6_reigns : kMe mX6_reigns 1 := ⟨⟨List.mem_of_getElem? (i := 545) (by decide +kernel), by decide +kernel⟩, ⟨List.mem_of_getElem? (i := 54) (by decide +kernel), by decide +kernel⟩, ⟨by decide +kernel, by decide +kernel, by decide +kernel⟩, by decide⟩
theorem km_X6_ring : kMe mX6_ring 0 := ⟨⟨List.mem_of_getElem? (i := 561) (by decide +kernel), by decide +kernel⟩, ⟨List.mem_of_getElem? (i := 54) (by decide +kernel), by decide +kernel⟩, ⟨by decide +kernel, by decide +kernel, by decide +kernel⟩, by decide⟩
theorem km_X6_rules : kMe mX6_rules 2 := ⟨⟨List.mem_of_getElem? (i := 471) (by decide +kernel), by decide +kernel⟩, ⟨List.mem_of_getElem? (i := 54) (by decide +kernel), by decide +kernel⟩, ⟨by decide +kernel, by decide +kernel, by decide +kernel⟩, by decide⟩
theorem km_X6_seen : kMe mX6_seen 2 := ⟨⟨List.mem_of_getElem? (i := 448) (by decide +kernel), by decide +kernel⟩, ⟨List.mem_of_getElem? (i := 54) (by decide +kernel), by decide +kernel⟩, ⟨by decide +kernel, by decide +kernel, by decide +kernel⟩, by decide⟩
theorem km_X6_town : kMe mX6_town 0 := ⟨⟨List.mem_of_getElem? (i := 303) (by decide +kernel), by decide +kernel⟩, ⟨List.mem_of_getElem? (i := 54) (by decide +kernel), by decide +kernel⟩, ⟨by decide +kernel, by decide +kernel, by decide +kernel⟩, by decide⟩
theorem km_X6_trace : kMe mX6_trace 0 := ⟨⟨List.mem_of_getElem? (i := 685) (by decide +kernel), by decide +kernel⟩, ⟨List.mem_of_getElem? (i := 54) (by decide +kernel), by decide +kernel⟩, ⟨by decide +kernel, by decide +kernel, by decide +kernel⟩, by decide⟩
theorem km_X6_type : kMe mX6_type 2 := ⟨⟨List.mem_of_getElem? (i := 290) (by decide +kernel), by decide +kernel⟩, ⟨List.mem_of_getElem? (i := 54) (by decide +kernel), by decide +kernel⟩, ⟨by decide +kernel, by decide +kernel, by decide +kernel⟩, by decide⟩
theorem km_X7_acts : kMe mX7_acts 3 := ⟨⟨List.mem_of_getElem? (i := 986) (by decide +kernel), by decide +kernel⟩, ⟨List.mem_of_getElem? (i := 62) (by decide +kernel), by decide +kernel⟩, ⟨by decide +kernel, by decide +kernel, by decide +kernel⟩, by decide⟩
theorem km_X7_add : kMe mX7_add 2 := ⟨⟨List.mem_of_getElem? (i := 811) (by decide +kernel), by decide +kernel⟩, ⟨List.mem_of_getElem? (i := 62) (by decide +kernel), by decide +kernel⟩, ⟨by decide +kernel, by decide +kernel, by decide +kernel⟩, by decide⟩
theorem km_X7_advances : kMe mX7_advances 0 := ⟨⟨List.mem_of_getElem? (i := 804) (by decide +kernel), by decide +kernel⟩, ⟨List.mem_of_getElem? (i := 62) (by decide +kernel), by decide +kernel⟩, ⟨by decide +kernel, by decide +kernel, by decide +kernel⟩, by decide⟩
theorem km_X7_anew : kMe mX7_anew 0 := ⟨⟨List.mem_of_getElem? (i := 926) (by decide +kernel), by decide +kernel⟩, ⟨List.mem_of_getElem? (i := 62) (by decide +kernel), by decide +kernel⟩, ⟨by decide +kernel, by decide +kernel, by decide +kernel⟩, by decide⟩
theorem km_X7_areTwo : kMe mX7_areTwo 2 := ⟨⟨List.mem_of_getElem? (i := 846) (by decide +kernel), by decide +kernel⟩, ⟨List.mem_of_getElem? (i := 62) (by decide +kernel), by decide +kernel⟩, ⟨by decide +kernel, by decide +kernel, by decide +kernel⟩, by decide⟩
theorem km_X7_aside : kMe mX7_aside 1 := ⟨⟨List.mem_of_getElem? (i := 934) (by decide +kernel), by decide +kernel⟩, ⟨List.mem_of_getElem? (i := 62) (by decide +kernel), by decide +kernel⟩, ⟨by decide +kernel, by decide +kernel, by decide +kernel⟩, by decide⟩
theorem km_X7_asideOf : kMe mX7_asideOf 2 := ⟨⟨List.mem_of_getElem? (i := 978) (by decide +kernel), by decide +kernel⟩, ⟨List.mem_of_getElem? (i := 62) (by decide +kernel), by decide +kernel⟩, ⟨by decide +kernel, by decide +kernel, by decide +kernel⟩, by decide⟩
theorem km_X7_asks : kMe mX7_asks 2 := ⟨⟨List.mem_of_getElem? (i := 990) (by decide +kernel), by decide +kernel⟩, ⟨List.mem_of_getElem? (i := 62) (by decide +kernel), by decide +kernel⟩, ⟨by decide +kernel, by decide +kernel, by decide +kernel⟩, by decide⟩
theorem km_X7_back : kMe mX7_back 1 := ⟨⟨List.mem_of_getElem? (i := 1019) (by decide +kernel), by decide +kernel⟩, ⟨List.mem_of_getElem? (i := 62) (by decide +kernel), by decide +kernel⟩, ⟨by decide +kernel, by decide +kernel, by decide +kernel⟩, by decide⟩
theorem km_X7_begins : kMe mX7_begins 0 := ⟨⟨List.mem_of_getElem? (i := 695) (by decide +kernel), by decide +kernel⟩, ⟨List.mem_of_getElem? (i := 62) (by decide +kernel), by decide +kernel⟩, ⟨by decide +kernel, by decide +kernel, by decide +kernel⟩, by decide⟩
theorem km_X7_brings : kMe mX7_brings 3 := ⟨⟨List.mem_of_getElem? (i := 942) (by decide +kernel), by decide +kernel⟩, ⟨List.mem_of_getElem? (i := 62) (by decide +kernel), by decide +kernel⟩, ⟨by decide +kernel, by decide +kernel, by decide +kernel⟩, by decide⟩
theorem km_X7_bringsBy : kMe mX7_bringsBy 3 := ⟨⟨List.mem_of_getElem? (i := 946) (by decide +kernel), by decide +kernel⟩, ⟨List.mem_of_getElem? (i := 62) (by decide +kernel), by decide +kernel⟩, ⟨by decide +kernel, by decide +kernel, by decide +kernel⟩, by decide⟩
theorem km_X7_byteAt : kMe mX7_byteAt 1 := ⟨⟨List.mem_of_getElem? (i := 808) (by decide +kernel), by decide +kernel⟩, ⟨List.mem_of_getElem? (i := 62) (by decide +kernel), by decide +kernel⟩, ⟨by decide +kernel, by decide +kernel, by decide +kernel⟩, by decide⟩
theorem km_X7_chosen : kMe mX7_chosen 0 := ⟨⟨List.mem_of_getElem? (i := 882) (by decide +kernel), by decide +kernel⟩, ⟨List.mem_of_getElem? (i := 62) (by decide +kernel), by decide +kernel⟩, ⟨by decide +kernel, by decide +kernel, by decide +kernel⟩, by decide⟩
theorem km_X7_chosenNow : kMe mX7_chosenNow 0 := ⟨⟨List.mem_of_getElem? (i := 886) (by decide +kernel), by decide +kernel⟩, ⟨List.mem_of_getElem? (i := 62) (by decide +kernel), by decide +kernel⟩, ⟨by decide +kernel, by decide +kernel, by decide +kernel⟩, by decide⟩
theorem km_X7_clear : kMe mX7_clear 0 := ⟨⟨List.mem_of_getElem? (i := 796) (by decide +kernel), by decide +kernel⟩, ⟨List.mem_of_getElem? (i := 62) (by decide +kernel), by decide +kernel⟩, ⟨by decide +kernel, by decide +kernel, by decide +kernel⟩, by decide⟩
theorem km_X7_count : kMe mX7_count 1 := ⟨⟨List.mem_of_getElem? (i := 1023) (by decide +kernel), by decide +kernel⟩, ⟨List.mem_of_getElem? (i := 62) (by decide +kernel), by decide +kernel⟩, ⟨by decide +kernel, by decide +kernel, by decide +kernel⟩, by decide⟩
theorem km_X7_countAll : kMe mX7_countAll 0 := ⟨⟨List.mem_of_getElem? (i := 922) (by decide +kernel), by decide +kernel⟩, ⟨List.mem_of_getElem? (i := 62) (by decide +kernel), by decide +kernel⟩, ⟨by decide +kernel, by decide +kernel, by decide +kernel⟩, by decide⟩
theorem km_X7_countOf : kMe mX7_countOf 1 := ⟨⟨List.mem_of_getElem? (i := 867) (by decide +kernel), by decide +kernel⟩, ⟨List.mem_of_getElem? (i := 62) (by decide +kernel), by decide +kernel⟩, ⟨by decide +kernel, by decide +kernel, by decide +kernel⟩, by decide⟩
theorem km_X7_days : kMe mX7_days 4 := ⟨⟨List.mem_of_getElem? (i := 962) (by decide +kernel), by decide +kernel⟩, ⟨List.mem_of_getElem? (i := 62) (by decide +kernel), by decide +kernel⟩, ⟨by decide +kernel, by decide +kernel, by decide +kernel⟩, by decide⟩
theorem km_X7_firstDay : kMe mX7_firstDay 3 := ⟨⟨List.mem_of_getElem? (i := 966) (by decide +kernel), by decide +kernel⟩, ⟨List.mem_of_getElem? (i := 62) (by decide +kernel), by decide +kernel⟩, ⟨by decide +kernel, by decide +kernel, by decide +kernel⟩, by decide⟩
theorem km_X7_go : kMe mX7_go 1 := ⟨⟨List.mem_of_getElem? (i := 910) (by decide +kernel), by decide +kernel⟩, ⟨List.mem_of_getElem? (i := 62) (by decide +kernel), by decide +kernel⟩, ⟨by decide +kernel, by decide +kernel, by decide +kernel⟩, by decide⟩
theorem km_X7_in : kMe mX7_in 3 := ⟨⟨List.mem_of_getElem? (i := 791) (by decide +kernel), by decide +kernel⟩, ⟨List.mem_of_getElem? (i := 62) (by decide +kernel), by decide +kernel⟩, ⟨by decide +kernel, by decide +kernel, by decide +kernel⟩, by decide⟩
theorem km_X7_init : kMe mX7_init 0 := ⟨⟨List.mem_of_getElem? (i := 690) (by decide +kernel), by decide +kernel⟩, ⟨List.mem_of_getElem? (i := 62) (by decide +kernel), by decide +kernel⟩, ⟨by decide +kernel, by decide +kernel, by decide +kernel⟩, by decide⟩
theorem km_X7_introduce : kMe mX7_introduce 3 := ⟨⟨List.mem_of_getElem? (i := 902) (by decide +kernel), by decide +kernel⟩, ⟨List.mem_of_getElem? (i := 62) (by decide +kernel), by decide +kernel⟩, ⟨by decide +kernel, by decide +kernel, by decide +kernel⟩, by decide⟩
theorem km_X7_isKnown : kMe mX7_isKnown 2 := ⟨⟨List.mem_of_getElem? (i := 854) (by decide +kernel), by decide +kernel⟩, ⟨List.mem_of_getElem? (i := 62) (by decide +kernel), by decide +kernel⟩, ⟨by decide +kernel, by decide +kernel, by decide +kernel⟩, by decide⟩
theorem km_X7_isParty : kMe mX7_isParty 1 := ⟨⟨List.mem_of_getElem? (i := 998) (by decide +kernel), by decide +kernel⟩, ⟨List.mem_of_getElem? (i := 62) (by decide +kernel), by decide +kernel⟩, ⟨by decide +kernel, by decide +kernel, by decide +kernel⟩, by decide⟩
theorem km_X7_isPerson : kMe mX7_isPerson 1 := ⟨⟨List.mem_of_getElem? (i := 850) (by decide +kernel), by decide +kernel⟩, ⟨List.mem_of_getElem? (i := 62) (by decide +kernel), by decide +kernel⟩, ⟨by decide +kernel, by decide +kernel, by decide +kernel⟩, by decide⟩
theorem km_X7_isSo : kMe mX7_isSo 2 := ⟨⟨List.mem_of_getElem? (i := 958) (by decide +kernel), by decide +kernel⟩, ⟨List.mem_of_getElem? (i := 62) (by decide +kernel), by decide +kernel⟩, ⟨by decide +kernel, by decide +kernel, by decide +kernel⟩, by decide⟩
theorem km_X7_isWell : kMe mX7_isWell 0 := ⟨⟨List.mem_of_getElem? (i := 822) (by decide +kernel), by decide +kernel⟩, ⟨List.mem_of_getElem? (i := 62) (by decide +kernel), by decide +kernel⟩, ⟨by decide +kernel, by decide +kernel, by decide +kernel⟩, by decide⟩
theorem km_X7_keep : kMe mX7_keep 1 := ⟨⟨List.mem_of_getElem? (i := 1015) (by decide +kernel), by decide +kernel⟩, ⟨List.mem_of_getElem? (i := 62) (by decide +kernel), by decide +kernel⟩, ⟨by decide +kernel, by decide +kernel, by decide +kernel⟩, by decide⟩
theorem km_X7_knows : kMe mX7_knows 2 := ⟨⟨List.mem_of_getElem? (i := 842) (by decide +kernel), by decide +kernel⟩, ⟨List.mem_of_getElem? (i := 62) (by decide +kernel), by decide +kernel⟩, ⟨by decide +kernel, by decide +kernel, by decide +kernel⟩, by decide⟩
theorem km_X7_lastButOne : kMe mX7_lastButOne 4 := ⟨⟨List.mem_of_getElem? (i := 970) (by decide +kernel), by decide +kernel⟩, ⟨List.mem_of_getElem? (i := 62) (by decide +kernel), by decide +kernel⟩, ⟨by decide +kernel, by decide +kernel, by decide +kernel⟩, by decide⟩
theorem km_X7_lastDay : kMe mX7_lastDay 3 := ⟨⟨List.mem_of_getElem? (i := 974) (by decide +kernel), by decide +kernel⟩, ⟨List.mem_of_getElem? (i := 62) (by decide +kernel), by decide +kernel⟩, ⟨by decide +kernel, by decide +kernel, by decide +kernel⟩, by decide⟩
theorem km_X7_law : kMe mX7_law 1 := ⟨⟨List.mem_of_getElem? (i := 874) (by decide +kernel), by decide +kernel⟩, ⟨List.mem_of_getElem? (i := 62) (by decide +kernel), by decide +kernel⟩, ⟨by decide +kernel, by decide +kernel, by decide +kernel⟩, by decide⟩
theorem km_X7_learns : kMe mX7_learns 2 := ⟨⟨List.mem_of_getElem? (i := 898) (by decide +kernel), by decide +kernel⟩, ⟨List.mem_of_getElem? (i := 62) (by decide +kernel), by decide +kernel⟩, ⟨by decide +kernel, by decide +kernel, by decide +kernel⟩, by decide⟩
theorem km_X7_leastOf : kMe mX7_leastOf 1 := ⟨⟨List.mem_of_getElem? (i := 890) (by decide +kernel), by decide +kernel⟩, ⟨List.mem_of_getElem? (i := 62) (by decide +kernel), by decide +kernel⟩, ⟨by decide +kernel, by decide +kernel, by decide +kernel⟩, by decide⟩
theorem km_X7_meet : kMe mX7_meet 2 := ⟨⟨List.mem_of_getElem? (i := 894) (by decide +kernel), by decide +kernel⟩, ⟨List.mem_of_getElem? (i := 62) (by decide +kernel), by decide +kernel⟩, ⟨by decide +kernel, by decide +kernel, by decide +kernel⟩, by decide⟩
theorem km_X7_meets : kMe mX7_meets 1 := ⟨⟨List.mem_of_getElem? (i := 954) (by decide +kernel), by decide +kernel⟩, ⟨List.mem_of_getElem? (i := 62) (by decide +kernel), by decide +kernel⟩, ⟨by decide +kernel, by decide +kernel, by decide +kernel⟩, by decide⟩
theorem km_X7_moves : kMe mX7_moves 1 := ⟨⟨List.mem_of_getElem? (i := 906) (by decide +kernel), by decide +kernel⟩, ⟨List.mem_of_getElem? (i := 62) (by decide +kernel), by decide +kernel⟩, ⟨by decide +kernel, by decide +kernel, by decide +kernel⟩, by decide⟩
theorem km_X7_named : kMe mX7_named 6 := ⟨⟨List.mem_of_getElem? (i := 818) (by decide +kernel), by decide +kernel⟩, ⟨List.mem_of_getElem? (i := 62) (by decide +kernel), by decide +kernel⟩, ⟨by decide +kernel, by decide +kernel, by decide +kernel⟩, by decide⟩
theorem km_X7_nextPair : kMe mX7_nextPair 1 := ⟨⟨List.mem_of_getElem? (i := 950) (by decide +kernel), by decide +kernel⟩, ⟨List.mem_of_getElem? (i := 62) (by decide +kernel), by decide +kernel⟩, ⟨by decide +kernel, by decide +kernel, by decide +kernel⟩, by decide⟩
theorem km_X7_now : kMe mX7_now 1 := ⟨⟨List.mem_of_getElem? (i := 918) (by decide +kernel), by decide +kernel⟩, ⟨List.mem_of_getElem? (i := 62) (by decide +kernel), by decide +kernel⟩, ⟨by decide +kernel, by decide +kernel, by decide +kernel⟩, by decide⟩
theorem km_X7_number : kMe mX7_number 2 := ⟨⟨List.mem_of_getElem? (i := 834) (by decide +kernel), by decide +kernel⟩, ⟨List.mem_of_getElem? (i := 62) (by decide +kernel), by decide +kernel⟩, ⟨by decide +kernel, by decide +kernel, by decide +kernel⟩, by decide⟩
theorem km_X7_ones : kMe mX7_ones 1 := ⟨⟨List.mem_of_getElem? (i := 870) (by decide +kernel), by decide +kernel⟩, ⟨List.mem_of_getElem? (i := 62) (by decide +kernel), by decide +kernel⟩, ⟨by decide +kernel, by decide +kernel, by decide +kernel⟩, by decide⟩
theorem km_X7_parties : kMe mX7_parties 1 := ⟨⟨List.mem_of_getElem? (i := 1002) (by decide +kernel), by decide +kernel⟩, ⟨List.mem_of_getElem? (i := 62) (by decide +kernel), by decide +kernel⟩, ⟨by decide +kernel, by decide +kernel, by decide +kernel⟩, by decide⟩
theorem km_X7_party : kMe mX7_party 1 := ⟨⟨List.mem_of_getElem? (i := 994) (by decide +kernel), by decide +kernel⟩, ⟨List.mem_of_getElem? (i := 62) (by decide +kernel), by decide +kernel⟩, ⟨by decide +kernel, by decide +kernel, by decide +kernel⟩, by decide⟩
theorem km_X7_person : kMe mX7_person 2 := ⟨⟨List.mem_of_getElem? (i := 863) (by decide +kernel), by decide +kernel⟩, ⟨List.mem_of_getElem? (i := 62) (by decide +kernel), by decide +kernel⟩, ⟨by decide +kernel, by decide +kernel, by decide +kernel⟩, by decide⟩
theorem km_X7_rate : kMe mX7_rate 2 := ⟨⟨List.mem_of_getElem? (i := 1006) (by decide +kernel), by decide +kernel⟩, ⟨List.mem_of_getElem? (i := 62) (by decide +kernel), by decide +kernel⟩, ⟨by decide +kernel, by decide +kernel, by decide +kernel⟩, by decide⟩
theorem km_X7_readsItem : kMe mX7_readsItem 1 := ⟨⟨List.mem_of_getElem? (i := 830) (by decide +kernel), by decide +kernel⟩, ⟨List.mem_of_getElem? (i := 62) (by decide +kernel), by decide +kernel⟩, ⟨by decide +kernel, by decide +kernel, by decide +kernel⟩, by decide⟩
theorem km_X7_readsTwo : kMe mX7_readsTwo 1 := ⟨⟨List.mem_of_getElem? (i := 838) (by decide +kernel), by decide +kernel⟩, ⟨List.mem_of_getElem? (i := 62) (by decide +kernel), by decide +kernel⟩, ⟨by decide +kernel, by decide +kernel, by decide +kernel⟩, by decide⟩
theorem km_X7_reigns : kMe mX7_reigns 1 := ⟨⟨List.mem_of_getElem? (i := 930) (by decide +kernel), by decide +kernel⟩, ⟨List.mem_of_getElem? (i := 62) (by decide +kernel), by decide +kernel⟩, ⟨by decide +kernel, by decide +kernel, by decide +kernel⟩, by decide⟩
theorem km_X7_ring : kMe mX7_ring 0 := ⟨⟨List.mem_of_getElem? (i := 938) (by decide +kernel), by decide +kernel⟩, ⟨List.mem_of_getElem? (i := 62) (by decide +kernel), by decide +kernel⟩, ⟨by decide +kernel, by decide +kernel, by decide +kernel⟩, by decide⟩
theorem km_X7_rules : kMe mX7_rules 2 := ⟨⟨List.mem_of_getElem? (i := 878) (by decide +kernel), by decide +kernel⟩, ⟨List.mem_of_getElem? (i := 62) (by decide +kernel), by decide +kernel⟩, ⟨by decide +kernel, by decide +kernel, by decide +kernel⟩, by decide⟩
theorem km_X7_seen : kMe mX7_seen 2 := ⟨⟨List.mem_of_getElem? (i := 858) (by decide +kernel), by decide +kernel⟩, ⟨List.mem_of_getElem? (i := 62) (by decide +kernel), by decide +kernel⟩, ⟨by decide +kernel, by decide +kernel, by decide +kernel⟩, by decide⟩
theorem km_X7_springs : kMe mX7_springs 0 := ⟨⟨List.mem_of_getElem? (i := 914) (by decide +kernel), by decide +kernel⟩, ⟨List.mem_of_getElem? (i := 62) (by decide +kernel), by decide +kernel⟩, ⟨by decide +kernel, by decide +kernel, by decide +kernel⟩, by decide⟩
theorem km_X7_takes : kMe mX7_takes 1 := ⟨⟨List.mem_of_getElem? (i := 826) (by decide +kernel), by decide +kernel⟩, ⟨List.mem_of_getElem? (i := 62) (by decide +kernel), by decide +kernel⟩, ⟨by decide +kernel, by decide +kernel, by decide +kernel⟩, by decide⟩
theorem km_X7_town : kMe mX7_town 0 := ⟨⟨List.mem_of_getElem? (i := 800) (by decide +kernel), by decide +kernel⟩, ⟨List.mem_of_getElem? (i := 62) (by decide +kernel), by decide +kernel⟩, ⟨by decide +kernel, by decide +kernel, by decide +kernel⟩, by decide⟩
theorem km_X7_trace : kMe mX7_trace 0 := ⟨⟨List.mem_of_getElem? (i := 1027) (by decide +kernel), by decide +kernel⟩, ⟨List.mem_of_getElem? (i := 62) (by decide +kernel), by decide +kernel⟩, ⟨by decide +kernel, by decide +kernel, by decide +kernel⟩, by decide⟩
theorem km_X7_type : kMe mX7_type 2 := ⟨⟨List.mem_of_getElem? (i := 788) (by decide +kernel), by decide +kernel⟩, ⟨List.mem_of_getElem? (i := 62) (by decide +kernel), by decide +kernel⟩, ⟨by decide +kernel, by decide +kernel, by decide +kernel⟩, by decide⟩
theorem km_X7_whoOf : kMe mX7_whoOf 2 := ⟨⟨List.mem_of_getElem? (i := 982) (by decide +kernel), by decide +kernel⟩, ⟨List.mem_of_getElem? (i := 62) (by decide +kernel), by decide +kernel⟩, ⟨by decide +kernel, by decide +kernel, by decide +kernel⟩, by decide⟩
theorem km_X7_wordOf : kMe mX7_wordOf 1 := ⟨⟨List.mem_of_getElem? (i := 815) (by decide +kernel), by decide +kernel⟩, ⟨List.mem_of_getElem? (i := 62) (by decide +kernel), by decide +kernel⟩, ⟨by decide +kernel, by decide +kernel, by decide +kernel⟩, by decide⟩
theorem kw_intArray : kW (Cond.arrayClass .int) := ⟨List.mem_of_getElem? (i := 91) (by decide +kernel), by decide +kernel⟩
theorem kw_boolArray : kW (Cond.arrayClass .boolean) := ⟨List.mem_of_getElem? (i := 784) (by decide +kernel), by decide +kernel⟩
theorem kl_J6_265 : kW (Cond.constant RJ6 265 (1431655765)) := ⟨List.mem_of_getElem? (i := 255) (by decide +kernel), by decide +kernel⟩
theorem kl_J6_266 : kW (Cond.constant RJ6 266 (858993459)) := ⟨List.mem_of_getElem? (i := 256) (by decide +kernel), by decide +kernel⟩
theorem kl_J6_267 : kW (Cond.constant RJ6 267 (252645135)) := ⟨List.mem_of_getElem? (i := 257) (by decide +kernel), by decide +kernel⟩
theorem kn_L_7 : kNew RL 7 6 9 [.null, .null, .null, .null, .null, .null, .null, .null, .long 0] := ⟨_, _, _, kcl_6, ⟨List.mem_of_getElem? (i := 68) (by decide +kernel), by decide +kernel⟩, ⟨List.mem_of_getElem? (i := 69) (by decide +kernel), by decide +kernel⟩, ⟨List.mem_of_getElem? (i := 54) (by decide +kernel), by decide +kernel⟩, by decide +kernel⟩
theorem kc_L_9 : kCI RL 9 mX6_init 0 := ⟨km_X6_init, ⟨List.mem_of_getElem? (i := 70) (by decide +kernel), by decide +kernel⟩, ⟨List.mem_of_getElem? (i := 71) (by decide +kernel), by decide +kernel⟩, rfl, rfl⟩
theorem kn_L_10 : kNew RL 10 7 29 [.int 0, .long 0, .null, .int 0, .int 0, .int 0, .int 0, .int 0, .int 0, .null, .null, .int 0, .int 0, .int 0, .int 0, .int 0, .int 0, .int 0, .int 0, .int 0, .int 0, .null, .null, .null, .null, .null, .null, .null, .null] := ⟨_, _, _, kcl_7, ⟨List.mem_of_getElem? (i := 686) (by decide +kernel), by decide +kernel⟩, ⟨List.mem_of_getElem? (i := 687) (by decide +kernel), by decide +kernel⟩, ⟨List.mem_of_getElem? (i := 62) (by decide +kernel), by decide +kernel⟩, by decide +kernel⟩
theorem kc_L_12 : kCI RL 12 mX7_init 0 := ⟨km_X7_init, ⟨List.mem_of_getElem? (i := 688) (by decide +kernel), by decide +kernel⟩, ⟨List.mem_of_getElem? (i := 689) (by decide +kernel), by decide +kernel⟩, rfl, rfl⟩
theorem kl_L_13 : kW (Cond.constantLong RL 13 (4294967295)) := ⟨List.mem_of_getElem? (i := 1028) (by decide +kernel), by decide +kernel⟩
theorem kc_L_15 : kCV RL 15 mX6_type 2 := ⟨km_X6_type, ⟨List.mem_of_getElem? (i := 287) (by decide +kernel), by decide +kernel⟩, ⟨List.mem_of_getElem? (i := 288) (by decide +kernel), by decide +kernel⟩, ⟨List.mem_of_getElem? (i := 289) (by decide +kernel), by decide +kernel⟩⟩
theorem kc_L_19 : kCV RL 19 mX7_type 2 := ⟨km_X7_type, ⟨List.mem_of_getElem? (i := 785) (by decide +kernel), by decide +kernel⟩, ⟨List.mem_of_getElem? (i := 786) (by decide +kernel), by decide +kernel⟩, ⟨List.mem_of_getElem? (i := 787) (by decide +kernel), by decide +kernel⟩⟩
theorem kc_L_20 : kCV RL 20 mX6_clear 0 := ⟨km_X6_clear, ⟨List.mem_of_getElem? (i := 296) (by decide +kernel), by decide +kernel⟩, ⟨List.mem_of_getElem? (i := 297) (by decide +kernel), by decide +kernel⟩, ⟨List.mem_of_getElem? (i := 298) (by decide +kernel), by decide +kernel⟩⟩
theorem kc_L_24 : kCV RL 24 mX7_clear 0 := ⟨km_X7_clear, ⟨List.mem_of_getElem? (i := 793) (by decide +kernel), by decide +kernel⟩, ⟨List.mem_of_getElem? (i := 794) (by decide +kernel), by decide +kernel⟩, ⟨List.mem_of_getElem? (i := 795) (by decide +kernel), by decide +kernel⟩⟩
theorem kc_L_25 : kCV RL 25 mX6_town 0 := ⟨km_X6_town, ⟨List.mem_of_getElem? (i := 300) (by decide +kernel), by decide +kernel⟩, ⟨List.mem_of_getElem? (i := 301) (by decide +kernel), by decide +kernel⟩, ⟨List.mem_of_getElem? (i := 302) (by decide +kernel), by decide +kernel⟩⟩
theorem kc_L_28 : kCV RL 28 mX7_town 0 := ⟨km_X7_town, ⟨List.mem_of_getElem? (i := 797) (by decide +kernel), by decide +kernel⟩, ⟨List.mem_of_getElem? (i := 798) (by decide +kernel), by decide +kernel⟩, ⟨List.mem_of_getElem? (i := 799) (by decide +kernel), by decide +kernel⟩⟩
theorem kc_L_29 : kCV RL 29 mX6_knows 2 := ⟨km_X6_knows, ⟨List.mem_of_getElem? (i := 429) (by decide +kernel), by decide +kernel⟩, ⟨List.mem_of_getElem? (i := 430) (by decide +kernel), by decide +kernel⟩, ⟨List.mem_of_getElem? (i := 431) (by decide +kernel), by decide +kernel⟩⟩
theorem kc_L_33 : kCV RL 33 mX7_knows 2 := ⟨km_X7_knows, ⟨List.mem_of_getElem? (i := 839) (by decide +kernel), by decide +kernel⟩, ⟨List.mem_of_getElem? (i := 840) (by decide +kernel), by decide +kernel⟩, ⟨List.mem_of_getElem? (i := 841) (by decide +kernel), by decide +kernel⟩⟩
theorem kc_L_34 : kCV RL 34 mX6_seen 2 := ⟨km_X6_seen, ⟨List.mem_of_getElem? (i := 445) (by decide +kernel), by decide +kernel⟩, ⟨List.mem_of_getElem? (i := 446) (by decide +kernel), by decide +kernel⟩, ⟨List.mem_of_getElem? (i := 447) (by decide +kernel), by decide +kernel⟩⟩
theorem kc_L_37 : kCV RL 37 mX7_seen 2 := ⟨km_X7_seen, ⟨List.mem_of_getElem? (i := 855) (by decide +kernel), by decide +kernel⟩, ⟨List.mem_of_getElem? (i := 856) (by decide +kernel), by decide +kernel⟩, ⟨List.mem_of_getElem? (i := 857) (by decide +kernel), by decide +kernel⟩⟩
theorem kc_L_38 : kCV RL 38 mX6_person 2 := ⟨km_X6_person, ⟨List.mem_of_getElem? (i := 454) (by decide +kernel), by decide +kernel⟩, ⟨List.mem_of_getElem? (i := 455) (by decide +kernel), by decide +kernel⟩, ⟨List.mem_of_getElem? (i := 456) (by decide +kernel), by decide +kernel⟩⟩
theorem kc_L_41 : kCV RL 41 mX7_person 2 := ⟨km_X7_person, ⟨List.mem_of_getElem? (i := 860) (by decide +kernel), by decide +kernel⟩, ⟨List.mem_of_getElem? (i := 861) (by decide +kernel), by decide +kernel⟩, ⟨List.mem_of_getElem? (i := 862) (by decide +kernel), by decide +kernel⟩⟩
theorem kc_L_42 : kCV RL 42 mX6_law 1 := ⟨km_X6_law, ⟨List.mem_of_getElem? (i := 464) (by decide +kernel), by decide +kernel⟩, ⟨List.mem_of_getElem? (i := 465) (by decide +kernel), by decide +kernel⟩, ⟨List.mem_of_getElem? (i := 466) (by decide +kernel), by decide +kernel⟩⟩
theorem kc_L_46 : kCV RL 46 mX7_law 1 := ⟨km_X7_law, ⟨List.mem_of_getElem? (i := 871) (by decide +kernel), by decide +kernel⟩, ⟨List.mem_of_getElem? (i := 872) (by decide +kernel), by decide +kernel⟩, ⟨List.mem_of_getElem? (i := 873) (by decide +kernel), by decide +kernel⟩⟩
theorem kc_L_47 : kCV RL 47 mX6_rules 2 := ⟨km_X6_rules, ⟨List.mem_of_getElem? (i := 468) (by decide +kernel), by decide +kernel⟩, ⟨List.mem_of_getElem? (i := 469) (by decide +kernel), by decide +kernel⟩, ⟨List.mem_of_getElem? (i := 470) (by decide +kernel), by decide +kernel⟩⟩
theorem kc_L_50 : kCV RL 50 mX7_rules 2 := ⟨km_X7_rules, ⟨List.mem_of_getElem? (i := 875) (by decide +kernel), by decide +kernel⟩, ⟨List.mem_of_getElem? (i := 876) (by decide +kernel), by decide +kernel⟩, ⟨List.mem_of_getElem? (i := 877) (by decide +kernel), by decide +kernel⟩⟩
theorem kc_L_51 : kCV RL 51 mX6_chosen 0 := ⟨km_X6_chosen, ⟨List.mem_of_getElem? (i := 472) (by decide +kernel), by decide +kernel⟩, ⟨List.mem_of_getElem? (i := 473) (by decide +kernel), by decide +kernel⟩, ⟨List.mem_of_getElem? (i := 474) (by decide +kernel), by decide +kernel⟩⟩
theorem kc_L_54 : kCV RL 54 mX7_chosen 0 := ⟨km_X7_chosen, ⟨List.mem_of_getElem? (i := 879) (by decide +kernel), by decide +kernel⟩, ⟨List.mem_of_getElem? (i := 880) (by decide +kernel), by decide +kernel⟩, ⟨List.mem_of_getElem? (i := 881) (by decide +kernel), by decide +kernel⟩⟩
theorem kc_L_55 : kCV RL 55 mX6_meet 2 := ⟨km_X6_meet, ⟨List.mem_of_getElem? (i := 491) (by decide +kernel), by decide +kernel⟩, ⟨List.mem_of_getElem? (i := 492) (by decide +kernel), by decide +kernel⟩, ⟨List.mem_of_getElem? (i := 493) (by decide +kernel), by decide +kernel⟩⟩
theorem kc_L_58 : kCV RL 58 mX7_meet 2 := ⟨km_X7_meet, ⟨List.mem_of_getElem? (i := 891) (by decide +kernel), by decide +kernel⟩, ⟨List.mem_of_getElem? (i := 892) (by decide +kernel), by decide +kernel⟩, ⟨List.mem_of_getElem? (i := 893) (by decide +kernel), by decide +kernel⟩⟩
theorem kc_L_59 : kCV RL 59 mX6_introduce 3 := ⟨km_X6_introduce, ⟨List.mem_of_getElem? (i := 499) (by decide +kernel), by decide +kernel⟩, ⟨List.mem_of_getElem? (i := 500) (by decide +kernel), by decide +kernel⟩, ⟨List.mem_of_getElem? (i := 501) (by decide +kernel), by decide +kernel⟩⟩
theorem kc_L_63 : kCV RL 63 mX7_introduce 3 := ⟨km_X7_introduce, ⟨List.mem_of_getElem? (i := 899) (by decide +kernel), by decide +kernel⟩, ⟨List.mem_of_getElem? (i := 900) (by decide +kernel), by decide +kernel⟩, ⟨List.mem_of_getElem? (i := 901) (by decide +kernel), by decide +kernel⟩⟩
theorem kc_L_64 : kCV RL 64 mX6_moves 1 := ⟨km_X6_moves, ⟨List.mem_of_getElem? (i := 503) (by decide +kernel), by decide +kernel⟩, ⟨List.mem_of_getElem? (i := 504) (by decide +kernel), by decide +kernel⟩, ⟨List.mem_of_getElem? (i := 505) (by decide +kernel), by decide +kernel⟩⟩
theorem kc_L_67 : kCV RL 67 mX7_moves 1 := ⟨km_X7_moves, ⟨List.mem_of_getElem? (i := 903) (by decide +kernel), by decide +kernel⟩, ⟨List.mem_of_getElem? (i := 904) (by decide +kernel), by decide +kernel⟩, ⟨List.mem_of_getElem? (i := 905) (by decide +kernel), by decide +kernel⟩⟩
theorem kc_L_68 : kCV RL 68 mX6_go 1 := ⟨km_X6_go, ⟨List.mem_of_getElem? (i := 508) (by decide +kernel), by decide +kernel⟩, ⟨List.mem_of_getElem? (i := 509) (by decide +kernel), by decide +kernel⟩, ⟨List.mem_of_getElem? (i := 510) (by decide +kernel), by decide +kernel⟩⟩
theorem kc_L_71 : kCV RL 71 mX7_go 1 := ⟨km_X7_go, ⟨List.mem_of_getElem? (i := 907) (by decide +kernel), by decide +kernel⟩, ⟨List.mem_of_getElem? (i := 908) (by decide +kernel), by decide +kernel⟩, ⟨List.mem_of_getElem? (i := 909) (by decide +kernel), by decide +kernel⟩⟩
theorem kc_L_72 : kCV RL 72 mX6_now 1 := ⟨km_X6_now, ⟨List.mem_of_getElem? (i := 530) (by decide +kernel), by decide +kernel⟩, ⟨List.mem_of_getElem? (i := 531) (by decide +kernel), by decide +kernel⟩, ⟨List.mem_of_getElem? (i := 532) (by decide +kernel), by decide +kernel⟩⟩
theorem kc_L_75 : kCV RL 75 mX7_now 1 := ⟨km_X7_now, ⟨List.mem_of_getElem? (i := 915) (by decide +kernel), by decide +kernel⟩, ⟨List.mem_of_getElem? (i := 916) (by decide +kernel), by decide +kernel⟩, ⟨List.mem_of_getElem? (i := 917) (by decide +kernel), by decide +kernel⟩⟩
theorem kc_L_76 : kCV RL 76 mX6_anew 0 := ⟨km_X6_anew, ⟨List.mem_of_getElem? (i := 538) (by decide +kernel), by decide +kernel⟩, ⟨List.mem_of_getElem? (i := 539) (by decide +kernel), by decide +kernel⟩, ⟨List.mem_of_getElem? (i := 540) (by decide +kernel), by decide +kernel⟩⟩
theorem kc_L_79 : kCV RL 79 mX7_anew 0 := ⟨km_X7_anew, ⟨List.mem_of_getElem? (i := 923) (by decide +kernel), by decide +kernel⟩, ⟨List.mem_of_getElem? (i := 924) (by decide +kernel), by decide +kernel⟩, ⟨List.mem_of_getElem? (i := 925) (by decide +kernel), by decide +kernel⟩⟩
theorem kc_L_80 : kCV RL 80 mX6_reigns 1 := ⟨km_X6_reigns, ⟨List.mem_of_getElem? (i := 542) (by decide +kernel), by decide +kernel⟩, ⟨List.mem_of_getElem? (i := 543) (by decide +kernel), by decide +kernel⟩, ⟨List.mem_of_getElem? (i := 544) (by decide +kernel), by decide +kernel⟩⟩
theorem kc_L_83 : kCV RL 83 mX7_reigns 1 := ⟨km_X7_reigns, ⟨List.mem_of_getElem? (i := 927) (by decide +kernel), by decide +kernel⟩, ⟨List.mem_of_getElem? (i := 928) (by decide +kernel), by decide +kernel⟩, ⟨List.mem_of_getElem? (i := 929) (by decide +kernel), by decide +kernel⟩⟩
theorem kc_L_84 : kCV RL 84 mX6_ring 0 := ⟨km_X6_ring, ⟨List.mem_of_getElem? (i := 558) (by decide +kernel), by decide +kernel⟩, ⟨List.mem_of_getElem? (i := 559) (by decide +kernel), by decide +kernel⟩, ⟨List.mem_of_getElem? (i := 560) (by decide +kernel), by decide +kernel⟩⟩
theorem kc_L_87 : kCV RL 87 mX7_ring 0 := ⟨km_X7_ring, ⟨List.mem_of_getElem? (i := 935) (by decide +kernel), by decide +kernel⟩, ⟨List.mem_of_getElem? (i := 936) (by decide +kernel), by decide +kernel⟩, ⟨List.mem_of_getElem? (i := 937) (by decide +kernel), by decide +kernel⟩⟩
theorem kc_L_88 : kCV RL 88 mX6_brings 3 := ⟨km_X6_brings, ⟨List.mem_of_getElem? (i := 572) (by decide +kernel), by decide +kernel⟩, ⟨List.mem_of_getElem? (i := 573) (by decide +kernel), by decide +kernel⟩, ⟨List.mem_of_getElem? (i := 574) (by decide +kernel), by decide +kernel⟩⟩
theorem kc_L_91 : kCV RL 91 mX7_brings 3 := ⟨km_X7_brings, ⟨List.mem_of_getElem? (i := 939) (by decide +kernel), by decide +kernel⟩, ⟨List.mem_of_getElem? (i := 940) (by decide +kernel), by decide +kernel⟩, ⟨List.mem_of_getElem? (i := 941) (by decide +kernel), by decide +kernel⟩⟩
theorem kc_L_92 : kCV RL 92 mX6_days 4 := ⟨km_X6_days, ⟨List.mem_of_getElem? (i := 593) (by decide +kernel), by decide +kernel⟩, ⟨List.mem_of_getElem? (i := 594) (by decide +kernel), by decide +kernel⟩, ⟨List.mem_of_getElem? (i := 595) (by decide +kernel), by decide +kernel⟩⟩
theorem kc_L_96 : kCV RL 96 mX7_days 4 := ⟨km_X7_days, ⟨List.mem_of_getElem? (i := 959) (by decide +kernel), by decide +kernel⟩, ⟨List.mem_of_getElem? (i := 960) (by decide +kernel), by decide +kernel⟩, ⟨List.mem_of_getElem? (i := 961) (by decide +kernel), by decide +kernel⟩⟩
theorem kc_L_97 : kCV RL 97 mX6_asks 2 := ⟨km_X6_asks, ⟨List.mem_of_getElem? (i := 606) (by decide +kernel), by decide +kernel⟩, ⟨List.mem_of_getElem? (i := 607) (by decide +kernel), by decide +kernel⟩, ⟨List.mem_of_getElem? (i := 608) (by decide +kernel), by decide +kernel⟩⟩
theorem kc_L_100 : kCV RL 100 mX7_asks 2 := ⟨km_X7_asks, ⟨List.mem_of_getElem? (i := 987) (by decide +kernel), by decide +kernel⟩, ⟨List.mem_of_getElem? (i := 988) (by decide +kernel), by decide +kernel⟩, ⟨List.mem_of_getElem? (i := 989) (by decide +kernel), by decide +kernel⟩⟩
theorem kc_L_101 : kCV RL 101 mX6_party 1 := ⟨km_X6_party, ⟨List.mem_of_getElem? (i := 614) (by decide +kernel), by decide +kernel⟩, ⟨List.mem_of_getElem? (i := 615) (by decide +kernel), by decide +kernel⟩, ⟨List.mem_of_getElem? (i := 616) (by decide +kernel), by decide +kernel⟩⟩
theorem kc_L_104 : kCV RL 104 mX7_party 1 := ⟨km_X7_party, ⟨List.mem_of_getElem? (i := 991) (by decide +kernel), by decide +kernel⟩, ⟨List.mem_of_getElem? (i := 992) (by decide +kernel), by decide +kernel⟩, ⟨List.mem_of_getElem? (i := 993) (by decide +kernel), by decide +kernel⟩⟩
theorem kc_L_105 : kCV RL 105 mX6_parties 1 := ⟨km_X6_parties, ⟨List.mem_of_getElem? (i := 623) (by decide +kernel), by decide +kernel⟩, ⟨List.mem_of_getElem? (i := 624) (by decide +kernel), by decide +kernel⟩, ⟨List.mem_of_getElem? (i := 625) (by decide +kernel), by decide +kernel⟩⟩
theorem kc_L_108 : kCV RL 108 mX7_parties 1 := ⟨km_X7_parties, ⟨List.mem_of_getElem? (i := 999) (by decide +kernel), by decide +kernel⟩, ⟨List.mem_of_getElem? (i := 1000) (by decide +kernel), by decide +kernel⟩, ⟨List.mem_of_getElem? (i := 1001) (by decide +kernel), by decide +kernel⟩⟩
theorem kc_L_109 : kCV RL 109 mX6_rate 2 := ⟨km_X6_rate, ⟨List.mem_of_getElem? (i := 628) (by decide +kernel), by decide +kernel⟩, ⟨List.mem_of_getElem? (i := 629) (by decide +kernel), by decide +kernel⟩, ⟨List.mem_of_getElem? (i := 630) (by decide +kernel), by decide +kernel⟩⟩
theorem kc_L_112 : kCV RL 112 mX7_rate 2 := ⟨km_X7_rate, ⟨List.mem_of_getElem? (i := 1003) (by decide +kernel), by decide +kernel⟩, ⟨List.mem_of_getElem? (i := 1004) (by decide +kernel), by decide +kernel⟩, ⟨List.mem_of_getElem? (i := 1005) (by decide +kernel), by decide +kernel⟩⟩
theorem kc_L_113 : kCV RL 113 mX6_keep 1 := ⟨km_X6_keep, ⟨List.mem_of_getElem? (i := 661) (by decide +kernel), by decide +kernel⟩, ⟨List.mem_of_getElem? (i := 662) (by decide +kernel), by decide +kernel⟩, ⟨List.mem_of_getElem? (i := 663) (by decide +kernel), by decide +kernel⟩⟩
theorem kc_L_116 : kCV RL 116 mX7_keep 1 := ⟨km_X7_keep, ⟨List.mem_of_getElem? (i := 1012) (by decide +kernel), by decide +kernel⟩, ⟨List.mem_of_getElem? (i := 1013) (by decide +kernel), by decide +kernel⟩, ⟨List.mem_of_getElem? (i := 1014) (by decide +kernel), by decide +kernel⟩⟩
theorem kc_L_117 : kCV RL 117 mX6_back 1 := ⟨km_X6_back, ⟨List.mem_of_getElem? (i := 670) (by decide +kernel), by decide +kernel⟩, ⟨List.mem_of_getElem? (i := 671) (by decide +kernel), by decide +kernel⟩, ⟨List.mem_of_getElem? (i := 672) (by decide +kernel), by decide +kernel⟩⟩
theorem kc_L_120 : kCV RL 120 mX7_back 1 := ⟨km_X7_back, ⟨List.mem_of_getElem? (i := 1016) (by decide +kernel), by decide +kernel⟩, ⟨List.mem_of_getElem? (i := 1017) (by decide +kernel), by decide +kernel⟩, ⟨List.mem_of_getElem? (i := 1018) (by decide +kernel), by decide +kernel⟩⟩
theorem kc_L_121 : kCV RL 121 mX6_count 1 := ⟨km_X6_count, ⟨List.mem_of_getElem? (i := 674) (by decide +kernel), by decide +kernel⟩, ⟨List.mem_of_getElem? (i := 675) (by decide +kernel), by decide +kernel⟩, ⟨List.mem_of_getElem? (i := 676) (by decide +kernel), by decide +kernel⟩⟩
theorem kc_L_124 : kCV RL 124 mX7_count 1 := ⟨km_X7_count, ⟨List.mem_of_getElem? (i := 1020) (by decide +kernel), by decide +kernel⟩, ⟨List.mem_of_getElem? (i := 1021) (by decide +kernel), by decide +kernel⟩, ⟨List.mem_of_getElem? (i := 1022) (by decide +kernel), by decide +kernel⟩⟩
theorem kc_L_125 : kCV RL 125 mX6_trace 0 := ⟨km_X6_trace, ⟨List.mem_of_getElem? (i := 682) (by decide +kernel), by decide +kernel⟩, ⟨List.mem_of_getElem? (i := 683) (by decide +kernel), by decide +kernel⟩, ⟨List.mem_of_getElem? (i := 684) (by decide +kernel), by decide +kernel⟩⟩
theorem kc_L_129 : kCV RL 129 mX7_trace 0 := ⟨km_X7_trace, ⟨List.mem_of_getElem? (i := 1024) (by decide +kernel), by decide +kernel⟩, ⟨List.mem_of_getElem? (i := 1025) (by decide +kernel), by decide +kernel⟩, ⟨List.mem_of_getElem? (i := 1026) (by decide +kernel), by decide +kernel⟩⟩
theorem fg_X0_18 : kGet RX0 18 0 2 := ⟨_, _, _, _, kcl_0, by decide, ⟨List.mem_of_getElem? (i := 180) (by decide +kernel), by decide +kernel⟩⟩
theorem kc_X0_49 : kCV RX0 49 mX5_choose 1 := ⟨km_X5_choose, ⟨List.mem_of_getElem? (i := 587) (by decide +kernel), by decide +kernel⟩, ⟨List.mem_of_getElem? (i := 477) (by decide +kernel), by decide +kernel⟩, ⟨List.mem_of_getElem? (i := 478) (by decide +kernel), by decide +kernel⟩⟩
theorem fg_X0_55 : kGet RX0 55 5 2 := ⟨_, _, _, _, kcl_5, by decide, ⟨List.mem_of_getElem? (i := 211) (by decide +kernel), by decide +kernel⟩⟩
theorem fg_X0_59 : kGet RX0 59 2 0 := ⟨_, _, _, _, kcl_2, by decide, ⟨List.mem_of_getElem? (i := 124) (by decide +kernel), by decide +kernel⟩⟩
theorem kc_X0_41 : kCSN RX0 41 mX6_at 2 := ⟨km_X6_at, ⟨"LeastKnown", List.mem_of_getElem? (i := 571) (by decide +kernel)⟩, ⟨List.mem_of_getElem? (i := 243) (by decide +kernel), by decide +kernel⟩⟩
theorem kc_X0_62 : kCV RX0 62 mX2_setKnowers 2 := ⟨km_X2_setKnowers, ⟨List.mem_of_getElem? (i := 588) (by decide +kernel), by decide +kernel⟩, ⟨List.mem_of_getElem? (i := 246) (by decide +kernel), by decide +kernel⟩, ⟨List.mem_of_getElem? (i := 247) (by decide +kernel), by decide +kernel⟩⟩
theorem kc_X0_45 : kCV RX0 45 mX0_bringsAbout 5 := ⟨km_X0_bringsAbout, ⟨List.mem_of_getElem? (i := 583) (by decide +kernel), by decide +kernel⟩, ⟨List.mem_of_getElem? (i := 585) (by decide +kernel), by decide +kernel⟩, ⟨List.mem_of_getElem? (i := 14) (by decide +kernel), by decide +kernel⟩⟩
theorem kc_X0_66 : kCV RX0 66 mX0_noteInFront 1 := ⟨km_X0_noteInFront, ⟨List.mem_of_getElem? (i := 589) (by decide +kernel), by decide +kernel⟩, ⟨List.mem_of_getElem? (i := 591) (by decide +kernel), by decide +kernel⟩, ⟨List.mem_of_getElem? (i := 15) (by decide +kernel), by decide +kernel⟩⟩
theorem kc_X0_25 : kCV RX0 25 mX2_copyFrom 1 := ⟨km_X2_copyFrom, ⟨List.mem_of_getElem? (i := 550) (by decide +kernel), by decide +kernel⟩, ⟨List.mem_of_getElem? (i := 551) (by decide +kernel), by decide +kernel⟩, ⟨List.mem_of_getElem? (i := 552) (by decide +kernel), by decide +kernel⟩⟩
theorem ko_X0_3 : kW (Cond.methodLink RX0 3 Lib.objectInit) ∧ kW (Cond.instanceMethod Lib.objectInit) ∧ kW (Cond.code Lib.objectInit ⟨#[0xb1]⟩ 1 none) := ⟨⟨List.mem_of_getElem? (i := 173) (by decide +kernel), by decide +kernel⟩, ⟨List.mem_of_getElem? (i := 74) (by decide +kernel), by decide +kernel⟩, ⟨List.mem_of_getElem? (i := 75) (by decide +kernel), by decide +kernel⟩⟩
theorem fp_X0_9 : kPut RX0 "<init>" 9 0 0 (.array .int) := ⟨_, _, _, _, kcl_0, by decide, ⟨List.mem_of_getElem? (i := 176) (by decide +kernel), by decide +kernel⟩, rfl, Or.inr ⟨rfl, rfl, rfl⟩⟩
theorem kn_X0_15 : kNew RX0 15 2 7 [.null, .null, .null, .null, .int 0, .int 0, .int 0] := ⟨_, _, _, kcl_2, ⟨List.mem_of_getElem? (i := 174) (by decide +kernel), by decide +kernel⟩, ⟨List.mem_of_getElem? (i := 118) (by decide +kernel), by decide +kernel⟩, ⟨List.mem_of_getElem? (i := 57) (by decide +kernel), by decide +kernel⟩, by decide +kernel⟩
theorem kc_X0_17 : kCIN RX0 17 mX2_init 0 := ⟨km_X2_init, ⟨"LeastKnown", List.mem_of_getElem? (i := 175) (by decide +kernel)⟩, ⟨List.mem_of_getElem? (i := 120) (by decide +kernel), by decide +kernel⟩, rfl, rfl⟩
theorem fp_X0_18 : kPut RX0 "<init>" 18 0 2 (.object "LeastKnown$Now") := ⟨_, _, _, _, kcl_0, by decide, ⟨List.mem_of_getElem? (i := 180) (by decide +kernel), by decide +kernel⟩, rfl, Or.inr ⟨rfl, rfl, rfl⟩⟩
theorem fp_X0_22 : kPut RX0 "<init>" 22 0 3 (.array .int) := ⟨_, _, _, _, kcl_0, by decide, ⟨List.mem_of_getElem? (i := 181) (by decide +kernel), by decide +kernel⟩, rfl, Or.inr ⟨rfl, rfl, rfl⟩⟩
theorem fg_X0_22 : kGet RX0 22 0 3 := ⟨_, _, _, _, kcl_0, by decide, ⟨List.mem_of_getElem? (i := 181) (by decide +kernel), by decide +kernel⟩⟩
theorem fp_X0_70 (name : String) : kPut RX0 name 70 0 1 (.int) := ⟨_, _, _, _, kcl_0, by decide, ⟨List.mem_of_getElem? (i := 178) (by decide +kernel), by decide +kernel⟩, rfl, Or.inl rfl⟩
theorem kc_X0_73 : kCS RX0 73 mJ9_min_7cf53 2 := ⟨km_J9_min_7cf53, ⟨List.mem_of_getElem? (i := 601) (by decide +kernel), by decide +kernel⟩, ⟨List.mem_of_getElem? (i := 513) (by decide +kernel), by decide +kernel⟩⟩
theorem kc_X0_79 : kCV RX0 79 mX0_outcome 5 := ⟨km_X0_outcome, ⟨List.mem_of_getElem? (i := 602) (by decide +kernel), by decide +kernel⟩, ⟨List.mem_of_getElem? (i := 604) (by decide +kernel), by decide +kernel⟩, ⟨List.mem_of_getElem? (i := 16) (by decide +kernel), by decide +kernel⟩⟩
theorem kc_X0_29 : kCV RX0 29 mX2_spring 1 := ⟨km_X2_spring, ⟨List.mem_of_getElem? (i := 557) (by decide +kernel), by decide +kernel⟩, ⟨List.mem_of_getElem? (i := 516) (by decide +kernel), by decide +kernel⟩, ⟨List.mem_of_getElem? (i := 517) (by decide +kernel), by decide +kernel⟩⟩
theorem kc_X0_33 : kCSN RX0 33 mX6_put 3 := ⟨km_X6_put, ⟨"LeastKnown", List.mem_of_getElem? (i := 566) (by decide +kernel)⟩, ⟨List.mem_of_getElem? (i := 250) (by decide +kernel), by decide +kernel⟩⟩
theorem kc_X0_37 : kCV RX0 37 mX0_isRing 1 := ⟨km_X0_isRing, ⟨List.mem_of_getElem? (i := 567) (by decide +kernel), by decide +kernel⟩, ⟨List.mem_of_getElem? (i := 569) (by decide +kernel), by decide +kernel⟩, ⟨List.mem_of_getElem? (i := 13) (by decide +kernel), by decide +kernel⟩⟩
theorem fg_X0_9 : kGet RX0 9 0 0 := ⟨_, _, _, _, kcl_0, by decide, ⟨List.mem_of_getElem? (i := 176) (by decide +kernel), by decide +kernel⟩⟩
theorem ko_X1_1 : kW (Cond.methodLink RX1 1 Lib.objectInit) ∧ kW (Cond.instanceMethod Lib.objectInit) ∧ kW (Cond.code Lib.objectInit ⟨#[0xb1]⟩ 1 none) := ⟨⟨List.mem_of_getElem? (i := 157) (by decide +kernel), by decide +kernel⟩, ⟨List.mem_of_getElem? (i := 74) (by decide +kernel), by decide +kernel⟩, ⟨List.mem_of_getElem? (i := 75) (by decide +kernel), by decide +kernel⟩⟩
theorem kn_X1_7 : kNew RX1 7 2 7 [.null, .null, .null, .null, .int 0, .int 0, .int 0] := ⟨_, _, _, kcl_2, ⟨List.mem_of_getElem? (i := 158) (by decide +kernel), by decide +kernel⟩, ⟨List.mem_of_getElem? (i := 118) (by decide +kernel), by decide +kernel⟩, ⟨List.mem_of_getElem? (i := 57) (by decide +kernel), by decide +kernel⟩, by decide +kernel⟩
theorem kc_X1_9 : kCIN RX1 9 mX2_init 0 := ⟨km_X2_init, ⟨"LeastKnown", List.mem_of_getElem? (i := 159) (by decide +kernel)⟩, ⟨List.mem_of_getElem? (i := 120) (by decide +kernel), by decide +kernel⟩, rfl, rfl⟩
theorem fp_X1_10 : kPut RX1 "<init>" 10 1 0 (.object "LeastKnown$Now") := ⟨_, _, _, _, kcl_1, by decide, ⟨List.mem_of_getElem? (i := 160) (by decide +kernel), by decide +kernel⟩, rfl, Or.inr ⟨rfl, rfl, rfl⟩⟩
theorem kc_X2_63 : kCV RX2 63 mX2_isAware 2 := ⟨km_X2_isAware, ⟨List.mem_of_getElem? (i := 463) (by decide +kernel), by decide +kernel⟩, ⟨List.mem_of_getElem? (i := 442) (by decide +kernel), by decide +kernel⟩, ⟨List.mem_of_getElem? (i := 443) (by decide +kernel), by decide +kernel⟩⟩
theorem fg_X2_15 : kGet RX2 15 2 1 := ⟨_, _, _, _, kcl_2, by decide, ⟨List.mem_of_getElem? (i := 125) (by decide +kernel), by decide +kernel⟩⟩
theorem kc_X2_27 : kCSN RX2 27 mX6_at 2 := ⟨km_X6_at, ⟨"LeastKnown", List.mem_of_getElem? (i := 242) (by decide +kernel)⟩, ⟨List.mem_of_getElem? (i := 243) (by decide +kernel), by decide +kernel⟩⟩
theorem fg_X2_24 : kGet RX2 24 5 0 := ⟨_, _, _, _, kcl_5, by decide, ⟨List.mem_of_getElem? (i := 205) (by decide +kernel), by decide +kernel⟩⟩
theorem kc_X2_31 : kCV RX2 31 mX2_setKnowers 2 := ⟨km_X2_setKnowers, ⟨List.mem_of_getElem? (i := 245) (by decide +kernel), by decide +kernel⟩, ⟨List.mem_of_getElem? (i := 246) (by decide +kernel), by decide +kernel⟩, ⟨List.mem_of_getElem? (i := 247) (by decide +kernel), by decide +kernel⟩⟩
theorem fg_X2_18 : kGet RX2 18 2 2 := ⟨_, _, _, _, kcl_2, by decide, ⟨List.mem_of_getElem? (i := 128) (by decide +kernel), by decide +kernel⟩⟩
theorem kc_X2_35 : kCSN RX2 35 mX6_fill 2 := ⟨km_X6_fill, ⟨"LeastKnown", List.mem_of_getElem? (i := 258) (by decide +kernel)⟩, ⟨List.mem_of_getElem? (i := 202) (by decide +kernel), by decide +kernel⟩⟩
theorem fg_X2_21 : kGet RX2 21 2 3 := ⟨_, _, _, _, kcl_2, by decide, ⟨List.mem_of_getElem? (i := 129) (by decide +kernel), by decide +kernel⟩⟩
theorem fp_X2_39 (name : String) : kPut RX2 name 39 2 4 (.int) := ⟨_, _, _, _, kcl_2, by decide, ⟨List.mem_of_getElem? (i := 131) (by decide +kernel), by decide +kernel⟩, rfl, Or.inl rfl⟩
theorem fp_X2_43 (name : String) : kPut RX2 name 43 2 5 (.int) := ⟨_, _, _, _, kcl_2, by decide, ⟨List.mem_of_getElem? (i := 133) (by decide +kernel), by decide +kernel⟩, rfl, Or.inl rfl⟩
theorem fp_X2_46 (name : String) : kPut RX2 name 46 2 6 (.int) := ⟨_, _, _, _, kcl_2, by decide, ⟨List.mem_of_getElem? (i := 135) (by decide +kernel), by decide +kernel⟩, rfl, Or.inl rfl⟩
theorem fg_X2_9 : kGet RX2 9 2 0 := ⟨_, _, _, _, kcl_2, by decide, ⟨List.mem_of_getElem? (i := 123) (by decide +kernel), by decide +kernel⟩⟩
theorem kc_X2_49 : kCSN RX2 49 mX6_copy 2 := ⟨km_X6_copy, ⟨"LeastKnown", List.mem_of_getElem? (i := 554) (by decide +kernel)⟩, ⟨List.mem_of_getElem? (i := 555) (by decide +kernel), by decide +kernel⟩⟩
theorem fg_X2_39 : kGet RX2 39 2 4 := ⟨_, _, _, _, kcl_2, by decide, ⟨List.mem_of_getElem? (i := 131) (by decide +kernel), by decide +kernel⟩⟩
theorem fg_X2_43 : kGet RX2 43 2 5 := ⟨_, _, _, _, kcl_2, by decide, ⟨List.mem_of_getElem? (i := 133) (by decide +kernel), by decide +kernel⟩⟩
theorem fg_X2_46 : kGet RX2 46 2 6 := ⟨_, _, _, _, kcl_2, by decide, ⟨List.mem_of_getElem? (i := 135) (by decide +kernel), by decide +kernel⟩⟩
theorem kc_X2_73 : kCV RX2 73 mX2_learn 2 := ⟨km_X2_learn, ⟨List.mem_of_getElem? (i := 519) (by decide +kernel), by decide +kernel⟩, ⟨List.mem_of_getElem? (i := 496) (by decide +kernel), by decide +kernel⟩, ⟨List.mem_of_getElem? (i := 497) (by decide +kernel), by decide +kernel⟩⟩
theorem kc_X2_53 : kCSN RX2 53 mX6_put 3 := ⟨km_X6_put, ⟨"LeastKnown", List.mem_of_getElem? (i := 249) (by decide +kernel)⟩, ⟨List.mem_of_getElem? (i := 250) (by decide +kernel), by decide +kernel⟩⟩
theorem fg_X2_67 : kGet RX2 67 5 2 := ⟨_, _, _, _, kcl_5, by decide, ⟨List.mem_of_getElem? (i := 214) (by decide +kernel), by decide +kernel⟩⟩
theorem kc_X2_91 : kCV RX2 91 mX2_sight 2 := ⟨km_X2_sight, ⟨List.mem_of_getElem? (i := 529) (by decide +kernel), by decide +kernel⟩, ⟨List.mem_of_getElem? (i := 451) (by decide +kernel), by decide +kernel⟩, ⟨List.mem_of_getElem? (i := 452) (by decide +kernel), by decide +kernel⟩⟩
theorem fg_X2_84 : kGet RX2 84 5 3 := ⟨_, _, _, _, kcl_5, by decide, ⟨List.mem_of_getElem? (i := 218) (by decide +kernel), by decide +kernel⟩⟩
theorem ko_X2_3 : kW (Cond.methodLink RX2 3 Lib.objectInit) ∧ kW (Cond.instanceMethod Lib.objectInit) ∧ kW (Cond.code Lib.objectInit ⟨#[0xb1]⟩ 1 none) := ⟨⟨List.mem_of_getElem? (i := 122) (by decide +kernel), by decide +kernel⟩, ⟨List.mem_of_getElem? (i := 74) (by decide +kernel), by decide +kernel⟩, ⟨List.mem_of_getElem? (i := 75) (by decide +kernel), by decide +kernel⟩⟩
theorem fp_X2_9 : kPut RX2 "<init>" 9 2 0 (.array .int) := ⟨_, _, _, _, kcl_2, by decide, ⟨List.mem_of_getElem? (i := 123) (by decide +kernel), by decide +kernel⟩, rfl, Or.inr ⟨rfl, rfl, rfl⟩⟩
theorem fp_X2_15 : kPut RX2 "<init>" 15 2 1 (.array .int) := ⟨_, _, _, _, kcl_2, by decide, ⟨List.mem_of_getElem? (i := 125) (by decide +kernel), by decide +kernel⟩, rfl, Or.inr ⟨rfl, rfl, rfl⟩⟩
theorem fp_X2_18 : kPut RX2 "<init>" 18 2 2 (.array .int) := ⟨_, _, _, _, kcl_2, by decide, ⟨List.mem_of_getElem? (i := 128) (by decide +kernel), by decide +kernel⟩, rfl, Or.inr ⟨rfl, rfl, rfl⟩⟩
theorem fp_X2_21 : kPut RX2 "<init>" 21 2 3 (.array .int) := ⟨_, _, _, _, kcl_2, by decide, ⟨List.mem_of_getElem? (i := 129) (by decide +kernel), by decide +kernel⟩, rfl, Or.inr ⟨rfl, rfl, rfl⟩⟩
theorem kc_X2_57 : kCS RX2 57 mJ6_bitCount_0f7a4 1 := ⟨km_J6_bitCount_0f7a4, ⟨List.mem_of_getElem? (i := 252) (by decide +kernel), by decide +kernel⟩, ⟨List.mem_of_getElem? (i := 253) (by decide +kernel), by decide +kernel⟩⟩
theorem fg_X2_70 : kGet RX2 70 5 1 := ⟨_, _, _, _, kcl_5, by decide, ⟨List.mem_of_getElem? (i := 208) (by decide +kernel), by decide +kernel⟩⟩
theorem kc_X2_77 : kCV RX2 77 mX5_choose 1 := ⟨km_X5_choose, ⟨List.mem_of_getElem? (i := 520) (by decide +kernel), by decide +kernel⟩, ⟨List.mem_of_getElem? (i := 477) (by decide +kernel), by decide +kernel⟩, ⟨List.mem_of_getElem? (i := 478) (by decide +kernel), by decide +kernel⟩⟩
theorem kc_X2_81 : kCV RX2 81 mX2_crown 2 := ⟨km_X2_crown, ⟨List.mem_of_getElem? (i := 521) (by decide +kernel), by decide +kernel⟩, ⟨List.mem_of_getElem? (i := 523) (by decide +kernel), by decide +kernel⟩, ⟨List.mem_of_getElem? (i := 11) (by decide +kernel), by decide +kernel⟩⟩
theorem kc_X2_87 : kCV RX2 87 mX2_forget 1 := ⟨km_X2_forget, ⟨List.mem_of_getElem? (i := 525) (by decide +kernel), by decide +kernel⟩, ⟨List.mem_of_getElem? (i := 527) (by decide +kernel), by decide +kernel⟩, ⟨List.mem_of_getElem? (i := 12) (by decide +kernel), by decide +kernel⟩⟩
theorem fg_X3_49 : kGet RX3 49 4 1 := ⟨_, _, _, _, kcl_4, by decide, ⟨List.mem_of_getElem? (i := 85) (by decide +kernel), by decide +kernel⟩⟩
theorem kc_X3_54 : kCV RX3 54 mX4_begins 1 := ⟨km_X4_begins, ⟨List.mem_of_getElem? (i := 313) (by decide +kernel), by decide +kernel⟩, ⟨List.mem_of_getElem? (i := 314) (by decide +kernel), by decide +kernel⟩, ⟨List.mem_of_getElem? (i := 315) (by decide +kernel), by decide +kernel⟩⟩
theorem fg_X3_9 : kGet RX3 9 3 0 := ⟨_, _, _, _, kcl_3, by decide, ⟨List.mem_of_getElem? (i := 98) (by decide +kernel), by decide +kernel⟩⟩
theorem kc_X3_58 : kCS RX3 58 mX3_tokenAt 2 := ⟨km_X3_tokenAt, ⟨List.mem_of_getElem? (i := 328) (by decide +kernel), by decide +kernel⟩, ⟨List.mem_of_getElem? (i := 329) (by decide +kernel), by decide +kernel⟩⟩
theorem kc_X3_62 : kCSN RX3 62 mX6_put 3 := ⟨km_X6_put, ⟨"LeastKnown", List.mem_of_getElem? (i := 392) (by decide +kernel)⟩, ⟨List.mem_of_getElem? (i := 250) (by decide +kernel), by decide +kernel⟩⟩
theorem fg_X3_15 : kGet RX3 15 3 1 := ⟨_, _, _, _, kcl_3, by decide, ⟨List.mem_of_getElem? (i := 99) (by decide +kernel), by decide +kernel⟩⟩
theorem ko_X3_3 : kW (Cond.methodLink RX3 3 Lib.objectInit) ∧ kW (Cond.instanceMethod Lib.objectInit) ∧ kW (Cond.code Lib.objectInit ⟨#[0xb1]⟩ 1 none) := ⟨⟨List.mem_of_getElem? (i := 97) (by decide +kernel), by decide +kernel⟩, ⟨List.mem_of_getElem? (i := 74) (by decide +kernel), by decide +kernel⟩, ⟨List.mem_of_getElem? (i := 75) (by decide +kernel), by decide +kernel⟩⟩
theorem fp_X3_9 : kPut RX3 "<init>" 9 3 0 (.array .int) := ⟨_, _, _, _, kcl_3, by decide, ⟨List.mem_of_getElem? (i := 98) (by decide +kernel), by decide +kernel⟩, rfl, Or.inr ⟨rfl, rfl, rfl⟩⟩
theorem fp_X3_15 : kPut RX3 "<init>" 15 3 1 (.array .int) := ⟨_, _, _, _, kcl_3, by decide, ⟨List.mem_of_getElem? (i := 99) (by decide +kernel), by decide +kernel⟩, rfl, Or.inr ⟨rfl, rfl, rfl⟩⟩
theorem kc_X3_88 : kCV RX3 88 mJ0_length_8abf5 0 := ⟨km_J0_length_8abf5, ⟨List.mem_of_getElem? (i := 340) (by decide +kernel), by decide +kernel⟩, ⟨List.mem_of_getElem? (i := 341) (by decide +kernel), by decide +kernel⟩, ⟨List.mem_of_getElem? (i := 342) (by decide +kernel), by decide +kernel⟩⟩
theorem kc_X3_94 : kCV RX3 94 mJ0_charAt_5068e 1 := ⟨km_J0_charAt_5068e, ⟨List.mem_of_getElem? (i := 350) (by decide +kernel), by decide +kernel⟩, ⟨List.mem_of_getElem? (i := 351) (by decide +kernel), by decide +kernel⟩, ⟨List.mem_of_getElem? (i := 352) (by decide +kernel), by decide +kernel⟩⟩
theorem kc_X3_66 : kCV RX3 66 mX4_byteAt 1 := ⟨km_X4_byteAt, ⟨List.mem_of_getElem? (i := 331) (by decide +kernel), by decide +kernel⟩, ⟨List.mem_of_getElem? (i := 318) (by decide +kernel), by decide +kernel⟩, ⟨List.mem_of_getElem? (i := 319) (by decide +kernel), by decide +kernel⟩⟩
theorem kc_X3_70 : kCS RX3 70 mX4_isLetter 1 := ⟨km_X4_isLetter, ⟨List.mem_of_getElem? (i := 332) (by decide +kernel), by decide +kernel⟩, ⟨List.mem_of_getElem? (i := 323) (by decide +kernel), by decide +kernel⟩⟩
theorem fg_X3_106 : kGet RX3 106 5 2 := ⟨_, _, _, _, kcl_5, by decide, ⟨List.mem_of_getElem? (i := 212) (by decide +kernel), by decide +kernel⟩⟩
theorem fg_X3_38 : kGet RX3 38 3 5 := ⟨_, _, _, _, kcl_3, by decide, ⟨List.mem_of_getElem? (i := 103) (by decide +kernel), by decide +kernel⟩⟩
theorem fg_X3_34 : kGet RX3 34 3 4 := ⟨_, _, _, _, kcl_3, by decide, ⟨List.mem_of_getElem? (i := 102) (by decide +kernel), by decide +kernel⟩⟩
theorem fg_X3_27 : kGet RX3 27 3 2 := ⟨_, _, _, _, kcl_3, by decide, ⟨List.mem_of_getElem? (i := 100) (by decide +kernel), by decide +kernel⟩⟩
theorem kc_X3_41 : kCSN RX3 41 mX6_at 2 := ⟨km_X6_at, ⟨"LeastKnown", List.mem_of_getElem? (i := 393) (by decide +kernel)⟩, ⟨List.mem_of_getElem? (i := 243) (by decide +kernel), by decide +kernel⟩⟩
theorem kc_X3_76 : kCS RX3 76 mX4_isDigit 1 := ⟨km_X4_isDigit, ⟨List.mem_of_getElem? (i := 388) (by decide +kernel), by decide +kernel⟩, ⟨List.mem_of_getElem? (i := 326) (by decide +kernel), by decide +kernel⟩⟩
theorem kc_X3_18 : kCV RX3 18 mX5_empty 0 := ⟨km_X5_empty, ⟨List.mem_of_getElem? (i := 308) (by decide +kernel), by decide +kernel⟩, ⟨List.mem_of_getElem? (i := 198) (by decide +kernel), by decide +kernel⟩, ⟨List.mem_of_getElem? (i := 199) (by decide +kernel), by decide +kernel⟩⟩
theorem kc_X3_23 : kCV RX3 23 mX3_findTokens 1 := ⟨km_X3_findTokens, ⟨List.mem_of_getElem? (i := 309) (by decide +kernel), by decide +kernel⟩, ⟨List.mem_of_getElem? (i := 311) (by decide +kernel), by decide +kernel⟩, ⟨List.mem_of_getElem? (i := 0) (by decide +kernel), by decide +kernel⟩⟩
theorem fp_X3_27 (name : String) : kPut RX3 name 27 3 2 (.int) := ⟨_, _, _, _, kcl_3, by decide, ⟨List.mem_of_getElem? (i := 100) (by decide +kernel), by decide +kernel⟩, rfl, Or.inl rfl⟩
theorem fp_X3_31 (name : String) : kPut RX3 name 31 3 3 (.int) := ⟨_, _, _, _, kcl_3, by decide, ⟨List.mem_of_getElem? (i := 101) (by decide +kernel), by decide +kernel⟩, rfl, Or.inl rfl⟩
theorem fp_X3_34 (name : String) : kPut RX3 name 34 3 4 (.boolean) := ⟨_, _, _, _, kcl_3, by decide, ⟨List.mem_of_getElem? (i := 102) (by decide +kernel), by decide +kernel⟩, rfl, Or.inl rfl⟩
theorem fp_X3_38 (name : String) : kPut RX3 name 38 3 5 (.boolean) := ⟨_, _, _, _, kcl_3, by decide, ⟨List.mem_of_getElem? (i := 103) (by decide +kernel), by decide +kernel⟩, rfl, Or.inl rfl⟩
theorem kc_X3_45 : kCV RX3 45 mX3_readItem 1 := ⟨km_X3_readItem, ⟨List.mem_of_getElem? (i := 394) (by decide +kernel), by decide +kernel⟩, ⟨List.mem_of_getElem? (i := 396) (by decide +kernel), by decide +kernel⟩, ⟨List.mem_of_getElem? (i := 1) (by decide +kernel), by decide +kernel⟩⟩
theorem fg_X3_31 : kGet RX3 31 3 3 := ⟨_, _, _, _, kcl_3, by decide, ⟨List.mem_of_getElem? (i := 101) (by decide +kernel), by decide +kernel⟩⟩
theorem kc_X3_119 : kCV RX3 119 mX3_number 0 := ⟨km_X3_number, ⟨List.mem_of_getElem? (i := 410) (by decide +kernel), by decide +kernel⟩, ⟨List.mem_of_getElem? (i := 412) (by decide +kernel), by decide +kernel⟩, ⟨List.mem_of_getElem? (i := 5) (by decide +kernel), by decide +kernel⟩⟩
theorem kc_X3_102 : kCV RX3 102 mX3_take 1 := ⟨km_X3_take, ⟨List.mem_of_getElem? (i := 402) (by decide +kernel), by decide +kernel⟩, ⟨List.mem_of_getElem? (i := 404) (by decide +kernel), by decide +kernel⟩, ⟨List.mem_of_getElem? (i := 3) (by decide +kernel), by decide +kernel⟩⟩
theorem fp_X3_122 (name : String) : kPut RX3 name 122 5 3 (.int) := ⟨_, _, _, _, kcl_5, by decide, ⟨List.mem_of_getElem? (i := 217) (by decide +kernel), by decide +kernel⟩, rfl, Or.inl rfl⟩
theorem kc_X3_98 : kCV RX3 98 mX3_mayBegin 2 := ⟨km_X3_mayBegin, ⟨List.mem_of_getElem? (i := 398) (by decide +kernel), by decide +kernel⟩, ⟨List.mem_of_getElem? (i := 400) (by decide +kernel), by decide +kernel⟩, ⟨List.mem_of_getElem? (i := 2) (by decide +kernel), by decide +kernel⟩⟩
theorem fp_X3_106 (name : String) : kPut RX3 name 106 5 2 (.int) := ⟨_, _, _, _, kcl_5, by decide, ⟨List.mem_of_getElem? (i := 212) (by decide +kernel), by decide +kernel⟩, rfl, Or.inl rfl⟩
theorem kc_X3_109 : kCV RX3 109 mX3_readForgets 1 := ⟨km_X3_readForgets, ⟨List.mem_of_getElem? (i := 406) (by decide +kernel), by decide +kernel⟩, ⟨List.mem_of_getElem? (i := 408) (by decide +kernel), by decide +kernel⟩, ⟨List.mem_of_getElem? (i := 4) (by decide +kernel), by decide +kernel⟩⟩
theorem kc_X3_113 : kCV RX3 113 mX3_readLaw 1 := ⟨km_X3_readLaw, ⟨List.mem_of_getElem? (i := 414) (by decide +kernel), by decide +kernel⟩, ⟨List.mem_of_getElem? (i := 416) (by decide +kernel), by decide +kernel⟩, ⟨List.mem_of_getElem? (i := 6) (by decide +kernel), by decide +kernel⟩⟩
theorem kc_X3_116 : kCV RX3 116 mX3_readPair 2 := ⟨km_X3_readPair, ⟨List.mem_of_getElem? (i := 418) (by decide +kernel), by decide +kernel⟩, ⟨List.mem_of_getElem? (i := 420) (by decide +kernel), by decide +kernel⟩, ⟨List.mem_of_getElem? (i := 7) (by decide +kernel), by decide +kernel⟩⟩
theorem fp_X3_125 (name : String) : kPut RX3 name 125 5 4 (.int) := ⟨_, _, _, _, kcl_5, by decide, ⟨List.mem_of_getElem? (i := 221) (by decide +kernel), by decide +kernel⟩, rfl, Or.inl rfl⟩
theorem fg_X3_125 : kGet RX3 125 5 4 := ⟨_, _, _, _, kcl_5, by decide, ⟨List.mem_of_getElem? (i := 221) (by decide +kernel), by decide +kernel⟩⟩
theorem fp_X3_128 (name : String) : kPut RX3 name 128 5 5 (.int) := ⟨_, _, _, _, kcl_5, by decide, ⟨List.mem_of_getElem? (i := 224) (by decide +kernel), by decide +kernel⟩, rfl, Or.inl rfl⟩
theorem fg_X3_131 : kGet RX3 131 5 1 := ⟨_, _, _, _, kcl_5, by decide, ⟨List.mem_of_getElem? (i := 209) (by decide +kernel), by decide +kernel⟩⟩
theorem kc_X3_134 : kCV RX3 134 mX5_tell 2 := ⟨km_X5_tell, ⟨List.mem_of_getElem? (i := 422) (by decide +kernel), by decide +kernel⟩, ⟨List.mem_of_getElem? (i := 423) (by decide +kernel), by decide +kernel⟩, ⟨List.mem_of_getElem? (i := 424) (by decide +kernel), by decide +kernel⟩⟩
theorem kc_X3_73 : kCS RX3 73 mX3_wordAt 2 := ⟨km_X3_wordAt, ⟨List.mem_of_getElem? (i := 333) (by decide +kernel), by decide +kernel⟩, ⟨List.mem_of_getElem? (i := 334) (by decide +kernel), by decide +kernel⟩⟩
theorem kc_X3_79 : kCS RX3 79 mX3_numberAt 2 := ⟨km_X3_numberAt, ⟨List.mem_of_getElem? (i := 389) (by decide +kernel), by decide +kernel⟩, ⟨List.mem_of_getElem? (i := 390) (by decide +kernel), by decide +kernel⟩⟩
theorem kc_X3_82 : kCS RX3 82 mX3_isWord 3 := ⟨km_X3_isWord, ⟨List.mem_of_getElem? (i := 336) (by decide +kernel), by decide +kernel⟩, ⟨List.mem_of_getElem? (i := 337) (by decide +kernel), by decide +kernel⟩⟩
theorem fg_X4_15 : kGet RX4 15 4 1 := ⟨_, _, _, _, kcl_4, by decide, ⟨List.mem_of_getElem? (i := 83) (by decide +kernel), by decide +kernel⟩⟩
theorem fg_X4_9 : kGet RX4 9 4 0 := ⟨_, _, _, _, kcl_4, by decide, ⟨List.mem_of_getElem? (i := 82) (by decide +kernel), by decide +kernel⟩⟩
theorem kc_X4_19 : kCSN RX4 19 mX6_put 3 := ⟨km_X6_put, ⟨"LeastKnown", List.mem_of_getElem? (i := 295) (by decide +kernel)⟩, ⟨List.mem_of_getElem? (i := 250) (by decide +kernel), by decide +kernel⟩⟩
theorem fp_X4_15 (name : String) : kPut RX4 name 15 4 1 (.int) := ⟨_, _, _, _, kcl_4, by decide, ⟨List.mem_of_getElem? (i := 83) (by decide +kernel), by decide +kernel⟩, rfl, Or.inl rfl⟩
theorem kc_X4_27 : kCV RX4 27 mX4_byteAt 1 := ⟨km_X4_byteAt, ⟨List.mem_of_getElem? (i := 317) (by decide +kernel), by decide +kernel⟩, ⟨List.mem_of_getElem? (i := 318) (by decide +kernel), by decide +kernel⟩, ⟨List.mem_of_getElem? (i := 319) (by decide +kernel), by decide +kernel⟩⟩
theorem kc_X4_31 : kCS RX4 31 mX4_isLetter 1 := ⟨km_X4_isLetter, ⟨List.mem_of_getElem? (i := 322) (by decide +kernel), by decide +kernel⟩, ⟨List.mem_of_getElem? (i := 323) (by decide +kernel), by decide +kernel⟩⟩
theorem kc_X4_35 : kCS RX4 35 mX4_isDigit 1 := ⟨km_X4_isDigit, ⟨List.mem_of_getElem? (i := 325) (by decide +kernel), by decide +kernel⟩, ⟨List.mem_of_getElem? (i := 326) (by decide +kernel), by decide +kernel⟩⟩
theorem kc_X4_23 : kCSN RX4 23 mX6_at 2 := ⟨km_X6_at, ⟨"LeastKnown", List.mem_of_getElem? (i := 321) (by decide +kernel)⟩, ⟨List.mem_of_getElem? (i := 243) (by decide +kernel), by decide +kernel⟩⟩
theorem ko_X4_3 : kW (Cond.methodLink RX4 3 Lib.objectInit) ∧ kW (Cond.instanceMethod Lib.objectInit) ∧ kW (Cond.code Lib.objectInit ⟨#[0xb1]⟩ 1 none) := ⟨⟨List.mem_of_getElem? (i := 81) (by decide +kernel), by decide +kernel⟩, ⟨List.mem_of_getElem? (i := 74) (by decide +kernel), by decide +kernel⟩, ⟨List.mem_of_getElem? (i := 75) (by decide +kernel), by decide +kernel⟩⟩
theorem fp_X4_9 : kPut RX4 "<init>" 9 4 0 (.array .int) := ⟨_, _, _, _, kcl_4, by decide, ⟨List.mem_of_getElem? (i := 82) (by decide +kernel), by decide +kernel⟩, rfl, Or.inr ⟨rfl, rfl, rfl⟩⟩
theorem kc_X5_46 : kCV RX5 46 mX5_everyone 0 := ⟨km_X5_everyone, ⟨List.mem_of_getElem? (i := 480) (by decide +kernel), by decide +kernel⟩, ⟨List.mem_of_getElem? (i := 481) (by decide +kernel), by decide +kernel⟩, ⟨List.mem_of_getElem? (i := 482) (by decide +kernel), by decide +kernel⟩⟩
theorem fg_X5_50 : kGet RX5 50 2 1 := ⟨_, _, _, _, kcl_2, by decide, ⟨List.mem_of_getElem? (i := 126) (by decide +kernel), by decide +kernel⟩⟩
theorem kc_X5_55 : kCS RX5 55 mX5_leastOf 2 := ⟨km_X5_leastOf, ⟨List.mem_of_getElem? (i := 484) (by decide +kernel), by decide +kernel⟩, ⟨List.mem_of_getElem? (i := 485) (by decide +kernel), by decide +kernel⟩⟩
theorem fg_X5_58 : kGet RX5 58 2 4 := ⟨_, _, _, _, kcl_2, by decide, ⟨List.mem_of_getElem? (i := 132) (by decide +kernel), by decide +kernel⟩⟩
theorem fg_X5_32 : kGet RX5 32 5 4 := ⟨_, _, _, _, kcl_5, by decide, ⟨List.mem_of_getElem? (i := 219) (by decide +kernel), by decide +kernel⟩⟩
theorem kc_X5_61 : kCV RX5 61 mX5_firstWith 2 := ⟨km_X5_firstWith, ⟨List.mem_of_getElem? (i := 487) (by decide +kernel), by decide +kernel⟩, ⟨List.mem_of_getElem? (i := 489) (by decide +kernel), by decide +kernel⟩, ⟨List.mem_of_getElem? (i := 10) (by decide +kernel), by decide +kernel⟩⟩
theorem fg_X5_9 : kGet RX5 9 5 0 := ⟨_, _, _, _, kcl_5, by decide, ⟨List.mem_of_getElem? (i := 204) (by decide +kernel), by decide +kernel⟩⟩
theorem kc_X5_21 : kCSN RX5 21 mX6_fill 2 := ⟨km_X6_fill, ⟨"LeastKnown", List.mem_of_getElem? (i := 201) (by decide +kernel)⟩, ⟨List.mem_of_getElem? (i := 202) (by decide +kernel), by decide +kernel⟩⟩
theorem fg_X5_15 : kGet RX5 15 5 1 := ⟨_, _, _, _, kcl_5, by decide, ⟨List.mem_of_getElem? (i := 206) (by decide +kernel), by decide +kernel⟩⟩
theorem fp_X5_25 (name : String) : kPut RX5 name 25 5 2 (.int) := ⟨_, _, _, _, kcl_5, by decide, ⟨List.mem_of_getElem? (i := 210) (by decide +kernel), by decide +kernel⟩, rfl, Or.inl rfl⟩
theorem fp_X5_29 (name : String) : kPut RX5 name 29 5 3 (.int) := ⟨_, _, _, _, kcl_5, by decide, ⟨List.mem_of_getElem? (i := 215) (by decide +kernel), by decide +kernel⟩, rfl, Or.inl rfl⟩
theorem fp_X5_32 (name : String) : kPut RX5 name 32 5 4 (.int) := ⟨_, _, _, _, kcl_5, by decide, ⟨List.mem_of_getElem? (i := 219) (by decide +kernel), by decide +kernel⟩, rfl, Or.inl rfl⟩
theorem fp_X5_35 (name : String) : kPut RX5 name 35 5 5 (.int) := ⟨_, _, _, _, kcl_5, by decide, ⟨List.mem_of_getElem? (i := 222) (by decide +kernel), by decide +kernel⟩, rfl, Or.inl rfl⟩
theorem fg_X5_25 : kGet RX5 25 5 2 := ⟨_, _, _, _, kcl_5, by decide, ⟨List.mem_of_getElem? (i := 210) (by decide +kernel), by decide +kernel⟩⟩
theorem kc_X5_38 : kCSN RX5 38 mX6_at 2 := ⟨km_X6_at, ⟨"LeastKnown", List.mem_of_getElem? (i := 426) (by decide +kernel)⟩, ⟨List.mem_of_getElem? (i := 243) (by decide +kernel), by decide +kernel⟩⟩
theorem fg_X5_35 : kGet RX5 35 5 5 := ⟨_, _, _, _, kcl_5, by decide, ⟨List.mem_of_getElem? (i := 222) (by decide +kernel), by decide +kernel⟩⟩
theorem ko_X5_3 : kW (Cond.methodLink RX5 3 Lib.objectInit) ∧ kW (Cond.instanceMethod Lib.objectInit) ∧ kW (Cond.code Lib.objectInit ⟨#[0xb1]⟩ 1 none) := ⟨⟨List.mem_of_getElem? (i := 196) (by decide +kernel), by decide +kernel⟩, ⟨List.mem_of_getElem? (i := 74) (by decide +kernel), by decide +kernel⟩, ⟨List.mem_of_getElem? (i := 75) (by decide +kernel), by decide +kernel⟩⟩
theorem fp_X5_9 : kPut RX5 "<init>" 9 5 0 (.array .int) := ⟨_, _, _, _, kcl_5, by decide, ⟨List.mem_of_getElem? (i := 204) (by decide +kernel), by decide +kernel⟩, rfl, Or.inr ⟨rfl, rfl, rfl⟩⟩
theorem fp_X5_15 : kPut RX5 "<init>" 15 5 1 (.array .int) := ⟨_, _, _, _, kcl_5, by decide, ⟨List.mem_of_getElem? (i := 206) (by decide +kernel), by decide +kernel⟩, rfl, Or.inr ⟨rfl, rfl, rfl⟩⟩
theorem kc_X5_18 : kCV RX5 18 mX5_empty 0 := ⟨km_X5_empty, ⟨List.mem_of_getElem? (i := 197) (by decide +kernel), by decide +kernel⟩, ⟨List.mem_of_getElem? (i := 198) (by decide +kernel), by decide +kernel⟩, ⟨List.mem_of_getElem? (i := 199) (by decide +kernel), by decide +kernel⟩⟩
theorem kc_X5_42 : kCSN RX5 42 mX6_put 3 := ⟨km_X6_put, ⟨"LeastKnown", List.mem_of_getElem? (i := 427) (by decide +kernel)⟩, ⟨List.mem_of_getElem? (i := 250) (by decide +kernel), by decide +kernel⟩⟩
theorem fg_X6_26 : kGet RX6 26 6 2 := ⟨_, _, _, _, kcl_6, by decide, ⟨List.mem_of_getElem? (i := 261) (by decide +kernel), by decide +kernel⟩⟩
theorem fg_X6_134 : kGet RX6 134 2 5 := ⟨_, _, _, _, kcl_2, by decide, ⟨List.mem_of_getElem? (i := 134) (by decide +kernel), by decide +kernel⟩⟩
theorem fg_X6_50 : kGet RX6 50 6 6 := ⟨_, _, _, _, kcl_6, by decide, ⟨List.mem_of_getElem? (i := 265) (by decide +kernel), by decide +kernel⟩⟩
theorem kc_X6_57 : kCV RX6 57 mX2_begin 1 := ⟨km_X2_begin, ⟨List.mem_of_getElem? (i := 238) (by decide +kernel), by decide +kernel⟩, ⟨List.mem_of_getElem? (i := 239) (by decide +kernel), by decide +kernel⟩, ⟨List.mem_of_getElem? (i := 240) (by decide +kernel), by decide +kernel⟩⟩
theorem fg_X6_225 : kGet RX6 225 6 8 := ⟨_, _, _, _, kcl_6, by decide, ⟨List.mem_of_getElem? (i := 267) (by decide +kernel), by decide +kernel⟩⟩
theorem kl_X6_235 : kW (Cond.constantLong RX6 235 (10000)) := ⟨List.mem_of_getElem? (i := 655) (by decide +kernel), by decide +kernel⟩
theorem fp_X6_225 (name : String) : kPut RX6 name 225 6 8 (.long) := ⟨_, _, _, _, kcl_6, by decide, ⟨List.mem_of_getElem? (i := 267) (by decide +kernel), by decide +kernel⟩, rfl, Or.inl rfl⟩
theorem kc_X6_196 : kCV RX6 196 mX6_asShy 1 := ⟨km_X6_asShy, ⟨List.mem_of_getElem? (i := 636) (by decide +kernel), by decide +kernel⟩, ⟨List.mem_of_getElem? (i := 638) (by decide +kernel), by decide +kernel⟩, ⟨List.mem_of_getElem? (i := 18) (by decide +kernel), by decide +kernel⟩⟩
theorem kl_X6_231 : kW (Cond.constantLong RX6 231 (100)) := ⟨List.mem_of_getElem? (i := 645) (by decide +kernel), by decide +kernel⟩
theorem kc_X6_193 : kCV RX6 193 mX6_asPerson 1 := ⟨km_X6_asPerson, ⟨List.mem_of_getElem? (i := 632) (by decide +kernel), by decide +kernel⟩, ⟨List.mem_of_getElem? (i := 634) (by decide +kernel), by decide +kernel⟩, ⟨List.mem_of_getElem? (i := 17) (by decide +kernel), by decide +kernel⟩⟩
theorem fg_X6_108 : kGet RX6 108 2 3 := ⟨_, _, _, _, kcl_2, by decide, ⟨List.mem_of_getElem? (i := 130) (by decide +kernel), by decide +kernel⟩⟩
theorem kc_X6_97 : kCS RX6 97 mX6_at 2 := ⟨km_X6_at, ⟨List.mem_of_getElem? (i := 458) (by decide +kernel), by decide +kernel⟩, ⟨List.mem_of_getElem? (i := 243) (by decide +kernel), by decide +kernel⟩⟩
theorem kl_X6_233 : kW (Cond.constantLong RX6 233 (1000)) := ⟨List.mem_of_getElem? (i := 650) (by decide +kernel), by decide +kernel⟩
theorem kc_X6_199 : kCV RX6 199 mX6_asKnown 1 := ⟨km_X6_asKnown, ⟨List.mem_of_getElem? (i := 641) (by decide +kernel), by decide +kernel⟩, ⟨List.mem_of_getElem? (i := 643) (by decide +kernel), by decide +kernel⟩, ⟨List.mem_of_getElem? (i := 19) (by decide +kernel), by decide +kernel⟩⟩
theorem fg_X6_93 : kGet RX6 93 2 1 := ⟨_, _, _, _, kcl_2, by decide, ⟨List.mem_of_getElem? (i := 127) (by decide +kernel), by decide +kernel⟩⟩
theorem kl_X6_229 : kW (Cond.constantLong RX6 229 (10)) := ⟨List.mem_of_getElem? (i := 640) (by decide +kernel), by decide +kernel⟩
theorem kc_X6_101 : kCV RX6 101 mX2_acquaintances 1 := ⟨km_X2_acquaintances, ⟨List.mem_of_getElem? (i := 459) (by decide +kernel), by decide +kernel⟩, ⟨List.mem_of_getElem? (i := 460) (by decide +kernel), by decide +kernel⟩, ⟨List.mem_of_getElem? (i := 461) (by decide +kernel), by decide +kernel⟩⟩
theorem kl_X6_237 : kW (Cond.constantLong RX6 237 (100000)) := ⟨List.mem_of_getElem? (i := 660) (by decide +kernel), by decide +kernel⟩
theorem kc_X6_89 : kCV RX6 89 mX6_isPerson 1 := ⟨km_X6_isPerson, ⟨List.mem_of_getElem? (i := 437) (by decide +kernel), by decide +kernel⟩, ⟨List.mem_of_getElem? (i := 439) (by decide +kernel), by decide +kernel⟩, ⟨List.mem_of_getElem? (i := 9) (by decide +kernel), by decide +kernel⟩⟩
theorem fg_X6_120 : kGet RX6 120 5 2 := ⟨_, _, _, _, kcl_5, by decide, ⟨List.mem_of_getElem? (i := 213) (by decide +kernel), by decide +kernel⟩⟩
theorem kc_X6_178 : kCV RX6 178 mX2_fewestAsks 3 := ⟨km_X2_fewestAsks, ⟨List.mem_of_getElem? (i := 610) (by decide +kernel), by decide +kernel⟩, ⟨List.mem_of_getElem? (i := 611) (by decide +kernel), by decide +kernel⟩, ⟨List.mem_of_getElem? (i := 612) (by decide +kernel), by decide +kernel⟩⟩
theorem kc_X6_161 : kCS RX6 161 mX6_isChoice 1 := ⟨km_X6_isChoice, ⟨List.mem_of_getElem? (i := 576) (by decide +kernel), by decide +kernel⟩, ⟨List.mem_of_getElem? (i := 577) (by decide +kernel), by decide +kernel⟩⟩
theorem kc_X6_211 : kCV RX6 211 mX6_imageOf 1 := ⟨km_X6_imageOf, ⟨List.mem_of_getElem? (i := 665) (by decide +kernel), by decide +kernel⟩, ⟨List.mem_of_getElem? (i := 667) (by decide +kernel), by decide +kernel⟩, ⟨List.mem_of_getElem? (i := 23) (by decide +kernel), by decide +kernel⟩⟩
theorem fg_X6_73 : kGet RX6 73 1 1 := ⟨_, _, _, _, kcl_1, by decide, ⟨List.mem_of_getElem? (i := 162) (by decide +kernel), by decide +kernel⟩⟩
theorem fg_X6_215 : kGet RX6 215 1 0 := ⟨_, _, _, _, kcl_1, by decide, ⟨List.mem_of_getElem? (i := 161) (by decide +kernel), by decide +kernel⟩⟩
theorem kc_X6_218 : kCV RX6 218 mX2_copyFrom 1 := ⟨km_X2_copyFrom, ⟨List.mem_of_getElem? (i := 669) (by decide +kernel), by decide +kernel⟩, ⟨List.mem_of_getElem? (i := 551) (by decide +kernel), by decide +kernel⟩, ⟨List.mem_of_getElem? (i := 552) (by decide +kernel), by decide +kernel⟩⟩
theorem fg_X6_43 : kGet RX6 43 6 5 := ⟨_, _, _, _, kcl_6, by decide, ⟨List.mem_of_getElem? (i := 264) (by decide +kernel), by decide +kernel⟩⟩
theorem kc_X6_164 : kCV RX6 164 mX0_fewestPairs 4 := ⟨km_X0_fewestPairs, ⟨List.mem_of_getElem? (i := 579) (by decide +kernel), by decide +kernel⟩, ⟨List.mem_of_getElem? (i := 580) (by decide +kernel), by decide +kernel⟩, ⟨List.mem_of_getElem? (i := 581) (by decide +kernel), by decide +kernel⟩⟩
theorem fg_X6_168 : kGet RX6 168 0 0 := ⟨_, _, _, _, kcl_0, by decide, ⟨List.mem_of_getElem? (i := 177) (by decide +kernel), by decide +kernel⟩⟩
theorem kc_X6_123 : kCV RX6 123 mX5_choose 1 := ⟨km_X5_choose, ⟨List.mem_of_getElem? (i := 476) (by decide +kernel), by decide +kernel⟩, ⟨List.mem_of_getElem? (i := 477) (by decide +kernel), by decide +kernel⟩, ⟨List.mem_of_getElem? (i := 478) (by decide +kernel), by decide +kernel⟩⟩
theorem fg_X6_10 : kGet RX6 10 6 0 := ⟨_, _, _, _, kcl_6, by decide, ⟨List.mem_of_getElem? (i := 259) (by decide +kernel), by decide +kernel⟩⟩
theorem fg_X6_61 : kGet RX6 61 4 1 := ⟨_, _, _, _, kcl_4, by decide, ⟨List.mem_of_getElem? (i := 84) (by decide +kernel), by decide +kernel⟩⟩
theorem fp_X6_61 (name : String) : kPut RX6 name 61 4 1 (.int) := ⟨_, _, _, _, kcl_4, by decide, ⟨List.mem_of_getElem? (i := 84) (by decide +kernel), by decide +kernel⟩, rfl, Or.inl rfl⟩
theorem kc_X6_149 : kCV RX6 149 mX2_allCounts 0 := ⟨km_X2_allCounts, ⟨List.mem_of_getElem? (i := 534) (by decide +kernel), by decide +kernel⟩, ⟨List.mem_of_getElem? (i := 535) (by decide +kernel), by decide +kernel⟩, ⟨List.mem_of_getElem? (i := 536) (by decide +kernel), by decide +kernel⟩⟩
theorem kc_X6_222 : kCV RX6 222 mX5_habits 0 := ⟨km_X5_habits, ⟨List.mem_of_getElem? (i := 678) (by decide +kernel), by decide +kernel⟩, ⟨List.mem_of_getElem? (i := 679) (by decide +kernel), by decide +kernel⟩, ⟨List.mem_of_getElem? (i := 680) (by decide +kernel), by decide +kernel⟩⟩
theorem kc_X6_171 : kCV RX6 171 mX0_lastDays 5 := ⟨km_X0_lastDays, ⟨List.mem_of_getElem? (i := 597) (by decide +kernel), by decide +kernel⟩, ⟨List.mem_of_getElem? (i := 598) (by decide +kernel), by decide +kernel⟩, ⟨List.mem_of_getElem? (i := 599) (by decide +kernel), by decide +kernel⟩⟩
theorem fg_X6_175 : kGet RX6 175 0 1 := ⟨_, _, _, _, kcl_0, by decide, ⟨List.mem_of_getElem? (i := 179) (by decide +kernel), by decide +kernel⟩⟩
theorem kc_X6_137 : kCS RX6 137 mJ9_min_7cf53 2 := ⟨km_J9_min_7cf53, ⟨List.mem_of_getElem? (i := 512) (by decide +kernel), by decide +kernel⟩, ⟨List.mem_of_getElem? (i := 513) (by decide +kernel), by decide +kernel⟩⟩
theorem kc_X6_142 : kCV RX6 142 mX2_spring 1 := ⟨km_X2_spring, ⟨List.mem_of_getElem? (i := 515) (by decide +kernel), by decide +kernel⟩, ⟨List.mem_of_getElem? (i := 516) (by decide +kernel), by decide +kernel⟩, ⟨List.mem_of_getElem? (i := 517) (by decide +kernel), by decide +kernel⟩⟩
theorem fg_X6_146 : kGet RX6 146 2 6 := ⟨_, _, _, _, kcl_2, by decide, ⟨List.mem_of_getElem? (i := 136) (by decide +kernel), by decide +kernel⟩⟩
theorem fg_X6_33 : kGet RX6 33 6 3 := ⟨_, _, _, _, kcl_6, by decide, ⟨List.mem_of_getElem? (i := 262) (by decide +kernel), by decide +kernel⟩⟩
theorem fg_X6_37 : kGet RX6 37 6 4 := ⟨_, _, _, _, kcl_6, by decide, ⟨List.mem_of_getElem? (i := 263) (by decide +kernel), by decide +kernel⟩⟩
theorem ko_X6_1 : kW (Cond.methodLink RX6 1 Lib.objectInit) ∧ kW (Cond.instanceMethod Lib.objectInit) ∧ kW (Cond.code Lib.objectInit ⟨#[0xb1]⟩ 1 none) := ⟨⟨List.mem_of_getElem? (i := 73) (by decide +kernel), by decide +kernel⟩, ⟨List.mem_of_getElem? (i := 74) (by decide +kernel), by decide +kernel⟩, ⟨List.mem_of_getElem? (i := 75) (by decide +kernel), by decide +kernel⟩⟩
theorem kn_X6_7 : kNew RX6 7 4 2 [.null, .int 0] := ⟨_, _, _, kcl_4, ⟨List.mem_of_getElem? (i := 76) (by decide +kernel), by decide +kernel⟩, ⟨List.mem_of_getElem? (i := 77) (by decide +kernel), by decide +kernel⟩, ⟨List.mem_of_getElem? (i := 55) (by decide +kernel), by decide +kernel⟩, by decide +kernel⟩
theorem kc_X6_9 : kCIN RX6 9 mX4_init 0 := ⟨km_X4_init, ⟨"LeastKnown", List.mem_of_getElem? (i := 78) (by decide +kernel)⟩, ⟨List.mem_of_getElem? (i := 79) (by decide +kernel), by decide +kernel⟩, rfl, rfl⟩
theorem fp_X6_10 : kPut RX6 "<init>" 10 6 0 (.object "LeastKnown$Text") := ⟨_, _, _, _, kcl_6, by decide, ⟨List.mem_of_getElem? (i := 259) (by decide +kernel), by decide +kernel⟩, rfl, Or.inr ⟨rfl, rfl, rfl⟩⟩
theorem kn_X6_16 : kNew RX6 16 3 6 [.null, .null, .int 0, .int 0, .int 0, .int 0] := ⟨_, _, _, kcl_3, ⟨List.mem_of_getElem? (i := 92) (by decide +kernel), by decide +kernel⟩, ⟨List.mem_of_getElem? (i := 93) (by decide +kernel), by decide +kernel⟩, ⟨List.mem_of_getElem? (i := 56) (by decide +kernel), by decide +kernel⟩, by decide +kernel⟩
theorem kc_X6_18 : kCIN RX6 18 mX3_init 0 := ⟨km_X3_init, ⟨"LeastKnown", List.mem_of_getElem? (i := 94) (by decide +kernel)⟩, ⟨List.mem_of_getElem? (i := 95) (by decide +kernel), by decide +kernel⟩, rfl, rfl⟩
theorem fp_X6_19 : kPut RX6 "<init>" 19 6 1 (.object "LeastKnown$Reader") := ⟨_, _, _, _, kcl_6, by decide, ⟨List.mem_of_getElem? (i := 260) (by decide +kernel), by decide +kernel⟩, rfl, Or.inr ⟨rfl, rfl, rfl⟩⟩
theorem kn_X6_23 : kNew RX6 23 2 7 [.null, .null, .null, .null, .int 0, .int 0, .int 0] := ⟨_, _, _, kcl_2, ⟨List.mem_of_getElem? (i := 117) (by decide +kernel), by decide +kernel⟩, ⟨List.mem_of_getElem? (i := 118) (by decide +kernel), by decide +kernel⟩, ⟨List.mem_of_getElem? (i := 57) (by decide +kernel), by decide +kernel⟩, by decide +kernel⟩
theorem kc_X6_25 : kCIN RX6 25 mX2_init 0 := ⟨km_X2_init, ⟨"LeastKnown", List.mem_of_getElem? (i := 119) (by decide +kernel)⟩, ⟨List.mem_of_getElem? (i := 120) (by decide +kernel), by decide +kernel⟩, rfl, rfl⟩
theorem fp_X6_26 : kPut RX6 "<init>" 26 6 2 (.object "LeastKnown$Now") := ⟨_, _, _, _, kcl_6, by decide, ⟨List.mem_of_getElem? (i := 261) (by decide +kernel), by decide +kernel⟩, rfl, Or.inr ⟨rfl, rfl, rfl⟩⟩
theorem kn_X6_30 : kNew RX6 30 1 2 [.null, .int 0] := ⟨_, _, _, kcl_1, ⟨List.mem_of_getElem? (i := 152) (by decide +kernel), by decide +kernel⟩, ⟨List.mem_of_getElem? (i := 153) (by decide +kernel), by decide +kernel⟩, ⟨List.mem_of_getElem? (i := 58) (by decide +kernel), by decide +kernel⟩, by decide +kernel⟩
theorem kc_X6_32 : kCIN RX6 32 mX1_init 0 := ⟨km_X1_init, ⟨"LeastKnown", List.mem_of_getElem? (i := 154) (by decide +kernel)⟩, ⟨List.mem_of_getElem? (i := 155) (by decide +kernel), by decide +kernel⟩, rfl, rfl⟩
theorem fp_X6_33 : kPut RX6 "<init>" 33 6 3 (.object "LeastKnown$Image") := ⟨_, _, _, _, kcl_6, by decide, ⟨List.mem_of_getElem? (i := 262) (by decide +kernel), by decide +kernel⟩, rfl, Or.inr ⟨rfl, rfl, rfl⟩⟩
theorem fp_X6_37 : kPut RX6 "<init>" 37 6 4 (.object "LeastKnown$Image") := ⟨_, _, _, _, kcl_6, by decide, ⟨List.mem_of_getElem? (i := 263) (by decide +kernel), by decide +kernel⟩, rfl, Or.inr ⟨rfl, rfl, rfl⟩⟩
theorem kn_X6_40 : kNew RX6 40 0 4 [.null, .int 0, .null, .null] := ⟨_, _, _, kcl_0, ⟨List.mem_of_getElem? (i := 168) (by decide +kernel), by decide +kernel⟩, ⟨List.mem_of_getElem? (i := 169) (by decide +kernel), by decide +kernel⟩, ⟨List.mem_of_getElem? (i := 59) (by decide +kernel), by decide +kernel⟩, by decide +kernel⟩
theorem kc_X6_42 : kCIN RX6 42 mX0_init 0 := ⟨km_X0_init, ⟨"LeastKnown", List.mem_of_getElem? (i := 170) (by decide +kernel)⟩, ⟨List.mem_of_getElem? (i := 171) (by decide +kernel), by decide +kernel⟩, rfl, rfl⟩
theorem fp_X6_43 : kPut RX6 "<init>" 43 6 5 (.object "LeastKnown$Foretelling") := ⟨_, _, _, _, kcl_6, by decide, ⟨List.mem_of_getElem? (i := 264) (by decide +kernel), by decide +kernel⟩, rfl, Or.inr ⟨rfl, rfl, rfl⟩⟩
theorem kn_X6_47 : kNew RX6 47 5 6 [.null, .null, .int 0, .int 0, .int 0, .int 0] := ⟨_, _, _, kcl_5, ⟨List.mem_of_getElem? (i := 191) (by decide +kernel), by decide +kernel⟩, ⟨List.mem_of_getElem? (i := 192) (by decide +kernel), by decide +kernel⟩, ⟨List.mem_of_getElem? (i := 60) (by decide +kernel), by decide +kernel⟩, by decide +kernel⟩
theorem kc_X6_49 : kCI RX6 49 mX5_init 0 := ⟨km_X5_init, ⟨List.mem_of_getElem? (i := 193) (by decide +kernel), by decide +kernel⟩, ⟨List.mem_of_getElem? (i := 194) (by decide +kernel), by decide +kernel⟩, rfl, rfl⟩
theorem fp_X6_50 (name : String) : kPut RX6 name 50 6 6 (.object "LeastKnown$Town") := ⟨_, _, _, _, kcl_6, by decide, ⟨List.mem_of_getElem? (i := 265) (by decide +kernel), by decide +kernel⟩, rfl, Or.inl rfl⟩
theorem fp_X6_54 (name : String) : kPut RX6 name 54 6 7 (.object "LeastKnown$Town") := ⟨_, _, _, _, kcl_6, by decide, ⟨List.mem_of_getElem? (i := 266) (by decide +kernel), by decide +kernel⟩, rfl, Or.inl rfl⟩
theorem kc_X6_77 : kCV RX6 77 mX6_isPair 2 := ⟨km_X6_isPair, ⟨List.mem_of_getElem? (i := 433) (by decide +kernel), by decide +kernel⟩, ⟨List.mem_of_getElem? (i := 435) (by decide +kernel), by decide +kernel⟩, ⟨List.mem_of_getElem? (i := 8) (by decide +kernel), by decide +kernel⟩⟩
theorem kc_X6_81 : kCV RX6 81 mX2_isAware 2 := ⟨km_X2_isAware, ⟨List.mem_of_getElem? (i := 441) (by decide +kernel), by decide +kernel⟩, ⟨List.mem_of_getElem? (i := 442) (by decide +kernel), by decide +kernel⟩, ⟨List.mem_of_getElem? (i := 443) (by decide +kernel), by decide +kernel⟩⟩
theorem kc_X6_127 : kCV RX6 127 mX2_learn 2 := ⟨km_X2_learn, ⟨List.mem_of_getElem? (i := 495) (by decide +kernel), by decide +kernel⟩, ⟨List.mem_of_getElem? (i := 496) (by decide +kernel), by decide +kernel⟩, ⟨List.mem_of_getElem? (i := 497) (by decide +kernel), by decide +kernel⟩⟩
theorem fp_X6_73 (name : String) : kPut RX6 name 73 1 1 (.boolean) := ⟨_, _, _, _, kcl_1, by decide, ⟨List.mem_of_getElem? (i := 162) (by decide +kernel), by decide +kernel⟩, rfl, Or.inl rfl⟩
theorem fg_X6_111 : kGet RX6 111 5 4 := ⟨_, _, _, _, kcl_5, by decide, ⟨List.mem_of_getElem? (i := 220) (by decide +kernel), by decide +kernel⟩⟩
theorem fg_X6_114 : kGet RX6 114 5 5 := ⟨_, _, _, _, kcl_5, by decide, ⟨List.mem_of_getElem? (i := 223) (by decide +kernel), by decide +kernel⟩⟩
theorem fg_X6_117 : kGet RX6 117 5 3 := ⟨_, _, _, _, kcl_5, by decide, ⟨List.mem_of_getElem? (i := 216) (by decide +kernel), by decide +kernel⟩⟩
theorem kc_X6_130 : kCV RX6 130 mX2_setKnowers 2 := ⟨km_X2_setKnowers, ⟨List.mem_of_getElem? (i := 507) (by decide +kernel), by decide +kernel⟩, ⟨List.mem_of_getElem? (i := 246) (by decide +kernel), by decide +kernel⟩, ⟨List.mem_of_getElem? (i := 247) (by decide +kernel), by decide +kernel⟩⟩
theorem kc_X6_182 : kCV RX6 182 mX5_everyone 0 := ⟨km_X5_everyone, ⟨List.mem_of_getElem? (i := 618) (by decide +kernel), by decide +kernel⟩, ⟨List.mem_of_getElem? (i := 481) (by decide +kernel), by decide +kernel⟩, ⟨List.mem_of_getElem? (i := 482) (by decide +kernel), by decide +kernel⟩⟩
theorem kc_X6_188 : kCS RX6 188 mJ6_bitCount_0f7a4 1 := ⟨km_J6_bitCount_0f7a4, ⟨List.mem_of_getElem? (i := 627) (by decide +kernel), by decide +kernel⟩, ⟨List.mem_of_getElem? (i := 253) (by decide +kernel), by decide +kernel⟩⟩
theorem kc_X6_185 : kCV RX6 185 mX2_isParty 1 := ⟨km_X2_isParty, ⟨List.mem_of_getElem? (i := 619) (by decide +kernel), by decide +kernel⟩, ⟨List.mem_of_getElem? (i := 620) (by decide +kernel), by decide +kernel⟩, ⟨List.mem_of_getElem? (i := 621) (by decide +kernel), by decide +kernel⟩⟩
theorem fg_X6_105 : kGet RX6 105 5 1 := ⟨_, _, _, _, kcl_5, by decide, ⟨List.mem_of_getElem? (i := 207) (by decide +kernel), by decide +kernel⟩⟩
theorem kl_X6_84 : kW (Cond.constant RX6 84 (-1000000)) := ⟨List.mem_of_getElem? (i := 449) (by decide +kernel), by decide +kernel⟩
theorem kc_X6_202 : kCV RX6 202 mX6_asMayor 1 := ⟨km_X6_asMayor, ⟨List.mem_of_getElem? (i := 646) (by decide +kernel), by decide +kernel⟩, ⟨List.mem_of_getElem? (i := 648) (by decide +kernel), by decide +kernel⟩, ⟨List.mem_of_getElem? (i := 20) (by decide +kernel), by decide +kernel⟩⟩
theorem kc_X6_205 : kCV RX6 205 mX6_asHermit 1 := ⟨km_X6_asHermit, ⟨List.mem_of_getElem? (i := 651) (by decide +kernel), by decide +kernel⟩, ⟨List.mem_of_getElem? (i := 653) (by decide +kernel), by decide +kernel⟩, ⟨List.mem_of_getElem? (i := 21) (by decide +kernel), by decide +kernel⟩⟩
theorem kc_X6_208 : kCV RX6 208 mX6_asStranger 1 := ⟨km_X6_asStranger, ⟨List.mem_of_getElem? (i := 656) (by decide +kernel), by decide +kernel⟩, ⟨List.mem_of_getElem? (i := 658) (by decide +kernel), by decide +kernel⟩, ⟨List.mem_of_getElem? (i := 22) (by decide +kernel), by decide +kernel⟩⟩
theorem kc_X6_153 : kCV RX6 153 mX0_rulerAhead 3 := ⟨km_X0_rulerAhead, ⟨List.mem_of_getElem? (i := 546) (by decide +kernel), by decide +kernel⟩, ⟨List.mem_of_getElem? (i := 547) (by decide +kernel), by decide +kernel⟩, ⟨List.mem_of_getElem? (i := 548) (by decide +kernel), by decide +kernel⟩⟩
theorem kc_X6_157 : kCV RX6 157 mX0_leastRing 2 := ⟨km_X0_leastRing, ⟨List.mem_of_getElem? (i := 562) (by decide +kernel), by decide +kernel⟩, ⟨List.mem_of_getElem? (i := 563) (by decide +kernel), by decide +kernel⟩, ⟨List.mem_of_getElem? (i := 564) (by decide +kernel), by decide +kernel⟩⟩
theorem fp_X6_111 (name : String) : kPut RX6 name 111 5 4 (.int) := ⟨_, _, _, _, kcl_5, by decide, ⟨List.mem_of_getElem? (i := 220) (by decide +kernel), by decide +kernel⟩, rfl, Or.inl rfl⟩
theorem fp_X6_114 (name : String) : kPut RX6 name 114 5 5 (.int) := ⟨_, _, _, _, kcl_5, by decide, ⟨List.mem_of_getElem? (i := 223) (by decide +kernel), by decide +kernel⟩, rfl, Or.inl rfl⟩
theorem kc_X6_85 : kCV RX6 85 mX2_sight 2 := ⟨km_X2_sight, ⟨List.mem_of_getElem? (i := 450) (by decide +kernel), by decide +kernel⟩, ⟨List.mem_of_getElem? (i := 451) (by decide +kernel), by decide +kernel⟩, ⟨List.mem_of_getElem? (i := 452) (by decide +kernel), by decide +kernel⟩⟩
theorem fg_X6_19 : kGet RX6 19 6 1 := ⟨_, _, _, _, kcl_6, by decide, ⟨List.mem_of_getElem? (i := 260) (by decide +kernel), by decide +kernel⟩⟩
theorem fg_X6_54 : kGet RX6 54 6 7 := ⟨_, _, _, _, kcl_6, by decide, ⟨List.mem_of_getElem? (i := 266) (by decide +kernel), by decide +kernel⟩⟩
theorem kc_X6_69 : kCV RX6 69 mX3_read 2 := ⟨km_X3_read, ⟨List.mem_of_getElem? (i := 304) (by decide +kernel), by decide +kernel⟩, ⟨List.mem_of_getElem? (i := 305) (by decide +kernel), by decide +kernel⟩, ⟨List.mem_of_getElem? (i := 306) (by decide +kernel), by decide +kernel⟩⟩
theorem kc_X6_65 : kCV RX6 65 mX4_add 1 := ⟨km_X4_add, ⟨List.mem_of_getElem? (i := 291) (by decide +kernel), by decide +kernel⟩, ⟨List.mem_of_getElem? (i := 292) (by decide +kernel), by decide +kernel⟩, ⟨List.mem_of_getElem? (i := 293) (by decide +kernel), by decide +kernel⟩⟩
theorem kc_X7_197 : kCV RX7 197 mX7_whoOf 2 := ⟨km_X7_whoOf, ⟨List.mem_of_getElem? (i := 979) (by decide +kernel), by decide +kernel⟩, ⟨List.mem_of_getElem? (i := 981) (by decide +kernel), by decide +kernel⟩, ⟨List.mem_of_getElem? (i := 50) (by decide +kernel), by decide +kernel⟩⟩
theorem fg_X7_19 : kGet RX7 19 7 21 := ⟨_, _, _, _, kcl_7, by decide, ⟨List.mem_of_getElem? (i := 717) (by decide +kernel), by decide +kernel⟩⟩
theorem kl_X7_63 : kW (Cond.constantLong RX7 63 (256)) := ⟨List.mem_of_getElem? (i := 812) (by decide +kernel), by decide +kernel⟩
theorem fg_X7_73 : kGet RX7 73 7 4 := ⟨_, _, _, _, kcl_7, by decide, ⟨List.mem_of_getElem? (i := 700) (by decide +kernel), by decide +kernel⟩⟩
theorem kc_X7_76 : kCV RX7 76 mX7_byteAt 1 := ⟨km_X7_byteAt, ⟨List.mem_of_getElem? (i := 805) (by decide +kernel), by decide +kernel⟩, ⟨List.mem_of_getElem? (i := 807) (by decide +kernel), by decide +kernel⟩, ⟨List.mem_of_getElem? (i := 26) (by decide +kernel), by decide +kernel⟩⟩
theorem fp_X7_73 (name : String) : kPut RX7 name 73 7 4 (.int) := ⟨_, _, _, _, kcl_7, by decide, ⟨List.mem_of_getElem? (i := 700) (by decide +kernel), by decide +kernel⟩, rfl, Or.inl rfl⟩
theorem fp_X7_80 (name : String) : kPut RX7 name 80 7 6 (.int) := ⟨_, _, _, _, kcl_7, by decide, ⟨List.mem_of_getElem? (i := 702) (by decide +kernel), by decide +kernel⟩, rfl, Or.inl rfl⟩
theorem fp_X7_83 (name : String) : kPut RX7 name 83 7 5 (.int) := ⟨_, _, _, _, kcl_7, by decide, ⟨List.mem_of_getElem? (i := 701) (by decide +kernel), by decide +kernel⟩, rfl, Or.inl rfl⟩
theorem kc_X7_54 : kCS RX7 54 mX7_in 3 := ⟨km_X7_in, ⟨List.mem_of_getElem? (i := 789) (by decide +kernel), by decide +kernel⟩, ⟨List.mem_of_getElem? (i := 790) (by decide +kernel), by decide +kernel⟩⟩
theorem fg_X7_80 : kGet RX7 80 7 6 := ⟨_, _, _, _, kcl_7, by decide, ⟨List.mem_of_getElem? (i := 702) (by decide +kernel), by decide +kernel⟩⟩
theorem kc_X7_65 : kCS RX7 65 mX7_add 2 := ⟨km_X7_add, ⟨List.mem_of_getElem? (i := 809) (by decide +kernel), by decide +kernel⟩, ⟨List.mem_of_getElem? (i := 810) (by decide +kernel), by decide +kernel⟩⟩
theorem kc_X7_86 : kCS RX7 86 mX7_wordOf 1 := ⟨km_X7_wordOf, ⟨List.mem_of_getElem? (i := 813) (by decide +kernel), by decide +kernel⟩, ⟨List.mem_of_getElem? (i := 814) (by decide +kernel), by decide +kernel⟩⟩
theorem fp_X7_90 (name : String) : kPut RX7 name 90 7 7 (.int) := ⟨_, _, _, _, kcl_7, by decide, ⟨List.mem_of_getElem? (i := 703) (by decide +kernel), by decide +kernel⟩, rfl, Or.inl rfl⟩
theorem fg_X7_90 : kGet RX7 90 7 7 := ⟨_, _, _, _, kcl_7, by decide, ⟨List.mem_of_getElem? (i := 703) (by decide +kernel), by decide +kernel⟩⟩
theorem fp_X7_51 (name : String) : kPut RX7 name 51 7 0 (.int) := ⟨_, _, _, _, kcl_7, by decide, ⟨List.mem_of_getElem? (i := 696) (by decide +kernel), by decide +kernel⟩, rfl, Or.inl rfl⟩
theorem kc_X7_48 : kCV RX7 48 mX7_begins 0 := ⟨km_X7_begins, ⟨List.mem_of_getElem? (i := 692) (by decide +kernel), by decide +kernel⟩, ⟨List.mem_of_getElem? (i := 694) (by decide +kernel), by decide +kernel⟩, ⟨List.mem_of_getElem? (i := 24) (by decide +kernel), by decide +kernel⟩⟩
theorem kc_X7_146 : kCV RX7 146 mX7_isPerson 1 := ⟨km_X7_isPerson, ⟨List.mem_of_getElem? (i := 847) (by decide +kernel), by decide +kernel⟩, ⟨List.mem_of_getElem? (i := 849) (by decide +kernel), by decide +kernel⟩, ⟨List.mem_of_getElem? (i := 33) (by decide +kernel), by decide +kernel⟩⟩
theorem fg_X7_22 : kGet RX7 22 7 22 := ⟨_, _, _, _, kcl_7, by decide, ⟨List.mem_of_getElem? (i := 718) (by decide +kernel), by decide +kernel⟩⟩
theorem fg_X7_38 : kGet RX7 38 7 27 := ⟨_, _, _, _, kcl_7, by decide, ⟨List.mem_of_getElem? (i := 723) (by decide +kernel), by decide +kernel⟩⟩
theorem fg_X7_137 : kGet RX7 137 7 11 := ⟨_, _, _, _, kcl_7, by decide, ⟨List.mem_of_getElem? (i := 707) (by decide +kernel), by decide +kernel⟩⟩
theorem fg_X7_28 : kGet RX7 28 7 24 := ⟨_, _, _, _, kcl_7, by decide, ⟨List.mem_of_getElem? (i := 720) (by decide +kernel), by decide +kernel⟩⟩
theorem fg_X7_25 : kGet RX7 25 7 23 := ⟨_, _, _, _, kcl_7, by decide, ⟨List.mem_of_getElem? (i := 719) (by decide +kernel), by decide +kernel⟩⟩
theorem fg_X7_13 : kGet RX7 13 7 9 := ⟨_, _, _, _, kcl_7, by decide, ⟨List.mem_of_getElem? (i := 705) (by decide +kernel), by decide +kernel⟩⟩
theorem kc_X7_180 : kCV RX7 180 mX7_aside 1 := ⟨km_X7_aside, ⟨List.mem_of_getElem? (i := 931) (by decide +kernel), by decide +kernel⟩, ⟨List.mem_of_getElem? (i := 933) (by decide +kernel), by decide +kernel⟩, ⟨List.mem_of_getElem? (i := 41) (by decide +kernel), by decide +kernel⟩⟩
theorem kc_X7_193 : kCV RX7 193 mX7_bringsBy 3 := ⟨km_X7_bringsBy, ⟨List.mem_of_getElem? (i := 943) (by decide +kernel), by decide +kernel⟩, ⟨List.mem_of_getElem? (i := 945) (by decide +kernel), by decide +kernel⟩, ⟨List.mem_of_getElem? (i := 42) (by decide +kernel), by decide +kernel⟩⟩
theorem fg_X7_35 : kGet RX7 35 7 26 := ⟨_, _, _, _, kcl_7, by decide, ⟨List.mem_of_getElem? (i := 722) (by decide +kernel), by decide +kernel⟩⟩
theorem kc_X7_184 : kCV RX7 184 mX7_nextPair 1 := ⟨km_X7_nextPair, ⟨List.mem_of_getElem? (i := 947) (by decide +kernel), by decide +kernel⟩, ⟨List.mem_of_getElem? (i := 949) (by decide +kernel), by decide +kernel⟩, ⟨List.mem_of_getElem? (i := 43) (by decide +kernel), by decide +kernel⟩⟩
theorem kc_X7_187 : kCV RX7 187 mX7_meets 1 := ⟨km_X7_meets, ⟨List.mem_of_getElem? (i := 951) (by decide +kernel), by decide +kernel⟩, ⟨List.mem_of_getElem? (i := 953) (by decide +kernel), by decide +kernel⟩, ⟨List.mem_of_getElem? (i := 44) (by decide +kernel), by decide +kernel⟩⟩
theorem kc_X7_190 : kCV RX7 190 mX7_isSo 2 := ⟨km_X7_isSo, ⟨List.mem_of_getElem? (i := 955) (by decide +kernel), by decide +kernel⟩, ⟨List.mem_of_getElem? (i := 957) (by decide +kernel), by decide +kernel⟩, ⟨List.mem_of_getElem? (i := 45) (by decide +kernel), by decide +kernel⟩⟩
theorem fg_X7_58 : kGet RX7 58 7 3 := ⟨_, _, _, _, kcl_7, by decide, ⟨List.mem_of_getElem? (i := 699) (by decide +kernel), by decide +kernel⟩⟩
theorem fg_X7_7 : kGet RX7 7 7 2 := ⟨_, _, _, _, kcl_7, by decide, ⟨List.mem_of_getElem? (i := 698) (by decide +kernel), by decide +kernel⟩⟩
theorem kc_X7_167 : kCV RX7 167 mX7_chosenNow 0 := ⟨km_X7_chosenNow, ⟨List.mem_of_getElem? (i := 883) (by decide +kernel), by decide +kernel⟩, ⟨List.mem_of_getElem? (i := 885) (by decide +kernel), by decide +kernel⟩, ⟨List.mem_of_getElem? (i := 36) (by decide +kernel), by decide +kernel⟩⟩
theorem kc_X7_164 : kCV RX7 164 mX7_leastOf 1 := ⟨km_X7_leastOf, ⟨List.mem_of_getElem? (i := 887) (by decide +kernel), by decide +kernel⟩, ⟨List.mem_of_getElem? (i := 889) (by decide +kernel), by decide +kernel⟩, ⟨List.mem_of_getElem? (i := 37) (by decide +kernel), by decide +kernel⟩⟩
theorem fg_X7_143 : kGet RX7 143 7 15 := ⟨_, _, _, _, kcl_7, by decide, ⟨List.mem_of_getElem? (i := 711) (by decide +kernel), by decide +kernel⟩⟩
theorem kc_X7_158 : kCV RX7 158 mX7_countOf 1 := ⟨km_X7_countOf, ⟨List.mem_of_getElem? (i := 864) (by decide +kernel), by decide +kernel⟩, ⟨List.mem_of_getElem? (i := 866) (by decide +kernel), by decide +kernel⟩, ⟨List.mem_of_getElem? (i := 35) (by decide +kernel), by decide +kernel⟩⟩
theorem fg_X7_44 : kGet RX7 44 7 17 := ⟨_, _, _, _, kcl_7, by decide, ⟨List.mem_of_getElem? (i := 713) (by decide +kernel), by decide +kernel⟩⟩
theorem fp_X7_58 (name : String) : kPut RX7 name 58 7 3 (.int) := ⟨_, _, _, _, kcl_7, by decide, ⟨List.mem_of_getElem? (i := 699) (by decide +kernel), by decide +kernel⟩, rfl, Or.inl rfl⟩
theorem fg_X7_16 : kGet RX7 16 7 10 := ⟨_, _, _, _, kcl_7, by decide, ⟨List.mem_of_getElem? (i := 706) (by decide +kernel), by decide +kernel⟩⟩
theorem kc_X7_177 : kCV RX7 177 mX7_countAll 0 := ⟨km_X7_countAll, ⟨List.mem_of_getElem? (i := 919) (by decide +kernel), by decide +kernel⟩, ⟨List.mem_of_getElem? (i := 921) (by decide +kernel), by decide +kernel⟩, ⟨List.mem_of_getElem? (i := 40) (by decide +kernel), by decide +kernel⟩⟩
theorem kc_X7_214 : kCV RX7 214 mX7_firstDay 3 := ⟨km_X7_firstDay, ⟨List.mem_of_getElem? (i := 963) (by decide +kernel), by decide +kernel⟩, ⟨List.mem_of_getElem? (i := 965) (by decide +kernel), by decide +kernel⟩, ⟨List.mem_of_getElem? (i := 46) (by decide +kernel), by decide +kernel⟩⟩
theorem fg_X7_41 : kGet RX7 41 7 28 := ⟨_, _, _, _, kcl_7, by decide, ⟨List.mem_of_getElem? (i := 724) (by decide +kernel), by decide +kernel⟩⟩
theorem kc_X7_210 : kCV RX7 210 mX7_lastButOne 4 := ⟨km_X7_lastButOne, ⟨List.mem_of_getElem? (i := 967) (by decide +kernel), by decide +kernel⟩, ⟨List.mem_of_getElem? (i := 969) (by decide +kernel), by decide +kernel⟩, ⟨List.mem_of_getElem? (i := 47) (by decide +kernel), by decide +kernel⟩⟩
theorem kc_X7_200 : kCV RX7 200 mX7_asideOf 2 := ⟨km_X7_asideOf, ⟨List.mem_of_getElem? (i := 975) (by decide +kernel), by decide +kernel⟩, ⟨List.mem_of_getElem? (i := 977) (by decide +kernel), by decide +kernel⟩, ⟨List.mem_of_getElem? (i := 49) (by decide +kernel), by decide +kernel⟩⟩
theorem kc_X7_204 : kCV RX7 204 mX7_acts 3 := ⟨km_X7_acts, ⟨List.mem_of_getElem? (i := 983) (by decide +kernel), by decide +kernel⟩, ⟨List.mem_of_getElem? (i := 985) (by decide +kernel), by decide +kernel⟩, ⟨List.mem_of_getElem? (i := 51) (by decide +kernel), by decide +kernel⟩⟩
theorem kc_X7_174 : kCV RX7 174 mX7_springs 0 := ⟨km_X7_springs, ⟨List.mem_of_getElem? (i := 911) (by decide +kernel), by decide +kernel⟩, ⟨List.mem_of_getElem? (i := 913) (by decide +kernel), by decide +kernel⟩, ⟨List.mem_of_getElem? (i := 39) (by decide +kernel), by decide +kernel⟩⟩
theorem ko_X7_1 : kW (Cond.methodLink RX7 1 Lib.objectInit) ∧ kW (Cond.instanceMethod Lib.objectInit) ∧ kW (Cond.code Lib.objectInit ⟨#[0xb1]⟩ 1 none) := ⟨⟨List.mem_of_getElem? (i := 691) (by decide +kernel), by decide +kernel⟩, ⟨List.mem_of_getElem? (i := 74) (by decide +kernel), by decide +kernel⟩, ⟨List.mem_of_getElem? (i := 75) (by decide +kernel), by decide +kernel⟩⟩
theorem fp_X7_7 : kPut RX7 "<init>" 7 7 2 (.array .int) := ⟨_, _, _, _, kcl_7, by decide, ⟨List.mem_of_getElem? (i := 698) (by decide +kernel), by decide +kernel⟩, rfl, Or.inr ⟨rfl, rfl, rfl⟩⟩
theorem fp_X7_13 : kPut RX7 "<init>" 13 7 9 (.array .int) := ⟨_, _, _, _, kcl_7, by decide, ⟨List.mem_of_getElem? (i := 705) (by decide +kernel), by decide +kernel⟩, rfl, Or.inr ⟨rfl, rfl, rfl⟩⟩
theorem fp_X7_16 : kPut RX7 "<init>" 16 7 10 (.array .int) := ⟨_, _, _, _, kcl_7, by decide, ⟨List.mem_of_getElem? (i := 706) (by decide +kernel), by decide +kernel⟩, rfl, Or.inr ⟨rfl, rfl, rfl⟩⟩
theorem fp_X7_19 : kPut RX7 "<init>" 19 7 21 (.array .int) := ⟨_, _, _, _, kcl_7, by decide, ⟨List.mem_of_getElem? (i := 717) (by decide +kernel), by decide +kernel⟩, rfl, Or.inr ⟨rfl, rfl, rfl⟩⟩
theorem fp_X7_22 : kPut RX7 "<init>" 22 7 22 (.array .int) := ⟨_, _, _, _, kcl_7, by decide, ⟨List.mem_of_getElem? (i := 718) (by decide +kernel), by decide +kernel⟩, rfl, Or.inr ⟨rfl, rfl, rfl⟩⟩
theorem fp_X7_25 : kPut RX7 "<init>" 25 7 23 (.array .int) := ⟨_, _, _, _, kcl_7, by decide, ⟨List.mem_of_getElem? (i := 719) (by decide +kernel), by decide +kernel⟩, rfl, Or.inr ⟨rfl, rfl, rfl⟩⟩
theorem fp_X7_28 : kPut RX7 "<init>" 28 7 24 (.array .boolean) := ⟨_, _, _, _, kcl_7, by decide, ⟨List.mem_of_getElem? (i := 720) (by decide +kernel), by decide +kernel⟩, rfl, Or.inr ⟨rfl, rfl, rfl⟩⟩
theorem fp_X7_32 : kPut RX7 "<init>" 32 7 25 (.array .int) := ⟨_, _, _, _, kcl_7, by decide, ⟨List.mem_of_getElem? (i := 721) (by decide +kernel), by decide +kernel⟩, rfl, Or.inr ⟨rfl, rfl, rfl⟩⟩
theorem fp_X7_35 : kPut RX7 "<init>" 35 7 26 (.array .int) := ⟨_, _, _, _, kcl_7, by decide, ⟨List.mem_of_getElem? (i := 722) (by decide +kernel), by decide +kernel⟩, rfl, Or.inr ⟨rfl, rfl, rfl⟩⟩
theorem fp_X7_38 : kPut RX7 "<init>" 38 7 27 (.array .int) := ⟨_, _, _, _, kcl_7, by decide, ⟨List.mem_of_getElem? (i := 723) (by decide +kernel), by decide +kernel⟩, rfl, Or.inr ⟨rfl, rfl, rfl⟩⟩
theorem fp_X7_41 : kPut RX7 "<init>" 41 7 28 (.array .int) := ⟨_, _, _, _, kcl_7, by decide, ⟨List.mem_of_getElem? (i := 724) (by decide +kernel), by decide +kernel⟩, rfl, Or.inr ⟨rfl, rfl, rfl⟩⟩
theorem fp_X7_44 (name : String) : kPut RX7 name 44 7 17 (.int) := ⟨_, _, _, _, kcl_7, by decide, ⟨List.mem_of_getElem? (i := 713) (by decide +kernel), by decide +kernel⟩, rfl, Or.inl rfl⟩
theorem kc_X7_150 : kCV RX7 150 mX7_areTwo 2 := ⟨km_X7_areTwo, ⟨List.mem_of_getElem? (i := 843) (by decide +kernel), by decide +kernel⟩, ⟨List.mem_of_getElem? (i := 845) (by decide +kernel), by decide +kernel⟩, ⟨List.mem_of_getElem? (i := 32) (by decide +kernel), by decide +kernel⟩⟩
theorem kc_X7_154 : kCV RX7 154 mX7_isKnown 2 := ⟨km_X7_isKnown, ⟨List.mem_of_getElem? (i := 851) (by decide +kernel), by decide +kernel⟩, ⟨List.mem_of_getElem? (i := 853) (by decide +kernel), by decide +kernel⟩, ⟨List.mem_of_getElem? (i := 34) (by decide +kernel), by decide +kernel⟩⟩
theorem kc_X7_171 : kCV RX7 171 mX7_learns 2 := ⟨km_X7_learns, ⟨List.mem_of_getElem? (i := 895) (by decide +kernel), by decide +kernel⟩, ⟨List.mem_of_getElem? (i := 897) (by decide +kernel), by decide +kernel⟩, ⟨List.mem_of_getElem? (i := 38) (by decide +kernel), by decide +kernel⟩⟩
theorem fg_X7_93 : kGet RX7 93 7 8 := ⟨_, _, _, _, kcl_7, by decide, ⟨List.mem_of_getElem? (i := 704) (by decide +kernel), by decide +kernel⟩⟩
theorem kc_X7_207 : kCV RX7 207 mX7_lastDay 3 := ⟨km_X7_lastDay, ⟨List.mem_of_getElem? (i := 971) (by decide +kernel), by decide +kernel⟩, ⟨List.mem_of_getElem? (i := 973) (by decide +kernel), by decide +kernel⟩, ⟨List.mem_of_getElem? (i := 48) (by decide +kernel), by decide +kernel⟩⟩
theorem fg_X7_140 : kGet RX7 140 7 13 := ⟨_, _, _, _, kcl_7, by decide, ⟨List.mem_of_getElem? (i := 709) (by decide +kernel), by decide +kernel⟩⟩
theorem fg_X7_83 : kGet RX7 83 7 5 := ⟨_, _, _, _, kcl_7, by decide, ⟨List.mem_of_getElem? (i := 701) (by decide +kernel), by decide +kernel⟩⟩
theorem kc_X7_103 : kCV RX7 103 mX7_takes 1 := ⟨km_X7_takes, ⟨List.mem_of_getElem? (i := 823) (by decide +kernel), by decide +kernel⟩, ⟨List.mem_of_getElem? (i := 825) (by decide +kernel), by decide +kernel⟩, ⟨List.mem_of_getElem? (i := 28) (by decide +kernel), by decide +kernel⟩⟩
theorem kc_X7_161 : kCS RX7 161 mX7_ones 1 := ⟨km_X7_ones, ⟨List.mem_of_getElem? (i := 868) (by decide +kernel), by decide +kernel⟩, ⟨List.mem_of_getElem? (i := 869) (by decide +kernel), by decide +kernel⟩⟩
theorem kc_X7_217 : kCV RX7 217 mX7_isParty 1 := ⟨km_X7_isParty, ⟨List.mem_of_getElem? (i := 995) (by decide +kernel), by decide +kernel⟩, ⟨List.mem_of_getElem? (i := 997) (by decide +kernel), by decide +kernel⟩, ⟨List.mem_of_getElem? (i := 52) (by decide +kernel), by decide +kernel⟩⟩
theorem kl_X7_157 : kW (Cond.constant RX7 157 (-1000000)) := ⟨List.mem_of_getElem? (i := 859) (by decide +kernel), by decide +kernel⟩
theorem fg_X7_220 : kGet RX7 220 7 1 := ⟨_, _, _, _, kcl_7, by decide, ⟨List.mem_of_getElem? (i := 697) (by decide +kernel), by decide +kernel⟩⟩
theorem kl_X7_224 : kW (Cond.constantLong RX7 224 (11)) := ⟨List.mem_of_getElem? (i := 1007) (by decide +kernel), by decide +kernel⟩
theorem kl_X7_226 : kW (Cond.constantLong RX7 226 (101)) := ⟨List.mem_of_getElem? (i := 1008) (by decide +kernel), by decide +kernel⟩
theorem kl_X7_228 : kW (Cond.constantLong RX7 228 (1101)) := ⟨List.mem_of_getElem? (i := 1009) (by decide +kernel), by decide +kernel⟩
theorem kl_X7_230 : kW (Cond.constantLong RX7 230 (10011)) := ⟨List.mem_of_getElem? (i := 1010) (by decide +kernel), by decide +kernel⟩
theorem kl_X7_232 : kW (Cond.constantLong RX7 232 (100001)) := ⟨List.mem_of_getElem? (i := 1011) (by decide +kernel), by decide +kernel⟩
theorem fp_X7_220 (name : String) : kPut RX7 name 220 7 1 (.long) := ⟨_, _, _, _, kcl_7, by decide, ⟨List.mem_of_getElem? (i := 697) (by decide +kernel), by decide +kernel⟩, rfl, Or.inl rfl⟩
theorem fg_X7_107 : kGet RX7 107 7 12 := ⟨_, _, _, _, kcl_7, by decide, ⟨List.mem_of_getElem? (i := 708) (by decide +kernel), by decide +kernel⟩⟩
theorem fp_X7_107 (name : String) : kPut RX7 name 107 7 12 (.int) := ⟨_, _, _, _, kcl_7, by decide, ⟨List.mem_of_getElem? (i := 708) (by decide +kernel), by decide +kernel⟩, rfl, Or.inl rfl⟩
theorem kc_X7_110 : kCV RX7 110 mX7_number 2 := ⟨km_X7_number, ⟨List.mem_of_getElem? (i := 831) (by decide +kernel), by decide +kernel⟩, ⟨List.mem_of_getElem? (i := 833) (by decide +kernel), by decide +kernel⟩, ⟨List.mem_of_getElem? (i := 30) (by decide +kernel), by decide +kernel⟩⟩
theorem fp_X7_114 (name : String) : kPut RX7 name 114 7 14 (.int) := ⟨_, _, _, _, kcl_7, by decide, ⟨List.mem_of_getElem? (i := 710) (by decide +kernel), by decide +kernel⟩, rfl, Or.inl rfl⟩
theorem fp_X7_117 (name : String) : kPut RX7 name 117 7 19 (.boolean) := ⟨_, _, _, _, kcl_7, by decide, ⟨List.mem_of_getElem? (i := 715) (by decide +kernel), by decide +kernel⟩, rfl, Or.inl rfl⟩
theorem fp_X7_121 (name : String) : kPut RX7 name 121 7 16 (.int) := ⟨_, _, _, _, kcl_7, by decide, ⟨List.mem_of_getElem? (i := 712) (by decide +kernel), by decide +kernel⟩, rfl, Or.inl rfl⟩
theorem kc_X7_96 : kCV RX7 96 mX7_isWell 0 := ⟨km_X7_isWell, ⟨List.mem_of_getElem? (i := 819) (by decide +kernel), by decide +kernel⟩, ⟨List.mem_of_getElem? (i := 821) (by decide +kernel), by decide +kernel⟩, ⟨List.mem_of_getElem? (i := 27) (by decide +kernel), by decide +kernel⟩⟩
theorem fp_X7_124 (name : String) : kPut RX7 name 124 7 18 (.int) := ⟨_, _, _, _, kcl_7, by decide, ⟨List.mem_of_getElem? (i := 714) (by decide +kernel), by decide +kernel⟩, rfl, Or.inl rfl⟩
theorem fp_X7_127 (name : String) : kPut RX7 name 127 7 20 (.boolean) := ⟨_, _, _, _, kcl_7, by decide, ⟨List.mem_of_getElem? (i := 716) (by decide +kernel), by decide +kernel⟩, rfl, Or.inl rfl⟩
theorem kc_X7_130 : kCV RX7 130 mX7_readsTwo 1 := ⟨km_X7_readsTwo, ⟨List.mem_of_getElem? (i := 835) (by decide +kernel), by decide +kernel⟩, ⟨List.mem_of_getElem? (i := 837) (by decide +kernel), by decide +kernel⟩, ⟨List.mem_of_getElem? (i := 31) (by decide +kernel), by decide +kernel⟩⟩
theorem fg_X7_32 : kGet RX7 32 7 25 := ⟨_, _, _, _, kcl_7, by decide, ⟨List.mem_of_getElem? (i := 721) (by decide +kernel), by decide +kernel⟩⟩
theorem fp_X7_143 (name : String) : kPut RX7 name 143 7 15 (.int) := ⟨_, _, _, _, kcl_7, by decide, ⟨List.mem_of_getElem? (i := 711) (by decide +kernel), by decide +kernel⟩, rfl, Or.inl rfl⟩
theorem fp_X7_93 (name : String) : kPut RX7 name 93 7 8 (.int) := ⟨_, _, _, _, kcl_7, by decide, ⟨List.mem_of_getElem? (i := 704) (by decide +kernel), by decide +kernel⟩, rfl, Or.inl rfl⟩
theorem kc_X7_100 : kCV RX7 100 mX7_advances 0 := ⟨km_X7_advances, ⟨List.mem_of_getElem? (i := 801) (by decide +kernel), by decide +kernel⟩, ⟨List.mem_of_getElem? (i := 803) (by decide +kernel), by decide +kernel⟩, ⟨List.mem_of_getElem? (i := 25) (by decide +kernel), by decide +kernel⟩⟩
theorem fg_X7_117 : kGet RX7 117 7 19 := ⟨_, _, _, _, kcl_7, by decide, ⟨List.mem_of_getElem? (i := 715) (by decide +kernel), by decide +kernel⟩⟩
theorem fg_X7_127 : kGet RX7 127 7 20 := ⟨_, _, _, _, kcl_7, by decide, ⟨List.mem_of_getElem? (i := 716) (by decide +kernel), by decide +kernel⟩⟩
theorem kc_X7_134 : kCV RX7 134 mX7_readsItem 1 := ⟨km_X7_readsItem, ⟨List.mem_of_getElem? (i := 827) (by decide +kernel), by decide +kernel⟩, ⟨List.mem_of_getElem? (i := 829) (by decide +kernel), by decide +kernel⟩, ⟨List.mem_of_getElem? (i := 29) (by decide +kernel), by decide +kernel⟩⟩
theorem fp_X7_137 (name : String) : kPut RX7 name 137 7 11 (.int) := ⟨_, _, _, _, kcl_7, by decide, ⟨List.mem_of_getElem? (i := 707) (by decide +kernel), by decide +kernel⟩, rfl, Or.inl rfl⟩
theorem fg_X7_114 : kGet RX7 114 7 14 := ⟨_, _, _, _, kcl_7, by decide, ⟨List.mem_of_getElem? (i := 710) (by decide +kernel), by decide +kernel⟩⟩
theorem fp_X7_140 (name : String) : kPut RX7 name 140 7 13 (.int) := ⟨_, _, _, _, kcl_7, by decide, ⟨List.mem_of_getElem? (i := 709) (by decide +kernel), by decide +kernel⟩, rfl, Or.inl rfl⟩
theorem fg_X7_121 : kGet RX7 121 7 16 := ⟨_, _, _, _, kcl_7, by decide, ⟨List.mem_of_getElem? (i := 712) (by decide +kernel), by decide +kernel⟩⟩
theorem fg_X7_124 : kGet RX7 124 7 18 := ⟨_, _, _, _, kcl_7, by decide, ⟨List.mem_of_getElem? (i := 714) (by decide +kernel), by decide +kernel⟩⟩
theorem kl_X7_61 : kW (Cond.constantLong RX7 61 (255)) := ⟨List.mem_of_getElem? (i := 792) (by decide +kernel), by decide +kernel⟩
theorem kc_X7_69 : kCS RX7 69 mX7_named 6 := ⟨km_X7_named, ⟨List.mem_of_getElem? (i := 816) (by decide +kernel), by decide +kernel⟩, ⟨List.mem_of_getElem? (i := 817) (by decide +kernel), by decide +kernel⟩⟩
end
section
/-! CONTRACTS OF METHODS THAT MAKE NOTHING; heap rules with a fresh heap -/
def Sp0 (G : kG) (M : kM) (k : Nat) (as : List Value) (n : Nat) (h : kH) (Q : Option Value → kH → Prop) : Prop := Sp G M (k, 0, 0) as n h (fun r n' h' => n' = n ∧ Q r h')
def kQ (M : kM) (z : kZ) (Q : Option Value → kH → Prop) : Option Value → kZ → kH → Prop := fun r z' h' => z' = z ∧ kTy M r ∧ Q r h'
theorem Sp0.of {G : kG} {M : kM} {k : Nat} {as : List Value} {n : Nat} {h : kH} {Q : Option Value → kH → Prop} (hy : plainName M.1.cls = true) (hlen : (lg_sl as).length ≤ M.2.2.1)
    (H : Go G M (k, 0, 0) 0 (lv_args 0 as) [] (n, 0, 0) h (kQ M (n, 0, 0) Q)) : Sp0 G M k as n h Q := by
  refine Sp.of hy hlen (H.mono ?_)
  rintro r z' h' ⟨rfl, h2, h3⟩
  exact ⟨Nat.le_refl _, Nat.le_refl _, h2, rfl, h3⟩
theorem Sp0.mono {G : kG} {M : kM} {k : Nat} {as : List Value} {n : Nat} {h : kH} {Q Q' : Option Value → kH → Prop} (H : Sp0 G M k as n h Q) (hq : ∀ r h', Q r h' → Q' r h') : Sp0 G M k as n h Q' :=
  Sp.mono H (fun r n' h' q => ⟨q.1, hq _ _ q.2⟩)
/-- what stands outside of [lo, hi) stays -/
def kFr (lo hi : Nat) (h h' : kH) : Prop := ∀ j, (j < lo ∨ hi ≤ j) → h' j = h j
theorem kFr.rf {lo hi : Nat} {h : kH} : kFr lo hi h h := fun _ _ => rfl
theorem kFr.tr {lo hi : Nat} {h h1 h2 : kH} (a : kFr lo hi h h1) (b : kFr lo hi h1 h2) : kFr lo hi h h2 := fun j hj => (b j hj).trans (a j hj)
theorem kFr.wide {lo hi lo' hi' : Nat} {h h1 : kH} (a : kFr lo hi h h1) (u : lo' ≤ lo) (v : hi ≤ hi') : kFr lo' hi' h h1 := fun j hj => a j (by omega)
section K0
variable {G : kG} {M M' : kM} {κ : kZ} {n cs sl : Nat} {k' pc nx idx na : Nat} {lv : List (Nat × Value)} {st rest : List Value} {h : kH} {Q : Option Value → kZ → kH → Prop} {Q' : Option Value → kH → Prop}
theorem go_gf {ci k i : Nat} {fs : List Value} {v : Value} (ce : kGet M.1.cls idx ci k) (hd : decode M.2.1 pc = .ok (.getfield idx, 3)) (hi : i < n) (hh : h i = .inr (ci, fs)) (hv : fs[k]? = some v) (hn : pc + 3 = nx) (kk : Go G M κ nx lv (v :: st) (n, cs, sl) h Q) : Go G M κ pc lv (.ref (kb G + i) :: st) (n, cs, sl) h Q :=
  go_getfield ce hd hi hh hv hn kk
theorem go_pf {ci k i : Nat} {fs fs' : List Value} {v : Value} {ty0 : FieldType} (ce : kPut M.1.cls M.1.name idx ci k ty0) (hd : decode M.2.1 pc = .ok (.putfield idx, 3)) (hi : i < n) (hh : h i = .inr (ci, fs)) (hl0 : k < fs.length) (hty : narrow ty0 v = v ∧ fits ty0 v = true) (hfs : fs.set k v = fs') (hn : pc + 3 = nx)
    (kk : ∀ h' : kH, h' i = .inr (ci, fs') → (∀ j, j ≠ i → h' j = h j) → Go G M κ nx lv st (n, cs, sl) h' Q) : Go G M κ pc lv (v :: .ref (kb G + i) :: st) (n, cs, sl) h Q := by
  subst hfs
  exact go_putfield ce hd hi hh hl0 hty hn (kk _ (hu_self _ _ _) fun _ hj => hu_ne _ _ hj)
theorem go_ial (j : Nat) {i len : Nat} {f : Nat → Int32} {x : Int32} (hd : decode M.2.1 pc = .ok (.iaload, 1)) (hi : i < n) (hh : h i = .inl (G.2.1, len, .inl f)) (hx0 : x = nI j) (hj : j < len) (hlen : len < 2 ^ 31) (hn : pc + 1 = nx) (kk : Go G M κ nx lv (.int (f j) :: st) (n, cs, sl) h Q) : Go G M κ pc lv (.int x :: .ref (kb G + i) :: st) (n, cs, sl) h Q :=
  go_iaload j hd hi hh hx0 hj hlen hn kk
theorem go_bal (j : Nat) {i len : Nat} {f : Nat → Int32} {x : Int32} (hd : decode M.2.1 pc = .ok (.baload, 1)) (hi : i < n) (hh : h i = .inl (G.2.2.1, len, .inl f)) (hx0 : x = nI j) (hj : j < len) (hlen : len < 2 ^ 31) (hn : pc + 1 = nx) (kk : Go G M κ nx lv (.int (f j) :: st) (n, cs, sl) h Q) : Go G M κ pc lv (.int x :: .ref (kb G + i) :: st) (n, cs, sl) h Q :=
  go_baload j hd hi hh hx0 hj hlen hn kk
theorem go_ias (j : Nat) {i len : Nat} {f : Nat → Int32} {x v : Int32} (hd : decode M.2.1 pc = .ok (.iastore, 1)) (hi : i < n) (hh : h i = .inl (G.2.1, len, .inl f)) (hx0 : x = nI j) (hj : j < len) (hlen : len < 2 ^ 31) (hn : pc + 1 = nx)
    (kk : ∀ h' : kH, h' i = .inl (G.2.1, len, .inl (upd f j v)) → (∀ j', j' ≠ i → h' j' = h j') → Go G M κ nx lv st (n, cs, sl) h' Q) : Go G M κ pc lv (.int v :: .int x :: .ref (kb G + i) :: st) (n, cs, sl) h Q :=
  go_iastore j hd hi hh hx0 hj hlen hn (kk _ (hu_self _ _ _) fun _ hj => hu_ne _ _ hj)
theorem go_bas (j : Nat) {i len : Nat} {f : Nat → Int32} {x v : Int32} (hd : decode M.2.1 pc = .ok (.bastore, 1)) (hi : i < n) (hh : h i = .inl (G.2.2.1, len, .inl f)) (hx0 : x = nI j) (hj : j < len) (hlen : len < 2 ^ 31) (hv : narrow .boolean (.int v) = .int v) (hn : pc + 1 = nx)
    (kk : ∀ h' : kH, h' i = .inl (G.2.2.1, len, .inl (upd f j v)) → (∀ j', j' ≠ i → h' j' = h j') → Go G M κ nx lv st (n, cs, sl) h' Q) : Go G M κ pc lv (.int v :: .int x :: .ref (kb G + i) :: st) (n, cs, sl) h Q :=
  go_bastore j hd hi hh hx0 hj hlen hv hn (kk _ (hu_self _ _ _) fun _ hj => hu_ne _ _ hj)
theorem go_aln {i len : Nat} {f : Nat → Int32} (hd : decode M.2.1 pc = .ok (.arraylength, 1)) (hi : i < n) (hh : h i = .inl (G.2.1, len, .inl f)) (hn : pc + 1 = nx) (kk : Go G M κ nx lv (.int (nI len) :: st) (n, cs, sl) h Q) : Go G M κ pc lv (.ref (kb G + i) :: st) (n, cs, sl) h Q :=
  go_arraylength hd hi hh rfl hn kk
theorem go_S (as : List Value) (ce : kCS M.1.cls idx M' na) (hsp : Sp0 G M' k' as n h Q') (hd : decode M.2.1 pc = .ok (.invokestatic idx, 3)) (hst : st = as.reverse ++ rest) (hna : as.length = na) (hcat : (rest.map fun v => v.category).sum ≤ 8) (hk : k' + 1 ≤ κ.1) (hc : cs ≤ κ.2.1 ∧ sl ≤ κ.2.2) (hn : pc + 3 = nx)
    (kk : ∀ r h', Q' r h' → Go G M κ nx lv (r.toList ++ rest) (n, cs, sl) h' Q) : Go G M κ pc lv st (n, cs, sl) h Q := by
  refine go_callS (κ' := (k', 0, 0)) as ce hsp hd hst hna hcat ⟨hk, hc⟩ hn ?_
  rintro r n' h' ⟨rfl, hq⟩
  exact kk r h' hq
theorem go_SN (as : List Value) (ce : kCSN M.1.cls idx M' na) (hsp : Sp0 G M' k' as n h Q') (hd : decode M.2.1 pc = .ok (.invokestatic idx, 3)) (hst : st = as.reverse ++ rest) (hna : as.length = na) (hcat : (rest.map fun v => v.category).sum ≤ 8) (hk : k' + 1 ≤ κ.1) (hc : cs ≤ κ.2.1 ∧ sl ≤ κ.2.2) (hn : pc + 3 = nx)
    (kk : ∀ r h', Q' r h' → Go G M κ nx lv (r.toList ++ rest) (n, cs, sl) h' Q) : Go G M κ pc lv st (n, cs, sl) h Q := by
  refine go_callSN (κ' := (k', 0, 0)) as ce hsp hd hst hna hcat ⟨hk, hc⟩ hn ?_
  rintro r n' h' ⟨rfl, hq⟩
  exact kk r h' hq
theorem go_V {ci i : Nat} {fs : List Value} (as : List Value) (ce : kCV M.1.cls idx M' na) (hcl : ∃ T N, vwCl[ci]? = some (M'.1.cls, T, N)) (hi : i < n) (hh : h i = .inr (ci, fs)) (hsp : Sp0 G M' k' (.ref (kb G + i) :: as) n h Q') (hd : decode M.2.1 pc = .ok (.invokevirtual idx, 3)) (hst : st = as.reverse ++ .ref (kb G + i) :: rest) (hna : as.length = na) (hcat : (rest.map fun v => v.category).sum ≤ 8) (hk : k' + 1 ≤ κ.1) (hc : cs ≤ κ.2.1 ∧ sl ≤ κ.2.2) (hn : pc + 3 = nx)
    (kk : ∀ r h', Q' r h' → Go G M κ nx lv (r.toList ++ rest) (n, cs, sl) h' Q) : Go G M κ pc lv st (n, cs, sl) h Q := by
  refine go_callV (κ' := (k', 0, 0)) as ce hcl hi hh hsp hd hst hna hcat ⟨hk, hc⟩ hn ?_
  rintro r n' h' ⟨rfl, hq⟩
  exact kk r h' hq
theorem go_I {i : Nat} (as : List Value) (ce : kCI M.1.cls idx M' na) (hsp : Sp0 G M' k' (.ref (kb G + i) :: as) n h Q') (hd : decode M.2.1 pc = .ok (.invokespecial idx, 3)) (hst : st = as.reverse ++ .ref (kb G + i) :: rest) (hna : as.length = na) (hcat : (rest.map fun v => v.category).sum ≤ 8) (hk : k' + 1 ≤ κ.1) (hc : cs ≤ κ.2.1 ∧ sl ≤ κ.2.2) (hn : pc + 3 = nx)
    (kk : ∀ r h', Q' r h' → Go G M κ nx lv (r.toList ++ rest) (n, cs, sl) h' Q) : Go G M κ pc lv st (n, cs, sl) h Q := by
  refine go_callI (κ' := (k', 0, 0)) as ce hsp hd hst hna hcat ⟨hk, hc⟩ hn ?_
  rintro r n' h' ⟨rfl, hq⟩
  exact kk r h' hq
end K0
def Spi (G : kG) (M : kM) (k : Nat) (as : List Value) (n : Nat) (h : kH) (Q : Int32 → kH → Prop) : Prop := Sp0 G M k as n h (fun r h' => ∃ v, r = some (.int v) ∧ Q v h')
def Spl (G : kG) (M : kM) (k : Nat) (as : List Value) (n : Nat) (h : kH) (Q : Int64 → kH → Prop) : Prop := Sp0 G M k as n h (fun r h' => ∃ v, r = some (.long v) ∧ Q v h')
def Spr (G : kG) (M : kM) (k : Nat) (as : List Value) (n : Nat) (h : kH) (Q : Nat → kH → Prop) : Prop := Sp0 G M k as n h (fun r h' => ∃ i, r = some (.ref (kb G + i)) ∧ Q i h')
def Spv (G : kG) (M : kM) (k : Nat) (as : List Value) (n : Nat) (h : kH) (Q : kH → Prop) : Prop := Sp0 G M k as n h (fun r h' => r = none ∧ Q h')
def kQi (M : kM) (n : Nat) (Q : Int32 → kH → Prop) : Option Value → kZ → kH → Prop := kQ M (n, 0, 0) (fun r h' => ∃ v, r = some (.int v) ∧ Q v h')
def kQl (M : kM) (n : Nat) (Q : Int64 → kH → Prop) : Option Value → kZ → kH → Prop := kQ M (n, 0, 0) (fun r h' => ∃ v, r = some (.long v) ∧ Q v h')
def kQr (G : kG) (M : kM) (n : Nat) (Q : Nat → kH → Prop) : Option Value → kZ → kH → Prop := kQ M (n, 0, 0) (fun r h' => ∃ i, r = some (.ref (kb G + i)) ∧ Q i h')
def kQv (M : kM) (n : Nat) (Q : kH → Prop) : Option Value → kZ → kH → Prop := kQ M (n, 0, 0) (fun r h' => r = none ∧ Q h')
theorem Spi.of {G : kG} {M : kM} {k : Nat} {as : List Value} {n : Nat} {h : kH} {Q : Int32 → kH → Prop} (hy : plainName M.1.cls = true) (hlen : (lg_sl as).length ≤ M.2.2.1) (H : Go G M (k, 0, 0) 0 (lv_args 0 as) [] (n, 0, 0) h (kQi M n Q)) : Spi G M k as n h Q := Sp0.of hy hlen H
theorem Spl.of {G : kG} {M : kM} {k : Nat} {as : List Value} {n : Nat} {h : kH} {Q : Int64 → kH → Prop} (hy : plainName M.1.cls = true) (hlen : (lg_sl as).length ≤ M.2.2.1) (H : Go G M (k, 0, 0) 0 (lv_args 0 as) [] (n, 0, 0) h (kQl M n Q)) : Spl G M k as n h Q := Sp0.of hy hlen H
theorem Spr.of {G : kG} {M : kM} {k : Nat} {as : List Value} {n : Nat} {h : kH} {Q : Nat → kH → Prop} (hy : plainName M.1.cls = true) (hlen : (lg_sl as).length ≤ M.2.2.1) (H : Go G M (k, 0, 0) 0 (lv_args 0 as) [] (n, 0, 0) h (kQr G M n Q)) : Spr G M k as n h Q := Sp0.of hy hlen H
theorem Spv.of {G : kG} {M : kM} {k : Nat} {as : List Value} {n : Nat} {h : kH} {Q : kH → Prop} (hy : plainName M.1.cls = true) (hlen : (lg_sl as).length ≤ M.2.2.1) (H : Go G M (k, 0, 0) 0 (lv_args 0 as) [] (n, 0, 0) h (kQv M n Q)) : Spv G M k as n h Q := Sp0.of hy hlen H
theorem Spi.mono {G : kG} {M : kM} {k : Nat} {as : List Value} {n : Nat} {h : kH} {Q Q' : Int32 → kH → Prop} (H : Spi G M k as n h Q) (hq : ∀ v h', Q v h' → Q' v h') : Spi G M k as n h Q' := Sp0.mono H (fun _ h' ⟨v, e, q⟩ => ⟨v, e, hq v h' q⟩)
theorem Spv.mono {G : kG} {M : kM} {k : Nat} {as : List Value} {n : Nat} {h : kH} {Q Q' : kH → Prop} (H : Spv G M k as n h Q) (hq : ∀ h', Q h' → Q' h') : Spv G M k as n h Q' := Sp0.mono H (fun _ h' ⟨e, q⟩ => ⟨e, hq h' q⟩)
section K1
variable {G : kG} {M M' : kM} {κ : kZ} {n cs sl : Nat} {k' pc nx idx na : Nat} {lv : List (Nat × Value)} {st rest : List Value} {h : kH} {Q : Option Value → kZ → kH → Prop}
theorem go_reti {v : Int32} {Q : Int32 → kH → Prop} (hd : decode M.2.1 pc = .ok (.ireturn, 1)) (hty : ∃ ty, M.2.2.2 = some ty ∧ narrow ty (.int v) = .int v) (hq : Q v h) : Go G M κ pc lv [.int v] (n, 0, 0) h (kQi M n Q) := go_ireturn hd ⟨rfl, hty, v, rfl, hq⟩
theorem go_retl {v : Int64} {Q : Int64 → kH → Prop} (hd : decode M.2.1 pc = .ok (.lreturn, 1)) (hty : M.2.2.2 = some .long) (hq : Q v h) : Go G M κ pc lv [.long v] (n, 0, 0) h (kQl M n Q) := go_lreturn hd ⟨rfl, hty, v, rfl, hq⟩
theorem go_retr {i : Nat} {Q : Nat → kH → Prop} (hd : decode M.2.1 pc = .ok (.areturn, 1)) (hty : ∃ rt, M.2.2.2 = some rt ∧ ((∃ n, rt = .object n) ∨ ∃ t, rt = .array t)) (hq : Q i h) : Go G M κ pc lv [.ref (kb G + i)] (n, 0, 0) h (kQr G M n Q) := go_areturn hd ⟨rfl, hty, i, rfl, hq⟩
theorem go_retv {Q : kH → Prop} (hd : decode M.2.1 pc = .ok (.return_, 1)) (hty : M.2.2.2 = none) (hq : Q h) : Go G M κ pc lv [] (n, 0, 0) h (kQv M n Q) := go_return hd ⟨rfl, hty, rfl, hq⟩
theorem go_Si {Q' : Int32 → kH → Prop} (as : List Value) (ce : kCS M.1.cls idx M' na) (hsp : Spi G M' k' as n h Q') (hd : decode M.2.1 pc = .ok (.invokestatic idx, 3)) (hst : st = as.reverse ++ rest) (hna : as.length = na) (hcat : (rest.map fun v => v.category).sum ≤ 8) (hk : k' + 1 ≤ κ.1) (hc : cs ≤ κ.2.1 ∧ sl ≤ κ.2.2) (hn : pc + 3 = nx)
    (kk : ∀ v h', Q' v h' → Go G M κ nx lv (.int v :: rest) (n, cs, sl) h' Q) : Go G M κ pc lv st (n, cs, sl) h Q := by
  refine go_S as ce hsp hd hst hna hcat hk hc hn ?_
  rintro r h' ⟨v, rfl, hq⟩
  exact kk v h' hq
theorem go_Sl {Q' : Int64 → kH → Prop} (as : List Value) (ce : kCS M.1.cls idx M' na) (hsp : Spl G M' k' as n h Q') (hd : decode M.2.1 pc = .ok (.invokestatic idx, 3)) (hst : st = as.reverse ++ rest) (hna : as.length = na) (hcat : (rest.map fun v => v.category).sum ≤ 8) (hk : k' + 1 ≤ κ.1) (hc : cs ≤ κ.2.1 ∧ sl ≤ κ.2.2) (hn : pc + 3 = nx)
    (kk : ∀ v h', Q' v h' → Go G M κ nx lv (.long v :: rest) (n, cs, sl) h' Q) : Go G M κ pc lv st (n, cs, sl) h Q := by
  refine go_S as ce hsp hd hst hna hcat hk hc hn ?_
  rintro r h' ⟨v, rfl, hq⟩
  exact kk v h' hq
theorem go_Sr {Q' : Nat → kH → Prop} (as : List Value) (ce : kCS M.1.cls idx M' na) (hsp : Spr G M' k' as n h Q') (hd : decode M.2.1 pc = .ok (.invokestatic idx, 3)) (hst : st = as.reverse ++ rest) (hna : as.length = na) (hcat : (rest.map fun v => v.category).sum ≤ 8) (hk : k' + 1 ≤ κ.1) (hc : cs ≤ κ.2.1 ∧ sl ≤ κ.2.2) (hn : pc + 3 = nx)
    (kk : ∀ j h', Q' j h' → Go G M κ nx lv (.ref (kb G + j) :: rest) (n, cs, sl) h' Q) : Go G M κ pc lv st (n, cs, sl) h Q := by
  refine go_S as ce hsp hd hst hna hcat hk hc hn ?_
  rintro r h' ⟨v, rfl, hq⟩
  exact kk v h' hq
theorem go_Sv {Q' : kH → Prop} (as : List Value) (ce : kCS M.1.cls idx M' na) (hsp : Spv G M' k' as n h Q') (hd : decode M.2.1 pc = .ok (.invokestatic idx, 3)) (hst : st = as.reverse ++ rest) (hna : as.length = na) (hcat : (rest.map fun v => v.category).sum ≤ 8) (hk : k' + 1 ≤ κ.1) (hc : cs ≤ κ.2.1 ∧ sl ≤ κ.2.2) (hn : pc + 3 = nx)
    (kk : ∀ h', Q' h' → Go G M κ nx lv rest (n, cs, sl) h' Q) : Go G M κ pc lv st (n, cs, sl) h Q := by
  refine go_S as ce hsp hd hst hna hcat hk hc hn ?_
  rintro r h' ⟨rfl, hq⟩
  exact kk h' hq
theorem go_SNi {Q' : Int32 → kH → Prop} (as : List Value) (ce : kCSN M.1.cls idx M' na) (hsp : Spi G M' k' as n h Q') (hd : decode M.2.1 pc = .ok (.invokestatic idx, 3)) (hst : st = as.reverse ++ rest) (hna : as.length = na) (hcat : (rest.map fun v => v.category).sum ≤ 8) (hk : k' + 1 ≤ κ.1) (hc : cs ≤ κ.2.1 ∧ sl ≤ κ.2.2) (hn : pc + 3 = nx)
    (kk : ∀ v h', Q' v h' → Go G M κ nx lv (.int v :: rest) (n, cs, sl) h' Q) : Go G M κ pc lv st (n, cs, sl) h Q := by
  refine go_SN as ce hsp hd hst hna hcat hk hc hn ?_
  rintro r h' ⟨v, rfl, hq⟩
  exact kk v h' hq
theorem go_SNl {Q' : Int64 → kH → Prop} (as : List Value) (ce : kCSN M.1.cls idx M' na) (hsp : Spl G M' k' as n h Q') (hd : decode M.2.1 pc = .ok (.invokestatic idx, 3)) (hst : st = as.reverse ++ rest) (hna : as.length = na) (hcat : (rest.map fun v => v.category).sum ≤ 8) (hk : k' + 1 ≤ κ.1) (hc : cs ≤ κ.2.1 ∧ sl ≤ κ.2.2) (hn : pc + 3 = nx)
    (kk : ∀ v h', Q' v h' → Go G M κ nx lv (.long v :: rest) (n, cs, sl) h' Q) : Go G M κ pc lv st (n, cs, sl) h Q := by
  refine go_SN as ce hsp hd hst hna hcat hk hc hn ?_
  rintro r h' ⟨v, rfl, hq⟩
  exact kk v h' hq
theorem go_SNr {Q' : Nat → kH → Prop} (as : List Value) (ce : kCSN M.1.cls idx M' na) (hsp : Spr G M' k' as n h Q') (hd : decode M.2.1 pc = .ok (.invokestatic idx, 3)) (hst : st = as.reverse ++ rest) (hna : as.length = na) (hcat : (rest.map fun v => v.category).sum ≤ 8) (hk : k' + 1 ≤ κ.1) (hc : cs ≤ κ.2.1 ∧ sl ≤ κ.2.2) (hn : pc + 3 = nx)
    (kk : ∀ j h', Q' j h' → Go G M κ nx lv (.ref (kb G + j) :: rest) (n, cs, sl) h' Q) : Go G M κ pc lv st (n, cs, sl) h Q := by
  refine go_SN as ce hsp hd hst hna hcat hk hc hn ?_
  rintro r h' ⟨v, rfl, hq⟩
  exact kk v h' hq
theorem go_SNv {Q' : kH → Prop} (as : List Value) (ce : kCSN M.1.cls idx M' na) (hsp : Spv G M' k' as n h Q') (hd : decode M.2.1 pc = .ok (.invokestatic idx, 3)) (hst : st = as.reverse ++ rest) (hna : as.length = na) (hcat : (rest.map fun v => v.category).sum ≤ 8) (hk : k' + 1 ≤ κ.1) (hc : cs ≤ κ.2.1 ∧ sl ≤ κ.2.2) (hn : pc + 3 = nx)
    (kk : ∀ h', Q' h' → Go G M κ nx lv rest (n, cs, sl) h' Q) : Go G M κ pc lv st (n, cs, sl) h Q := by
  refine go_SN as ce hsp hd hst hna hcat hk hc hn ?_
  rintro r h' ⟨rfl, hq⟩
  exact kk h' hq
theorem go_Vi {ci i : Nat} {fs : List Value} {Q' : Int32 → kH → Prop} (as : List Value) (ce : kCV M.1.cls idx M' na) (hcl : ∃ T N, vwCl[ci]? = some (M'.1.cls, T, N)) (hi : i < n) (hh : h i = .inr (ci, fs)) (hsp : Spi G M' k' (.ref (kb G + i) :: as) n h Q') (hd : decode M.2.1 pc = .ok (.invokevirtual idx, 3)) (hst : st = as.reverse ++ .ref (kb G + i) :: rest) (hna : as.length = na) (hcat : (rest.map fun v => v.category).sum ≤ 8) (hk : k' + 1 ≤ κ.1) (hc : cs ≤ κ.2.1 ∧ sl ≤ κ.2.2) (hn : pc + 3 = nx)
    (kk : ∀ v h', Q' v h' → Go G M κ nx lv (.int v :: rest) (n, cs, sl) h' Q) : Go G M κ pc lv st (n, cs, sl) h Q := by
  refine go_V as ce hcl hi hh hsp hd hst hna hcat hk hc hn ?_
  rintro r h' ⟨v, rfl, hq⟩
  exact kk v h' hq
theorem go_Vl {ci i : Nat} {fs : List Value} {Q' : Int64 → kH → Prop} (as : List Value) (ce : kCV M.1.cls idx M' na) (hcl : ∃ T N, vwCl[ci]? = some (M'.1.cls, T, N)) (hi : i < n) (hh : h i = .inr (ci, fs)) (hsp : Spl G M' k' (.ref (kb G + i) :: as) n h Q') (hd : decode M.2.1 pc = .ok (.invokevirtual idx, 3)) (hst : st = as.reverse ++ .ref (kb G + i) :: rest) (hna : as.length = na) (hcat : (rest.map fun v => v.category).sum ≤ 8) (hk : k' + 1 ≤ κ.1) (hc : cs ≤ κ.2.1 ∧ sl ≤ κ.2.2) (hn : pc + 3 = nx)
    (kk : ∀ v h', Q' v h' → Go G M κ nx lv (.long v :: rest) (n, cs, sl) h' Q) : Go G M κ pc lv st (n, cs, sl) h Q := by
  refine go_V as ce hcl hi hh hsp hd hst hna hcat hk hc hn ?_
  rintro r h' ⟨v, rfl, hq⟩
  exact kk v h' hq
theorem go_Vr {ci i : Nat} {fs : List Value} {Q' : Nat → kH → Prop} (as : List Value) (ce : kCV M.1.cls idx M' na) (hcl : ∃ T N, vwCl[ci]? = some (M'.1.cls, T, N)) (hi : i < n) (hh : h i = .inr (ci, fs)) (hsp : Spr G M' k' (.ref (kb G + i) :: as) n h Q') (hd : decode M.2.1 pc = .ok (.invokevirtual idx, 3)) (hst : st = as.reverse ++ .ref (kb G + i) :: rest) (hna : as.length = na) (hcat : (rest.map fun v => v.category).sum ≤ 8) (hk : k' + 1 ≤ κ.1) (hc : cs ≤ κ.2.1 ∧ sl ≤ κ.2.2) (hn : pc + 3 = nx)
    (kk : ∀ j h', Q' j h' → Go G M κ nx lv (.ref (kb G + j) :: rest) (n, cs, sl) h' Q) : Go G M κ pc lv st (n, cs, sl) h Q := by
  refine go_V as ce hcl hi hh hsp hd hst hna hcat hk hc hn ?_
  rintro r h' ⟨v, rfl, hq⟩
  exact kk v h' hq
theorem go_Vv {ci i : Nat} {fs : List Value} {Q' : kH → Prop} (as : List Value) (ce : kCV M.1.cls idx M' na) (hcl : ∃ T N, vwCl[ci]? = some (M'.1.cls, T, N)) (hi : i < n) (hh : h i = .inr (ci, fs)) (hsp : Spv G M' k' (.ref (kb G + i) :: as) n h Q') (hd : decode M.2.1 pc = .ok (.invokevirtual idx, 3)) (hst : st = as.reverse ++ .ref (kb G + i) :: rest) (hna : as.length = na) (hcat : (rest.map fun v => v.category).sum ≤ 8) (hk : k' + 1 ≤ κ.1) (hc : cs ≤ κ.2.1 ∧ sl ≤ κ.2.2) (hn : pc + 3 = nx)
    (kk : ∀ h', Q' h' → Go G M κ nx lv rest (n, cs, sl) h' Q) : Go G M κ pc lv st (n, cs, sl) h Q := by
  refine go_V as ce hcl hi hh hsp hd hst hna hcat hk hc hn ?_
  rintro r h' ⟨rfl, hq⟩
  exact kk h' hq
end K1
/-- an index that was looked at -/
theorem ix_of {x : Int32} {len : Nat} (hlen : len < 2 ^ 31) (h1 : ¬ x < 0) (h2 : ¬ nI len ≤ x) : ∃ j, j < len ∧ x = nI j := by
  obtain ⟨j, hj, rfl⟩ := nI_of h1
  refine ⟨j, ?_, rfl⟩
  rcases Nat.lt_or_ge j len with q | q
  · exact q
  · exact absurd (nI_le q hj) h2
def bI (b : Bool) : Int32 := if b then 1 else 0
theorem nar_bI (b : Bool) : narrow .boolean (.int (bI b)) = .int (bI b) := by cases b <;> rfl
theorem bI_t {c : Prop} [Decidable c] (h : c) : (1 : Int32) = bI (decide c) := by simp [bI, h]
theorem bI_f {c : Prop} [Decidable c] (h : ¬ c) : (0 : Int32) = bI (decide c) := by simp [bI, h]
theorem bI_eq0 (b : Bool) : bI b = 0 ↔ b = false := by cases b <;> decide
theorem bI_eq1 (b : Bool) : bI b = 1 ↔ b = true := by cases b <;> decide
/-- LeastKnown.at -/
def atF (f : Nat → Int32) (len : Nat) (x : Int32) : Int32 := if 0 ≤ x ∧ x < nI len then f x.toNatClampNeg else 0
theorem atF_in {f : Nat → Int32} {len j : Nat} (hj : j < len) (hl : len < 2 ^ 31) : atF f len (nI j) = f j := by
  unfold atF
  rw [if_pos ⟨nI_pos' (by omega), nI_lt hj hl⟩, nI_clamp (by omega)]
theorem atF_out {f : Nat → Int32} {len : Nat} {x : Int32} (h : ¬ (0 ≤ x ∧ x < nI len)) : atF f len x = 0 := by
  unfold atF
  rw [if_neg h]
end
section
theorem nI_inc (a : Nat) : nI a + Int32.ofInt 1 = nI (a + 1) := nI_1 a
theorem kle {a b : Nat} (h : nI a ≤ nI b) (ha : a < 2 ^ 31 := by omega) (hb : b < 2 ^ 31 := by omega) : a ≤ b := (nI_leI ha hb).mp h
theorem knle {a b : Nat} (h : ¬ nI a ≤ nI b) (ha : a < 2 ^ 31 := by omega) (hb : b < 2 ^ 31 := by omega) : b < a := Nat.not_le.mp fun q => h ((nI_leI ha hb).mpr q)
theorem klt {a b : Nat} (h : nI a < nI b) (ha : a < 2 ^ 31 := by omega) (hb : b < 2 ^ 31 := by omega) : a < b := (nI_ltI ha hb).mp h
theorem knlt {a b : Nat} (h : ¬ nI a < nI b) (ha : a < 2 ^ 31 := by omega) (hb : b < 2 ^ 31 := by omega) : b ≤ a := Nat.not_lt.mp fun q => h ((nI_ltI ha hb).mpr q)
theorem keq {a b : Nat} (h : nI a = nI b) (ha : a < 2 ^ 31 := by omega) (hb : b < 2 ^ 31 := by omega) : a = b := (nI_eq ha hb).mp h
theorem kne {a b : Nat} (h : ¬ nI a = nI b) (ha : a < 2 ^ 31 := by omega) (hb : b < 2 ^ 31 := by omega) : a ≠ b := fun q => h (by rw [q])
theorem atF_neg {f : Nat → Int32} {len : Nat} {x : Int32} (h : x < 0) : atF f len x = 0 := atF_out fun q => by
  have h1 := (Int32.lt_iff_toInt_lt.mp h)
  have h2 := (Int32.le_iff_toInt_le.mp q.1)
  omega
theorem atF_big {f : Nat → Int32} {len : Nat} {x : Int32} (h : nI len ≤ x) : atF f len x = 0 := atF_out fun q => by
  have h1 := (Int32.le_iff_toInt_le.mp h)
  have h2 := (Int32.lt_iff_toInt_lt.mp q.2)
  omega
theorem s_at {G : kG} {n i len : Nat} {h : kH} {f : Nat → Int32} {x : Int32} (hi : i < n) (hr : h i = .inl (G.2.1, len, .inl f)) (hl : len < 2 ^ 31) : Spi G mX6_at 0 [.ref (kb G + i), .int x] n h (fun v h' => v = atF f len x ∧ h' = h) := by
  refine Spi.of (by decide) (Nat.le_of_ble_eq_true rfl) ?_
  refine go_iload_n 1 (nx := 1) dX6_at_0 rfl rfl rfl ?_
  refine go_if_lt 16 (nx := 4) dX6_at_1 rfl rfl (fun c1 => ?_) (fun c1 => ?_)
  · skip
    refine go_iconst (v := nI 0) (nx := 17) dX6_at_16 (by decide) rfl ?_
    refine go_reti dX6_at_17 ⟨_, rfl, rfl⟩ ?_
    exact ⟨(atF_neg c1).symm, rfl⟩
  · skip
    refine go_iload_n 1 (nx := 5) dX6_at_4 rfl rfl rfl ?_
    refine go_aload_n 0 (nx := 6) dX6_at_5 rfl rfl rfl ?_
    refine go_aln (nx := 7) dX6_at_6 (by omega) hr rfl ?_
    refine go_icmp_ge 16 (nx := 10) dX6_at_7 rfl rfl (fun c7 => ?_) (fun c7 => ?_)
    · skip
      refine go_iconst (v := nI 0) (nx := 17) dX6_at_16 (by decide) rfl ?_
      refine go_reti dX6_at_17 ⟨_, rfl, rfl⟩ ?_
      exact ⟨(atF_big c7).symm, rfl⟩
    · skip
      obtain ⟨j, hj, rfl⟩ := ix_of hl c1 c7
      refine go_aload_n 0 (nx := 11) dX6_at_10 rfl rfl rfl ?_
      refine go_iload_n 1 (nx := 12) dX6_at_11 rfl rfl rfl ?_
      refine go_ial (j) (nx := 13) dX6_at_12 (by omega) hr rfl hj (by omega) rfl ?_
      refine go_goto 17 dX6_at_13 rfl ?_
      refine go_reti dX6_at_17 ⟨_, rfl, rfl⟩ ?_
      exact ⟨(atF_in hj hl).symm, rfl⟩
theorem s_at_in {G : kG} {n i len j : Nat} {h : kH} {f : Nat → Int32} {x : Int32} (hi : i < n) (hr : h i = .inl (G.2.1, len, .inl f)) (hl : len < 2 ^ 31) (hx : x = nI j) (hj : j < len) : Spi G mX6_at 0 [.ref (kb G + i), .int x] n h (fun v h' => v = f j ∧ h' = h) :=
  (s_at hi hr hl).mono fun v h' q => ⟨by rw [q.1, hx, atF_in hj hl], q.2⟩
theorem s_put {G : kG} {n i len j : Nat} {h : kH} {f : Nat → Int32} {x v : Int32} (hi : i < n) (hr : h i = .inl (G.2.1, len, .inl f)) (hl : len < 2 ^ 31) (hx : x = nI j) (hj : j < len) : Spv G mX6_put 0 [.ref (kb G + i), .int x, .int v] n h (fun h' => h' i = .inl (G.2.1, len, .inl (upd f j v)) ∧ ∀ q, q ≠ i → h' q = h q) := by
  subst hx
  refine Spv.of (by decide) (Nat.le_of_ble_eq_true rfl) ?_
  refine go_iload_n 1 (nx := 1) dX6_put_0 rfl rfl rfl ?_
  refine go_if_lt 14 (nx := 4) dX6_put_1 rfl rfl (fun c1 => absurd c1 (nI_pos (by omega))) (fun c1 => ?_)
  refine go_iload_n 1 (nx := 5) dX6_put_4 rfl rfl rfl ?_
  refine go_aload_n 0 (nx := 6) dX6_put_5 rfl rfl rfl ?_
  refine go_aln (nx := 7) dX6_put_6 (by omega) hr rfl ?_
  refine go_icmp_ge 14 (nx := 10) dX6_put_7 rfl rfl (fun c7 => absurd (kle c7) (by omega)) (fun c7 => ?_)
  refine go_aload_n 0 (nx := 11) dX6_put_10 rfl rfl rfl ?_
  refine go_iload_n 1 (nx := 12) dX6_put_11 rfl rfl rfl ?_
  refine go_iload_n 2 (nx := 13) dX6_put_12 rfl rfl rfl ?_
  refine go_ias (j) (nx := 14) dX6_put_13 (by omega) hr rfl hj (by omega) rfl (fun h1 eh1 fh1 => ?_)
  have hr := eh1
  refine go_retv dX6_put_14 rfl ?_
  exact ⟨hr, fh1⟩
theorem l_fill {G : kG} {n i len : Nat} {h0 : kH} {v : Int32} (hi : i < n) (hl : len < 2 ^ 31) : ∀ (d p : Nat) (h : kH) (g : Nat → Int32), len - p < d → p ≤ len → h i = .inl (G.2.1, len, .inl g) → (∀ j, j < p → g j = v) → (∀ q, q ≠ i → h q = h0 q) → Go G mX6_fill (0, 0, 0) 2 [(2, .int (nI p)), (0, .ref (kb G + i)), (1, .int v)] [] (n, 0, 0) h (kQv mX6_fill n (fun h' => (∃ g, (∀ j, j < len → g j = v) ∧ h' i = .inl (G.2.1, len, .inl g)) ∧ ∀ q, q ≠ i → h' q = h0 q)) := by
  intro d
  induction d with
  | zero => intro p h g hd; omega
  | succ d ih =>
    intro p h g hd hp hr hg hf
    refine go_iload_n 0 (nx := 3) dX6_fill_2 rfl rfl rfl ?_
    refine go_aload_n 1 (nx := 4) dX6_fill_3 rfl rfl rfl ?_
    refine go_aln (nx := 5) dX6_fill_4 (by omega) hr rfl ?_
    refine go_icmp_ge 18 (nx := 8) dX6_fill_5 rfl rfl (fun c5 => ?_) (fun c5 => ?_)
    · skip
      refine go_retv dX6_fill_18 rfl ?_
      exact ⟨⟨g, fun j hj => hg j (Nat.lt_of_lt_of_le hj (kle c5)), hr⟩, hf⟩
    · skip
      refine go_aload_n 1 (nx := 9) dX6_fill_8 rfl rfl rfl ?_
      refine go_iload_n 0 (nx := 10) dX6_fill_9 rfl rfl rfl ?_
      refine go_iload_n 2 (nx := 11) dX6_fill_10 rfl rfl rfl ?_
      refine go_ias (p) (nx := 12) dX6_fill_11 (by omega) hr rfl (knle c5) (by omega) rfl (fun h1 eh1 fh1 => ?_)
      have hr := eh1
      refine go_iinc 0 (v := nI (p + 1)) (lv' := [_, _, _]) (nx := 15) dX6_fill_12 rfl (nI_inc p) (by decide) rfl rfl ?_
      refine go_goto 2 dX6_fill_15 rfl ?_
      refine ih (p + 1) h1 _ (by have := knle c5; omega) (knle c5) hr (fun j hj => ?_) (fun q hq => (fh1 q hq).trans (hf q hq))
      by_cases e : j = p
      · subst e; exact pk_us
      · rw [pk_un e]; exact hg j (by omega)
theorem s_fill {G : kG} {n i len : Nat} {h : kH} {f : Nat → Int32} {v : Int32} (hi : i < n) (hr : h i = .inl (G.2.1, len, .inl f)) (hl : len < 2 ^ 31) : Spv G mX6_fill 0 [.ref (kb G + i), .int v] n h (fun h' => (∃ g, (∀ j, j < len → g j = v) ∧ h' i = .inl (G.2.1, len, .inl g)) ∧ ∀ q, q ≠ i → h' q = h q) := by
  refine Spv.of (by decide) (Nat.le_of_ble_eq_true rfl) ?_
  refine go_iconst (v := nI 0) (nx := 1) dX6_fill_0 (by decide) rfl ?_
  refine go_istore_n (lv' := [_, _, _]) (nx := 2) dX6_fill_1 rfl (by decide) rfl rfl ?_
  exact l_fill hi hl (len + 1) 0 h f (by omega) (Nat.zero_le _) hr (fun j hj => absurd hj (Nat.not_lt_zero j)) (fun _ _ => rfl)
theorem l_copy {G : kG} {n i1 i2 len : Nat} {h0 : kH} {f : Nat → Int32} (hi1 : i1 < n) (hi2 : i2 < n) (hne : i1 ≠ i2) (hl : len < 2 ^ 31) : ∀ (d p : Nat) (h : kH) (g : Nat → Int32), len - p < d → p ≤ len → h i1 = .inl (G.2.1, len, .inl f) → h i2 = .inl (G.2.1, len, .inl g) → (∀ j, j < p → g j = f j) → (∀ q, q ≠ i2 → h q = h0 q) → Go G mX6_copy (0, 0, 0) 2 [(2, .int (nI p)), (0, .ref (kb G + i1)), (1, .ref (kb G + i2))] [] (n, 0, 0) h (kQv mX6_copy n (fun h' => (∃ g, (∀ j, j < len → g j = f j) ∧ h' i2 = .inl (G.2.1, len, .inl g)) ∧ ∀ q, q ≠ i2 → h' q = h0 q)) := by
  intro d
  induction d with
  | zero => intro p h g hd; omega
  | succ d ih =>
    intro p h g hd hp hr1 hr2 hg hf
    refine go_iload_n 0 (nx := 3) dX6_copy_2 rfl rfl rfl ?_
    refine go_aload_n 1 (nx := 4) dX6_copy_3 rfl rfl rfl ?_
    refine go_aln (nx := 5) dX6_copy_4 (by omega) hr1 rfl ?_
    refine go_icmp_ge 26 (nx := 8) dX6_copy_5 rfl rfl (fun c5 => ?_) (fun c5 => ?_)
    · skip
      refine go_retv dX6_copy_26 rfl ?_
      exact ⟨⟨g, fun j hj => hg j (Nat.lt_of_lt_of_le hj (kle c5)), hr2⟩, hf⟩
    · skip
      refine go_iload_n 0 (nx := 9) dX6_copy_8 rfl rfl rfl ?_
      refine go_aload_n 2 (nx := 10) dX6_copy_9 rfl rfl rfl ?_
      refine go_aln (nx := 11) dX6_copy_10 (by omega) hr2 rfl ?_
      refine go_icmp_ge 26 (nx := 14) dX6_copy_11 rfl rfl (fun c11 => (c5 c11).elim) (fun c11 => ?_)
      refine go_aload_n 2 (nx := 15) dX6_copy_14 rfl rfl rfl ?_
      refine go_iload_n 0 (nx := 16) dX6_copy_15 rfl rfl rfl ?_
      refine go_aload_n 1 (nx := 17) dX6_copy_16 rfl rfl rfl ?_
      refine go_iload_n 0 (nx := 18) dX6_copy_17 rfl rfl rfl ?_
      refine go_ial (p) (nx := 19) dX6_copy_18 (by omega) hr1 rfl (knle c5) (by omega) rfl ?_
      refine go_ias (p) (nx := 20) dX6_copy_19 (by omega) hr2 rfl (knle c5) (by omega) rfl (fun h1 eh1 fh1 => ?_)
      have hr1 := (fh1 (i1) (by omega)).trans hr1
      have hr2 := eh1
      refine go_iinc 0 (v := nI (p + 1)) (lv' := [_, _, _]) (nx := 23) dX6_copy_20 rfl (nI_inc p) (by decide) rfl rfl ?_
      refine go_goto 2 dX6_copy_23 rfl ?_
      refine ih (p + 1) h1 _ (by have := knle c5; omega) (knle c5) hr1 hr2 (fun j hj => ?_) (fun q hq => (fh1 q hq).trans (hf q hq))
      by_cases e : j = p
      · subst e; exact pk_us
      · rw [pk_un e]; exact hg j (by omega)
theorem s_copy {G : kG} {n i1 i2 len : Nat} {h : kH} {f g : Nat → Int32} (hi1 : i1 < n) (hi2 : i2 < n) (hne : i1 ≠ i2) (hr1 : h i1 = .inl (G.2.1, len, .inl f)) (hr2 : h i2 = .inl (G.2.1, len, .inl g)) (hl : len < 2 ^ 31) : Spv G mX6_copy 0 [.ref (kb G + i1), .ref (kb G + i2)] n h (fun h' => (∃ g, (∀ j, j < len → g j = f j) ∧ h' i2 = .inl (G.2.1, len, .inl g)) ∧ ∀ q, q ≠ i2 → h' q = h q) := by
  refine Spv.of (by decide) (Nat.le_of_ble_eq_true rfl) ?_
  refine go_iconst (v := nI 0) (nx := 1) dX6_copy_0 (by decide) rfl ?_
  refine go_istore_n (lv' := [_, _, _]) (nx := 2) dX6_copy_1 rfl (by decide) rfl rfl ?_
  exact l_copy hi1 hi2 hne hl (len + 1) 0 h g (by omega) (Nat.zero_le _) hr1 hr2 (fun j hj => absurd hj (Nat.not_lt_zero j)) (fun _ _ => rfl)
end
section
/-! THE MATHEMATICS: bits, counts, who knows whom, a spring -/
def bitsOf (f : Nat → Bool) : Nat := (f 0).toNat + 2 * (f 1).toNat + 4 * (f 2).toNat + 8 * (f 3).toNat + 16 * (f 4).toNat + 32 * (f 5).toNat + 64 * (f 6).toNat + 128 * (f 7).toNat
def popc (w : Nat) : Nat := (w.testBit 0).toNat + (w.testBit 1).toNat + (w.testBit 2).toNat + (w.testBit 3).toNat + (w.testBit 4).toNat + (w.testBit 5).toNat + (w.testBit 6).toNat + (w.testBit 7).toNat
def cntB (f : Nat → Bool) : Nat := (f 0).toNat + (f 1).toNat + (f 2).toNat + (f 3).toNat + (f 4).toNat + (f 5).toNat + (f 6).toNat + (f 7).toNat
theorem bits_lt (f : Nat → Bool) : bitsOf f < 256 := by
  unfold bitsOf
  have h0 := Bool.toNat_le (f 0)
  have h1 := Bool.toNat_le (f 1)
  have h2 := Bool.toNat_le (f 2)
  have h3 := Bool.toNat_le (f 3)
  have h4 := Bool.toNat_le (f 4)
  have h5 := Bool.toNat_le (f 5)
  have h6 := Bool.toNat_le (f 6)
  have h7 := Bool.toNat_le (f 7)
  omega
theorem eight {P : Nat → Prop} (h0 : P 0) (h1 : P 1) (h2 : P 2) (h3 : P 3) (h4 : P 4) (h5 : P 5) (h6 : P 6) (h7 : P 7) {i : Nat} (hi : i < 8) : P i := by
  rcases (show i = 0 ∨ i = 1 ∨ i = 2 ∨ i = 3 ∨ i = 4 ∨ i = 5 ∨ i = 6 ∨ i = 7 by omega) with rfl | rfl | rfl | rfl | rfl | rfl | rfl | rfl <;> assumption
theorem bits_key : ∀ b0 b1 b2 b3 b4 b5 b6 b7 : Bool, ((b0.toNat + 2 * b1.toNat + 4 * b2.toNat + 8 * b3.toNat + 16 * b4.toNat + 32 * b5.toNat + 64 * b6.toNat + 128 * b7.toNat).testBit 0 = b0) ∧ ((b0.toNat + 2 * b1.toNat + 4 * b2.toNat + 8 * b3.toNat + 16 * b4.toNat + 32 * b5.toNat + 64 * b6.toNat + 128 * b7.toNat).testBit 1 = b1) ∧ ((b0.toNat + 2 * b1.toNat + 4 * b2.toNat + 8 * b3.toNat + 16 * b4.toNat + 32 * b5.toNat + 64 * b6.toNat + 128 * b7.toNat).testBit 2 = b2) ∧ ((b0.toNat + 2 * b1.toNat + 4 * b2.toNat + 8 * b3.toNat + 16 * b4.toNat + 32 * b5.toNat + 64 * b6.toNat + 128 * b7.toNat).testBit 3 = b3) ∧ ((b0.toNat + 2 * b1.toNat + 4 * b2.toNat + 8 * b3.toNat + 16 * b4.toNat + 32 * b5.toNat + 64 * b6.toNat + 128 * b7.toNat).testBit 4 = b4) ∧ ((b0.toNat + 2 * b1.toNat + 4 * b2.toNat + 8 * b3.toNat + 16 * b4.toNat + 32 * b5.toNat + 64 * b6.toNat + 128 * b7.toNat).testBit 5 = b5) ∧ ((b0.toNat + 2 * b1.toNat + 4 * b2.toNat + 8 * b3.toNat + 16 * b4.toNat + 32 * b5.toNat + 64 * b6.toNat + 128 * b7.toNat).testBit 6 = b6) ∧ ((b0.toNat + 2 * b1.toNat + 4 * b2.toNat + 8 * b3.toNat + 16 * b4.toNat + 32 * b5.toNat + 64 * b6.toNat + 128 * b7.toNat).testBit 7 = b7) := by decide +kernel
theorem bits_test (f : Nat → Bool) {i : Nat} (hi : i < 8) : (bitsOf f).testBit i = f i := by
  obtain ⟨h0, h1, h2, h3, h4, h5, h6, h7⟩ := bits_key (f 0) (f 1) (f 2) (f 3) (f 4) (f 5) (f 6) (f 7)
  exact eight (P := fun i => (bitsOf f).testBit i = f i) h0 h1 h2 h3 h4 h5 h6 h7 hi
theorem popc_bits (f : Nat → Bool) : popc (bitsOf f) = cntB f := by
  unfold popc cntB
  rw [bits_test f (by decide : 0 < 8), bits_test f (by decide : 1 < 8), bits_test f (by decide : 2 < 8), bits_test f (by decide : 3 < 8), bits_test f (by decide : 4 < 8), bits_test f (by decide : 5 < 8), bits_test f (by decide : 6 < 8), bits_test f (by decide : 7 < 8)]
theorem bits_ext {f g : Nat → Bool} (h : ∀ i, i < 8 → f i = g i) : bitsOf f = bitsOf g := by
  unfold bitsOf
  rw [h 0 (by decide), h 1 (by decide), h 2 (by decide), h 3 (by decide), h 4 (by decide), h 5 (by decide), h 6 (by decide), h 7 (by decide)]
theorem cntB_ext {f g : Nat → Bool} (h : ∀ i, i < 8 → f i = g i) : cntB f = cntB g := by
  unfold cntB
  rw [h 0 (by decide), h 1 (by decide), h 2 (by decide), h 3 (by decide), h 4 (by decide), h 5 (by decide), h 6 (by decide), h 7 (by decide)]
theorem bits_of : ∀ w, w < 256 → bitsOf w.testBit = w := by decide +kernel
theorem set_key : ∀ w, w < 256 → ∀ a, a < 8 → w ||| 2 ^ a = bitsOf (fun i => w.testBit i || i == a) := by decide +kernel
theorem clr_key : ∀ w, w < 256 → ∀ a, a < 8 → w &&& (255 - 2 ^ a) = bitsOf (fun i => w.testBit i && !(i == a)) := by decide +kernel
theorem bits_set (f : Nat → Bool) {a : Nat} (ha : a < 8) : bitsOf f ||| 2 ^ a = bitsOf (fun i => f i || i == a) := by
  rw [set_key _ (bits_lt f) a ha]
  exact bits_ext fun i hi => by rw [bits_test f hi]
theorem bits_clr (f : Nat → Bool) {a : Nat} (ha : a < 8) : bitsOf f &&& (255 - 2 ^ a) = bitsOf (fun i => f i && !(i == a)) := by
  rw [clr_key _ (bits_lt f) a ha]
  exact bits_ext fun i hi => by rw [bits_test f hi]
theorem i_get : ∀ w, w < 256 → ∀ a, a < 8 → (nI w >>> (nI a &&& 31)) &&& nI 1 = bI (w.testBit a) := by decide +kernel
theorem i_set : ∀ w, w < 256 → ∀ a, a < 8 → nI w ||| (nI 1 <<< (nI a &&& 31)) = nI (w ||| 2 ^ a) := by decide +kernel
theorem i_clr : ∀ w, w < 256 → ∀ a, a < 8 → nI w &&& ((nI 1 <<< (nI a &&& 31)) ^^^ (-1)) = nI (w &&& (255 - 2 ^ a)) := by decide +kernel
theorem i_bit : ∀ a, a < 8 → nI 1 <<< (nI a &&& 31) = nI (2 ^ a) := by decide +kernel
theorem pow8 {a : Nat} (ha : a < 8) : 2 ^ a < 256 := by
  exact eight (P := fun a => 2 ^ a < 256) (by decide) (by decide) (by decide) (by decide) (by decide) (by decide) (by decide) (by decide) ha
/-- Integer.bitCount -/
def usI (x k : Int32) : Int32 := (x.toUInt32 >>> (k.toUInt32 &&& Int32.toUInt32 31)).toInt32
def bc1 (x : Int32) : Int32 := x - (usI x (nI 1) &&& 1431655765)
def bc2 (x : Int32) : Int32 := (x &&& 858993459) + (usI x (nI 2) &&& 858993459)
def bc3 (x : Int32) : Int32 := (x + usI x (nI 4)) &&& 252645135
def bc4 (x : Int32) : Int32 := x + usI x (nI 8)
def bc5 (x : Int32) : Int32 := x + usI x (nI 16)
def bcE (x : Int32) : Int32 := bc5 (bc4 (bc3 (bc2 (bc1 x)))) &&& nI 63
theorem bcE_ok : ∀ w, w < 256 → bcE (nI w) = nI (popc w) := by decide +kernel
/-! who knows whom; NOW; a town -/
abbrev mK : Type := Nat → Nat → Bool
abbrev mN : Type := mK × (Nat → Int32) × (Nat → Nat) × Nat × Int32
abbrev mT : Type := Nat × mK × (Nat → Option Nat) × Nat × Nat × Nat
def col (K : mK) (b : Nat) : Nat := bitsOf (fun a => K a b)
def row (K : mK) (a : Nat) : Nat := bitsOf (fun b => K a b)
def cnt (K : mK) (b : Nat) : Nat := cntB (fun a => K a b)
def acq (K : mK) (a : Nat) : Nat := cntB (fun b => K a b)
def kSet (K : mK) (a b : Nat) : mK := fun x y => K x y || (x == a && y == b)
def mLearn (ν : mN) (a b : Nat) : mN := (kSet ν.1 a b, upd ν.2.1 (8 * a + b) (nI ν.2.2.2.1), ν.2.2)
/-- the first of those below n that are selected with the least count -/
def lf (c : Nat → Nat) (sel : Nat → Bool) : Nat → Option Nat
  | 0 => none
  | n + 1 => match lf c sel n with
    | none => if sel n then some n else none
    | some b => if sel n && decide (c n < c b) then some n else some b
def ff (p : Nat → Bool) : Nat → Option Nat
  | 0 => none
  | n + 1 => match ff p n with
    | some b => some b
    | none => if p n then some n else none
def mLeast (T : mT) (K : mK) : Nat := (lf (cnt K) (fun _ => true) T.1).getD 0
def mChoose (T : mT) (K : mK) (C : Nat → Nat) : Nat :=
  if T.2.2.2.2.1 = 1 then (lf (cnt K) (fun p => !(p == mLeast T K)) T.1).getD (mLeast T K)
  else if T.2.2.2.2.1 = 2 then (ff (fun p => cnt K p == T.2.2.2.2.2) T.1).getD (mLeast T K)
  else if T.2.2.2.2.1 = 3 then (lf (cnt K) (fun p => C p == 0) T.1).getD (mLeast T K)
  else mLeast T K
def mCalls (T : mT) : Nat → mN → mN
  | 0, ν => ν
  | p + 1, ν => match T.2.2.1 p with
    | none => mCalls T p ν
    | some b => mLearn (mLearn (mCalls T p ν) p b) b p
def mHonour (who : Nat) : Nat → mN → mN
  | 0, ν => ν
  | p + 1, ν => if p = who then mHonour who p ν else mLearn (mHonour who p ν) p who
def mCrown (P who : Nat) (ν : mN) : mN :=
  let μ := mHonour who P ν
  (μ.1, μ.2.1, (fun p => if p = who then μ.2.2.1 p + 1 else μ.2.2.1 p), μ.2.2.2.1, nI who)
def mForget (fo : Nat) (ν : mN) : mN := (fun a b => ν.1 a b && !(decide (nI fo ≤ nI ν.2.2.2.1 - ν.2.1 (8 * a + b))), ν.2)
def mWho (T : mT) (ν : mN) : Nat := mChoose T (mCalls T T.1 ν).1 (mCalls T T.1 ν).2.2.1
def mSpring (T : mT) (ν : mN) : mN :=
  let c := mCrown T.1 (mWho T ν) (mCalls T T.1 ν)
  let f := if 0 < T.2.2.2.1 then mForget T.2.2.2.1 c else c
  (f.1, f.2.1, f.2.2.1, f.2.2.2.1 + 1, f.2.2.2.2)
theorem tb1 {b : Bool} (h : bI b = nI 1) : b = true := (bI_eq1 b).mp h
theorem tbn1 {b : Bool} (h : ¬ bI b = nI 1) : b = false := by cases b; rfl; exact absurd rfl h
theorem tb0 {b : Bool} (h : bI b = 0) : b = false := (bI_eq0 b).mp h
theorem tbn0 {b : Bool} (h : ¬ bI b = 0) : b = true := by cases b; exact absurd rfl h; rfl
end
section
/-! LeastKnown$Now, and Integer.bitCount -/
def rNow (G : kG) (q : Nat) (kn ct si cr : Nat → Int32) (rg yr la : Int32) (h : kH) : Prop := h q = .inr (2, [.ref (kb G + (q + 1)), .ref (kb G + (q + 2)), .ref (kb G + (q + 3)), .ref (kb G + (q + 4)), .int rg, .int yr, .int la]) ∧ h (q + 1) = .inl (G.2.1, 8, .inl kn) ∧ h (q + 2) = .inl (G.2.1, 8, .inl ct) ∧ h (q + 3) = .inl (G.2.1, 64, .inl si) ∧ h (q + 4) = .inl (G.2.1, 8, .inl cr)
/-- the object q is NOW as ν has it -/
def oNow (G : kG) (q : Nat) (ν : mN) (h : kH) : Prop := ∃ kn ct si cr : Nat → Int32, rNow G q kn ct si cr (nI (bitsOf fun p => !(ν.2.2.1 p == 0))) (nI ν.2.2.2.1) ν.2.2.2.2 h ∧ (∀ b, b < 8 → kn b = nI (col ν.1 b)) ∧ (∀ b, b < 8 → ct b = nI (cnt ν.1 b)) ∧ (∀ j, j < 64 → si j = ν.2.1 j) ∧ (∀ p, p < 8 → cr p = nI (ν.2.2.1 p))
theorem rNow.fr {G : kG} {q lo hi : Nat} {kn ct si cr : Nat → Int32} {rg yr la : Int32} {h h' : kH} (H : rNow G q kn ct si cr rg yr la h) (hF : kFr lo hi h h') (hd : q + 5 ≤ lo ∨ hi ≤ q) : rNow G q kn ct si cr rg yr la h' :=
  ⟨(hF q (by omega)).trans H.1, (hF (q + 1) (by omega)).trans H.2.1, (hF (q + 2) (by omega)).trans H.2.2.1, (hF (q + 3) (by omega)).trans H.2.2.2.1, (hF (q + 4) (by omega)).trans H.2.2.2.2⟩
theorem oNow.fr {G : kG} {q lo hi : Nat} {ν : mN} {h h' : kH} (H : oNow G q ν h) (hF : kFr lo hi h h') (hd : q + 5 ≤ lo ∨ hi ≤ q) : oNow G q ν h' := by
  obtain ⟨kn, ct, si, cr, H, H2⟩ := H
  exact ⟨kn, ct, si, cr, H.fr hF hd, H2⟩
theorem s_bitCount {G : kG} {n w : Nat} {h : kH} {x : Int32} (hx : x = nI w) (hw : w < 256) : Spi G mJ6_bitCount_0f7a4 0 [.int x] n h (fun v h' => v = nI (popc w) ∧ h' = h) := by
  subst hx
  refine Spi.of (by decide) (Nat.le_of_ble_eq_true rfl) ?_
  refine go_iload_n 0 (nx := 1) dJ6_bitCount_0f7a4_0 rfl rfl rfl ?_
  refine go_iload_n 0 (nx := 2) dJ6_bitCount_0f7a4_1 rfl rfl rfl ?_
  refine go_iconst (v := nI 1) (nx := 3) dJ6_bitCount_0f7a4_2 (by decide) rfl ?_
  refine go_iushr (nx := 4) dJ6_bitCount_0f7a4_3 rfl ?_
  refine go_ldcw (nx := 7) kl_J6_265 dJ6_bitCount_0f7a4_4 rfl ?_
  refine go_iand (nx := 8) dJ6_bitCount_0f7a4_7 rfl ?_
  refine go_isub (nx := 9) dJ6_bitCount_0f7a4_8 rfl ?_
  refine go_istore_n (lv' := [_]) (nx := 10) dJ6_bitCount_0f7a4_9 rfl (by decide) rfl rfl ?_
  refine go_iload_n 0 (nx := 11) dJ6_bitCount_0f7a4_10 rfl rfl rfl ?_
  refine go_ldcw (nx := 14) kl_J6_266 dJ6_bitCount_0f7a4_11 rfl ?_
  refine go_iand (nx := 15) dJ6_bitCount_0f7a4_14 rfl ?_
  refine go_iload_n 0 (nx := 16) dJ6_bitCount_0f7a4_15 rfl rfl rfl ?_
  refine go_iconst (v := nI 2) (nx := 17) dJ6_bitCount_0f7a4_16 (by decide) rfl ?_
  refine go_iushr (nx := 18) dJ6_bitCount_0f7a4_17 rfl ?_
  refine go_ldcw (nx := 21) kl_J6_266 dJ6_bitCount_0f7a4_18 rfl ?_
  refine go_iand (nx := 22) dJ6_bitCount_0f7a4_21 rfl ?_
  refine go_iadd (nx := 23) dJ6_bitCount_0f7a4_22 rfl ?_
  refine go_istore_n (lv' := [_]) (nx := 24) dJ6_bitCount_0f7a4_23 rfl (by decide) rfl rfl ?_
  refine go_iload_n 0 (nx := 25) dJ6_bitCount_0f7a4_24 rfl rfl rfl ?_
  refine go_iload_n 0 (nx := 26) dJ6_bitCount_0f7a4_25 rfl rfl rfl ?_
  refine go_iconst (v := nI 4) (nx := 27) dJ6_bitCount_0f7a4_26 (by decide) rfl ?_
  refine go_iushr (nx := 28) dJ6_bitCount_0f7a4_27 rfl ?_
  refine go_iadd (nx := 29) dJ6_bitCount_0f7a4_28 rfl ?_
  refine go_ldcw (nx := 32) kl_J6_267 dJ6_bitCount_0f7a4_29 rfl ?_
  refine go_iand (nx := 33) dJ6_bitCount_0f7a4_32 rfl ?_
  refine go_istore_n (lv' := [_]) (nx := 34) dJ6_bitCount_0f7a4_33 rfl (by decide) rfl rfl ?_
  refine go_iload_n 0 (nx := 35) dJ6_bitCount_0f7a4_34 rfl rfl rfl ?_
  refine go_iload_n 0 (nx := 36) dJ6_bitCount_0f7a4_35 rfl rfl rfl ?_
  refine go_bipush (v := nI 8) (nx := 38) dJ6_bitCount_0f7a4_36 (by decide) rfl ?_
  refine go_iushr (nx := 39) dJ6_bitCount_0f7a4_38 rfl ?_
  refine go_iadd (nx := 40) dJ6_bitCount_0f7a4_39 rfl ?_
  refine go_istore_n (lv' := [_]) (nx := 41) dJ6_bitCount_0f7a4_40 rfl (by decide) rfl rfl ?_
  refine go_iload_n 0 (nx := 42) dJ6_bitCount_0f7a4_41 rfl rfl rfl ?_
  refine go_iload_n 0 (nx := 43) dJ6_bitCount_0f7a4_42 rfl rfl rfl ?_
  refine go_bipush (v := nI 16) (nx := 45) dJ6_bitCount_0f7a4_43 (by decide) rfl ?_
  refine go_iushr (nx := 46) dJ6_bitCount_0f7a4_45 rfl ?_
  refine go_iadd (nx := 47) dJ6_bitCount_0f7a4_46 rfl ?_
  refine go_istore_n (lv' := [_]) (nx := 48) dJ6_bitCount_0f7a4_47 rfl (by decide) rfl rfl ?_
  refine go_iload_n 0 (nx := 49) dJ6_bitCount_0f7a4_48 rfl rfl rfl ?_
  refine go_bipush (v := nI 63) (nx := 51) dJ6_bitCount_0f7a4_49 (by decide) rfl ?_
  refine go_iand (nx := 52) dJ6_bitCount_0f7a4_51 rfl ?_
  refine go_reti dJ6_bitCount_0f7a4_52 ⟨_, rfl, rfl⟩ ?_
  exact ⟨bcE_ok w hw, rfl⟩
theorem s_setKnowers {G : kG} {n q p w : Nat} {h : kH} {kn ct si cr : Nat → Int32} {rg yr la x y : Int32} (hq : q + 5 ≤ n) (H : rNow G q kn ct si cr rg yr la h) (hx : x = nI p) (hp : p < 8) (hy : y = nI w) (hw : w < 256) : Spv G mX2_setKnowers 1 [.ref (kb G + q), .int x, .int y] n h (fun h' => rNow G q (upd kn p (nI w)) (upd ct p (nI (popc w))) si cr rg yr la h' ∧ kFr q (q + 5) h h') := by
  subst hx hy
  obtain ⟨hN, hkn, hct, hsi, hcr⟩ := H
  have hF : kFr q (q + 5) h h := kFr.rf
  refine Spv.of (by decide) (Nat.le_of_ble_eq_true rfl) ?_
  refine go_aload_n 0 (nx := 1) dX2_setKnowers_0 rfl rfl rfl ?_
  refine go_gf (nx := 4) fg_X2_9 dX2_setKnowers_1 (by omega) hN rfl rfl ?_
  refine go_iload_n 1 (nx := 5) dX2_setKnowers_4 rfl rfl rfl ?_
  refine go_iload_n 2 (nx := 6) dX2_setKnowers_5 rfl rfl rfl ?_
  refine go_SNv (nx := 9) [_, _, _] kc_X2_53 (s_put (by omega) hkn (by omega) rfl hp) dX2_setKnowers_6 rfl rfl (Nat.le_of_ble_eq_true rfl) (Nat.le_of_ble_eq_true rfl) ⟨Nat.le_refl _, Nat.le_refl _⟩ rfl (fun h1 hqh1 => ?_)
  obtain ⟨eh1, fh1⟩ := hqh1
  have hN := (fh1 (q) (by omega)).trans hN
  have hct := (fh1 (q + 2) (by omega)).trans hct
  have hsi := (fh1 (q + 3) (by omega)).trans hsi
  have hcr := (fh1 (q + 4) (by omega)).trans hcr
  have hkn := eh1
  have hF := hF.tr (fun j hj => fh1 j (by omega))
  refine go_aload_n 0 (nx := 10) dX2_setKnowers_9 rfl rfl rfl ?_
  refine go_gf (nx := 13) fg_X2_15 dX2_setKnowers_10 (by omega) hN rfl rfl ?_
  refine go_iload_n 1 (nx := 14) dX2_setKnowers_13 rfl rfl rfl ?_
  refine go_iload_n 2 (nx := 15) dX2_setKnowers_14 rfl rfl rfl ?_
  refine go_Si (nx := 18) [_] kc_X2_57 (s_bitCount rfl hw) dX2_setKnowers_15 rfl rfl (Nat.le_of_ble_eq_true rfl) (Nat.le_of_ble_eq_true rfl) ⟨Nat.le_refl _, Nat.le_refl _⟩ rfl (fun rh2 h2 hqh2 => ?_)
  obtain ⟨rfl, rfl⟩ := hqh2
  refine go_SNv (nx := 21) [_, _, _] kc_X2_53 (s_put (by omega) hct (by omega) rfl hp) dX2_setKnowers_18 rfl rfl (Nat.le_of_ble_eq_true rfl) (Nat.le_of_ble_eq_true rfl) ⟨Nat.le_refl _, Nat.le_refl _⟩ rfl (fun h3 hqh3 => ?_)
  obtain ⟨eh3, fh3⟩ := hqh3
  have hN := (fh3 (q) (by omega)).trans hN
  have hkn := (fh3 (q + 1) (by omega)).trans hkn
  have hsi := (fh3 (q + 3) (by omega)).trans hsi
  have hcr := (fh3 (q + 4) (by omega)).trans hcr
  have hct := eh3
  have hF := hF.tr (fun j hj => fh3 j (by omega))
  refine go_retv dX2_setKnowers_21 rfl ?_
  exact ⟨⟨hN, hkn, hct, hsi, hcr⟩, hF⟩
theorem r_isAware {G : kG} {n q a b w : Nat} {h : kH} {kn ct si cr : Nat → Int32} {rg yr la x y : Int32} (hq : q + 5 ≤ n) (H : rNow G q kn ct si cr rg yr la h) (hx : x = nI a) (ha : a < 8) (hy : y = nI b) (hb : b < 8) (hk : kn b = nI w) (hw : w < 256) : Spi G mX2_isAware 1 [.ref (kb G + q), .int x, .int y] n h (fun v h' => v = bI (w.testBit a) ∧ h' = h) := by
  subst hx hy
  obtain ⟨hN, hkn, hct, hsi, hcr⟩ := H
  refine Spi.of (by decide) (Nat.le_of_ble_eq_true rfl) ?_
  refine go_aload_n 0 (nx := 1) dX2_isAware_0 rfl rfl rfl ?_
  refine go_gf (nx := 4) fg_X2_9 dX2_isAware_1 (by omega) hN rfl rfl ?_
  refine go_iload_n 2 (nx := 5) dX2_isAware_4 rfl rfl rfl ?_
  refine go_SNi (nx := 8) [_, _] kc_X2_27 (s_at_in (by omega) hkn (by omega) rfl hb) dX2_isAware_5 rfl rfl (Nat.le_of_ble_eq_true rfl) (Nat.le_of_ble_eq_true rfl) ⟨Nat.le_refl _, Nat.le_refl _⟩ rfl (fun rh1 h1 hqh1 => ?_)
  obtain ⟨rfl, rfl⟩ := hqh1
  refine go_iload_n 1 (nx := 9) dX2_isAware_8 rfl rfl rfl ?_
  refine go_ishr (nx := 10) dX2_isAware_9 rfl ?_
  refine go_iconst (v := nI 1) (nx := 11) dX2_isAware_10 (by decide) rfl ?_
  refine go_iand (nx := 12) dX2_isAware_11 rfl ?_
  rw [hk, i_get w hw a ha]
  refine go_iconst (v := nI 1) (nx := 13) dX2_isAware_12 (by decide) rfl ?_
  refine go_icmp_ne 20 (nx := 16) dX2_isAware_13 rfl rfl (fun c13 => ?_) (fun c13 => ?_)
  · skip
    refine go_iconst (v := nI 0) (nx := 21) dX2_isAware_20 (by decide) rfl ?_
    refine go_reti dX2_isAware_21 ⟨_, rfl, rfl⟩ ?_
    refine ⟨?_, rfl⟩
    cases e : w.testBit a
    · rfl
    · exact absurd (by rw [e]; rfl) c13
  · skip
    refine go_iconst (v := nI 1) (nx := 17) dX2_isAware_16 (by decide) rfl ?_
    refine go_goto 21 dX2_isAware_17 rfl ?_
    refine go_reti dX2_isAware_21 ⟨_, rfl, rfl⟩ ?_
    refine ⟨?_, rfl⟩
    rw [c13]
theorem s_isAware {G : kG} {n q a b : Nat} {h : kH} {ν : mN} {x y : Int32} (hq : q + 5 ≤ n) (H : oNow G q ν h) (hx : x = nI a) (ha : a < 8) (hy : y = nI b) (hb : b < 8) : Spi G mX2_isAware 1 [.ref (kb G + q), .int x, .int y] n h (fun v h' => v = bI (ν.1 a b) ∧ h' = h) := by
  obtain ⟨kn, ct, si, cr, H, hk, -⟩ := H
  refine (r_isAware hq H hx ha hy hb (hk b hb) (bits_lt _)).mono fun v h' q => ⟨?_, q.2⟩
  rw [q.1, col, bits_test _ ha]
theorem s_sight {G : kG} {n q a b : Nat} {h : kH} {ν : mN} {x y : Int32} (hq : q + 5 ≤ n) (H : oNow G q ν h) (hx : x = nI a) (ha : a < 8) (hy : y = nI b) (hb : b < 8) : Spi G mX2_sight 1 [.ref (kb G + q), .int x, .int y] n h (fun v h' => v = ν.2.1 (8 * a + b) ∧ h' = h) := by
  subst hx hy
  obtain ⟨kn, ct, si, cr, ⟨hN, hkn, hct, hsi, hcr⟩, hK, hC, hS, hR⟩ := H
  refine Spi.of (by decide) (Nat.le_of_ble_eq_true rfl) ?_
  refine go_aload_n 0 (nx := 1) dX2_sight_0 rfl rfl rfl ?_
  refine go_gf (nx := 4) fg_X2_18 dX2_sight_1 (by omega) hN rfl rfl ?_
  refine go_iload_n 1 (nx := 5) dX2_sight_4 rfl rfl rfl ?_
  refine go_bipush (v := nI 8) (nx := 7) dX2_sight_5 (by decide) rfl ?_
  refine go_imul (nx := 8) dX2_sight_7 rfl ?_
  refine go_iload_n 2 (nx := 9) dX2_sight_8 rfl rfl rfl ?_
  refine go_iadd (nx := 10) dX2_sight_9 rfl ?_
  refine go_SNi (nx := 13) [_, _] kc_X2_27 (s_at_in (j := 8 * a + b) (by omega) hsi (by omega) (by rw [pk_mul, nI_add, Nat.mul_comm]) (by omega)) dX2_sight_10 rfl rfl (Nat.le_of_ble_eq_true rfl) (Nat.le_of_ble_eq_true rfl) ⟨Nat.le_refl _, Nat.le_refl _⟩ rfl (fun rh1 h1 hqh1 => ?_)
  obtain ⟨rfl, rfl⟩ := hqh1
  refine go_reti dX2_sight_13 ⟨_, rfl, rfl⟩ ?_
  exact ⟨hS _ (by omega), rfl⟩
theorem col_lt (K : mK) (b : Nat) : col K b < 256 := bits_lt _
theorem col_set {K : mK} {a b : Nat} (ha : a < 8) : col (kSet K a b) b = col K b ||| 2 ^ a := by
  rw [col, col, bits_set _ ha]
  exact bits_ext fun i _ => by simp [kSet]
theorem col_ne {K : mK} {a b c : Nat} (h : c ≠ b) : col (kSet K a b) c = col K c := bits_ext fun i _ => by simp [kSet, h]
theorem cnt_popc (K : mK) (b : Nat) : cnt K b = popc (col K b) := (popc_bits _).symm
theorem cnt_ne {K : mK} {a b c : Nat} (h : c ≠ b) : cnt (kSet K a b) c = cnt K c := by rw [cnt_popc, cnt_popc, col_ne h]
theorem s_learn {G : kG} {n q a b : Nat} {h : kH} {ν : mN} {x y : Int32} (hq : q + 5 ≤ n) (H : oNow G q ν h) (hx : x = nI a) (ha : a < 8) (hy : y = nI b) (hb : b < 8) : Spi G mX2_learn 2 [.ref (kb G + q), .int x, .int y] n h (fun v h' => v = bI (!ν.1 a b) ∧ oNow G q (mLearn ν a b) h' ∧ kFr q (q + 5) h h') := by
  have H' := H
  subst hx hy
  obtain ⟨kn, ct, si, cr, ⟨hN, hkn, hct, hsi, hcr⟩, hK, hC, hS, hR⟩ := H
  have hF : kFr q (q + 5) h h := kFr.rf
  refine Spi.of (by decide) (Nat.le_of_ble_eq_true rfl) ?_
  refine go_aload_n 0 (nx := 1) dX2_learn_0 rfl rfl rfl ?_
  refine go_iload_n 1 (nx := 2) dX2_learn_1 rfl rfl rfl ?_
  refine go_iload_n 2 (nx := 3) dX2_learn_2 rfl rfl rfl ?_
  refine go_Vi (nx := 6) [_, _] kc_X2_63 ⟨_, _, rfl⟩ (by omega) hN (s_isAware hq H' rfl ha rfl hb) dX2_learn_3 rfl rfl (Nat.le_of_ble_eq_true rfl) (Nat.le_of_ble_eq_true rfl) ⟨Nat.le_refl _, Nat.le_refl _⟩ rfl (fun rh1 h1 hqh1 => ?_)
  obtain ⟨rfl, rfl⟩ := hqh1
  refine go_if_eq 13 (nx := 9) dX2_learn_6 rfl rfl (fun c6 => ?_) (fun c6 => ?_)
  · skip
    refine go_iconst (v := nI 1) (nx := 14) dX2_learn_13 (by decide) rfl ?_
    refine go_istore_n (lv' := [_, _, _, _]) (nx := 15) dX2_learn_14 rfl (by decide) rfl rfl ?_
    refine go_aload_n 1 (nx := 16) dX2_learn_15 rfl rfl rfl ?_
    refine go_iload_n 3 (nx := 17) dX2_learn_16 rfl rfl rfl ?_
    refine go_aload_n 1 (nx := 18) dX2_learn_17 rfl rfl rfl ?_
    refine go_gf (nx := 21) fg_X2_9 dX2_learn_18 (by omega) hN rfl rfl ?_
    refine go_iload_n 3 (nx := 22) dX2_learn_21 rfl rfl rfl ?_
    refine go_SNi (nx := 25) [_, _] kc_X2_27 (s_at_in (by omega) hkn (by omega) rfl hb) dX2_learn_22 rfl rfl (Nat.le_of_ble_eq_true rfl) (Nat.le_of_ble_eq_true rfl) ⟨Nat.le_refl _, Nat.le_refl _⟩ rfl (fun rh2 h2 hqh2 => ?_)
    obtain ⟨rfl, rfl⟩ := hqh2
    refine go_iconst (v := nI 1) (nx := 26) dX2_learn_25 (by decide) rfl ?_
    refine go_iload_n 2 (nx := 27) dX2_learn_26 rfl rfl rfl ?_
    refine go_ishl (nx := 28) dX2_learn_27 rfl ?_
    refine go_ior (nx := 29) dX2_learn_28 rfl ?_
    refine go_Vv (nx := 32) [_, _] kc_X2_31 ⟨_, _, rfl⟩ (by omega) hN (s_setKnowers (w := col ν.1 b ||| 2 ^ a) hq ⟨hN, hkn, hct, hsi, hcr⟩ rfl hb (by rw [hK b hb, i_set _ (col_lt _ _) a ha]) (by rw [col, bits_set _ ha]; exact bits_lt _)) dX2_learn_29 rfl rfl (Nat.le_of_ble_eq_true rfl) (Nat.le_of_ble_eq_true rfl) ⟨Nat.le_refl _, Nat.le_refl _⟩ rfl (fun h3 hqh3 => ?_)
    obtain ⟨hRh3, hFh3⟩ := hqh3
    obtain ⟨hN, hkn, hct, hsi, hcr⟩ := hRh3
    have hF := hF.tr hFh3
    refine go_aload_n 1 (nx := 33) dX2_learn_32 rfl rfl rfl ?_
    refine go_gf (nx := 36) fg_X2_18 dX2_learn_33 (by omega) hN rfl rfl ?_
    refine go_iload_n 2 (nx := 37) dX2_learn_36 rfl rfl rfl ?_
    refine go_bipush (v := nI 8) (nx := 39) dX2_learn_37 (by decide) rfl ?_
    refine go_imul (nx := 40) dX2_learn_39 rfl ?_
    refine go_iload_n 3 (nx := 41) dX2_learn_40 rfl rfl rfl ?_
    refine go_iadd (nx := 42) dX2_learn_41 rfl ?_
    refine go_aload_n 1 (nx := 43) dX2_learn_42 rfl rfl rfl ?_
    refine go_gf (nx := 46) fg_X2_43 dX2_learn_43 (by omega) hN rfl rfl ?_
    refine go_SNv (nx := 49) [_, _, _] kc_X2_53 (s_put (j := 8 * a + b) (by omega) hsi (by omega) (by rw [pk_mul, nI_add, Nat.mul_comm]) (by omega)) dX2_learn_46 rfl rfl (Nat.le_of_ble_eq_true rfl) (Nat.le_of_ble_eq_true rfl) ⟨Nat.le_refl _, Nat.le_refl _⟩ rfl (fun h4 hqh4 => ?_)
    obtain ⟨eh4, fh4⟩ := hqh4
    have hN := (fh4 (q) (by omega)).trans hN
    have hkn := (fh4 (q + 1) (by omega)).trans hkn
    have hct := (fh4 (q + 2) (by omega)).trans hct
    have hcr := (fh4 (q + 4) (by omega)).trans hcr
    have hsi := eh4
    have hF := hF.tr (fun j hj => fh4 j (by omega))
    refine go_iload_n 0 (nx := 50) dX2_learn_49 rfl rfl rfl ?_
    refine go_reti dX2_learn_50 ⟨_, rfl, rfl⟩ ?_
    refine ⟨by rw [(bI_eq0 _).mp c6]; rfl, ⟨_, _, _, _, ⟨hN, hkn, hct, hsi, hcr⟩, fun c hc => ?_, fun c hc => ?_, fun j hj => ?_, hR⟩, hF⟩
    · by_cases e : c = b
      · subst e; rw [pk_us]; exact congrArg nI (col_set ha).symm
      · rw [pk_un e, hK c hc]; exact congrArg nI (col_ne e).symm
    · by_cases e : c = b
      · subst e; rw [pk_us]; exact congrArg nI (by rw [show (mLearn ν a c).1 = kSet ν.1 a c from rfl, cnt_popc, col_set ha])
      · rw [pk_un e, hC c hc]; exact congrArg nI (cnt_ne e).symm
    · by_cases e : j = 8 * a + b
      · subst e; rw [pk_us]; exact pk_us.symm
      · rw [pk_un e, hS j hj]; exact (pk_un e).symm
  · skip
    refine go_iconst (v := nI 0) (nx := 10) dX2_learn_9 (by decide) rfl ?_
    refine go_goto 14 dX2_learn_10 rfl ?_
    refine go_istore_n (lv' := [_, _, _, _]) (nx := 15) dX2_learn_14 rfl (by decide) rfl rfl ?_
    refine go_aload_n 1 (nx := 16) dX2_learn_15 rfl rfl rfl ?_
    refine go_iload_n 3 (nx := 17) dX2_learn_16 rfl rfl rfl ?_
    refine go_aload_n 1 (nx := 18) dX2_learn_17 rfl rfl rfl ?_
    refine go_gf (nx := 21) fg_X2_9 dX2_learn_18 (by omega) hN rfl rfl ?_
    refine go_iload_n 3 (nx := 22) dX2_learn_21 rfl rfl rfl ?_
    refine go_SNi (nx := 25) [_, _] kc_X2_27 (s_at_in (by omega) hkn (by omega) rfl hb) dX2_learn_22 rfl rfl (Nat.le_of_ble_eq_true rfl) (Nat.le_of_ble_eq_true rfl) ⟨Nat.le_refl _, Nat.le_refl _⟩ rfl (fun rh2 h2 hqh2 => ?_)
    obtain ⟨rfl, rfl⟩ := hqh2
    refine go_iconst (v := nI 1) (nx := 26) dX2_learn_25 (by decide) rfl ?_
    refine go_iload_n 2 (nx := 27) dX2_learn_26 rfl rfl rfl ?_
    refine go_ishl (nx := 28) dX2_learn_27 rfl ?_
    refine go_ior (nx := 29) dX2_learn_28 rfl ?_
    refine go_Vv (nx := 32) [_, _] kc_X2_31 ⟨_, _, rfl⟩ (by omega) hN (s_setKnowers (w := col ν.1 b ||| 2 ^ a) hq ⟨hN, hkn, hct, hsi, hcr⟩ rfl hb (by rw [hK b hb, i_set _ (col_lt _ _) a ha]) (by rw [col, bits_set _ ha]; exact bits_lt _)) dX2_learn_29 rfl rfl (Nat.le_of_ble_eq_true rfl) (Nat.le_of_ble_eq_true rfl) ⟨Nat.le_refl _, Nat.le_refl _⟩ rfl (fun h3 hqh3 => ?_)
    obtain ⟨hRh3, hFh3⟩ := hqh3
    obtain ⟨hN, hkn, hct, hsi, hcr⟩ := hRh3
    have hF := hF.tr hFh3
    refine go_aload_n 1 (nx := 33) dX2_learn_32 rfl rfl rfl ?_
    refine go_gf (nx := 36) fg_X2_18 dX2_learn_33 (by omega) hN rfl rfl ?_
    refine go_iload_n 2 (nx := 37) dX2_learn_36 rfl rfl rfl ?_
    refine go_bipush (v := nI 8) (nx := 39) dX2_learn_37 (by decide) rfl ?_
    refine go_imul (nx := 40) dX2_learn_39 rfl ?_
    refine go_iload_n 3 (nx := 41) dX2_learn_40 rfl rfl rfl ?_
    refine go_iadd (nx := 42) dX2_learn_41 rfl ?_
    refine go_aload_n 1 (nx := 43) dX2_learn_42 rfl rfl rfl ?_
    refine go_gf (nx := 46) fg_X2_43 dX2_learn_43 (by omega) hN rfl rfl ?_
    refine go_SNv (nx := 49) [_, _, _] kc_X2_53 (s_put (j := 8 * a + b) (by omega) hsi (by omega) (by rw [pk_mul, nI_add, Nat.mul_comm]) (by omega)) dX2_learn_46 rfl rfl (Nat.le_of_ble_eq_true rfl) (Nat.le_of_ble_eq_true rfl) ⟨Nat.le_refl _, Nat.le_refl _⟩ rfl (fun h4 hqh4 => ?_)
    obtain ⟨eh4, fh4⟩ := hqh4
    have hN := (fh4 (q) (by omega)).trans hN
    have hkn := (fh4 (q + 1) (by omega)).trans hkn
    have hct := (fh4 (q + 2) (by omega)).trans hct
    have hcr := (fh4 (q + 4) (by omega)).trans hcr
    have hsi := eh4
    have hF := hF.tr (fun j hj => fh4 j (by omega))
    refine go_iload_n 0 (nx := 50) dX2_learn_49 rfl rfl rfl ?_
    refine go_reti dX2_learn_50 ⟨_, rfl, rfl⟩ ?_
    refine ⟨by rw [show ν.1 a b = true from by cases e : ν.1 a b; exact absurd ((bI_eq0 _).mpr e) c6; rfl]; rfl, ⟨_, _, _, _, ⟨hN, hkn, hct, hsi, hcr⟩, fun c hc => ?_, fun c hc => ?_, fun j hj => ?_, hR⟩, hF⟩
    · by_cases e : c = b
      · subst e; rw [pk_us]; exact congrArg nI (col_set ha).symm
      · rw [pk_un e, hK c hc]; exact congrArg nI (col_ne e).symm
    · by_cases e : c = b
      · subst e; rw [pk_us]; exact congrArg nI (by rw [show (mLearn ν a c).1 = kSet ν.1 a c from rfl, cnt_popc, col_set ha])
      · rw [pk_un e, hC c hc]; exact congrArg nI (cnt_ne e).symm
    · by_cases e : j = 8 * a + b
      · subst e; rw [pk_us]; exact pk_us.symm
      · rw [pk_un e, hS j hj]; exact (pk_un e).symm
end
section
/-! LeastKnown$Town, and what of NOW needs no town -/
def hab : Option Nat → Int32
  | none => -9
  | some b => nI b
def rTown (G : kG) (t : Nat) (kn ca : Nat → Int32) (pe fo lw ju : Int32) (h : kH) : Prop := h t = .inr (5, [.ref (kb G + (t + 1)), .ref (kb G + (t + 2)), .int pe, .int fo, .int lw, .int ju]) ∧ h (t + 1) = .inl (G.2.1, 8, .inl kn) ∧ h (t + 2) = .inl (G.2.1, 8, .inl ca)
def oTown (G : kG) (t : Nat) (T : mT) (h : kH) : Prop := ∃ kn ca : Nat → Int32, rTown G t kn ca (nI T.1) (nI T.2.2.2.1) (nI T.2.2.2.2.1) (nI T.2.2.2.2.2) h ∧ (∀ b, b < 8 → kn b = nI (col T.2.1 b)) ∧ (∀ p, p < 8 → ca p = hab (T.2.2.1 p))
theorem rTown.fr {G : kG} {t lo hi : Nat} {kn ca : Nat → Int32} {pe fo lw ju : Int32} {h h' : kH} (H : rTown G t kn ca pe fo lw ju h) (hF : kFr lo hi h h') (hd : t + 3 ≤ lo ∨ hi ≤ t) : rTown G t kn ca pe fo lw ju h' :=
  ⟨(hF t (by omega)).trans H.1, (hF (t + 1) (by omega)).trans H.2.1, (hF (t + 2) (by omega)).trans H.2.2⟩
theorem oTown.fr {G : kG} {t lo hi : Nat} {T : mT} {h h' : kH} (H : oTown G t T h) (hF : kFr lo hi h h') (hd : t + 3 ≤ lo ∨ hi ≤ t) : oTown G t T h' := by
  obtain ⟨kn, ca, H, H2⟩ := H
  exact ⟨kn, ca, H.fr hF hd, H2⟩
/-- what a town promises -/
def wT (T : mT) : Prop := T.1 ≤ 8 ∧ (∀ a b, T.2.1 a b = true → a < T.1 ∧ b < T.1 ∧ a ≠ b) ∧ (∀ p b, T.2.2.1 p = some b → p < T.1 ∧ b < T.1 ∧ b ≠ p) ∧ T.2.2.2.1 ≤ 9 ∧ T.2.2.2.2.1 ≤ 3 ∧ T.2.2.2.2.2 ≤ 7
/-- who knows whom among P people -/
def wK (P : Nat) (K : mK) : Prop := ∀ a b, K a b = true → a < P ∧ b < P ∧ a ≠ b
def wN (P : Nat) (ν : mN) : Prop := wK P ν.1 ∧ (∀ p, P ≤ p → ν.2.2.1 p = 0) ∧ (∀ p, ν.2.2.1 p ≤ ν.2.2.2.1) ∧ (∀ j, ν.2.1 j = -1 ∨ ∃ s, s ≤ ν.2.2.2.1 ∧ ν.2.1 j = nI s) ∧ (ν.2.2.2.2 = -9 ∨ ∃ p, p < P ∧ ν.2.2.2.2 = nI p)
theorem cntB_lt : ∀ b0 b1 b2 b3 b4 b5 b6 b7 : Bool, (b0 && b1 && b2 && b3 && b4 && b5 && b6 && b7) = false → b0.toNat + b1.toNat + b2.toNat + b3.toNat + b4.toNat + b5.toNat + b6.toNat + b7.toNat < 8 := by decide +kernel
theorem cnt_lt {P : Nat} {K : mK} (hK : wK P K) (b : Nat) (hb : b < 8) : cnt K b < 8 := by
  have hbb : K b b = false := by
    cases e : K b b
    · rfl
    · exact absurd rfl (hK b b e).2.2
  refine cntB_lt _ _ _ _ _ _ _ _ ?_
  rcases (show b = 0 ∨ b = 1 ∨ b = 2 ∨ b = 3 ∨ b = 4 ∨ b = 5 ∨ b = 6 ∨ b = 7 by omega) with rfl | rfl | rfl | rfl | rfl | rfl | rfl | rfl <;> simp [hbb]
def lfm (k : Nat → Nat) : Option Nat → Nat
  | none => 8
  | some b => k b
theorem lf_succ {k : Nat → Nat} {sel : Nat → Bool} {p : Nat} (hk : k p < 8) : lf k sel (p + 1) = if sel p && decide (k p < lfm k (lf k sel p)) then some p else lf k sel p := by
  show (match lf k sel p with | none => if sel p then some p else none | some b => if sel p && decide (k p < k b) then some p else some b) = _
  cases e : lf k sel p with
  | none => simp [lfm, hk]
  | some b => rfl
theorem lf_lt {k : Nat → Nat} {sel : Nat → Bool} : ∀ {p b : Nat}, lf k sel p = some b → b < p ∧ sel b = true
  | 0, b, h => by cases h
  | p + 1, b, h => by
    have ih := @lf_lt k sel p
    simp only [lf] at h
    split at h
    · split at h
      · rename_i hs
        cases h
        exact ⟨Nat.lt_succ_self _, hs⟩
      · cases h
    · rename_i b' e
      split at h
      · rename_i hs
        cases h
        simp only [Bool.and_eq_true] at hs
        exact ⟨Nat.lt_succ_self _, hs.1⟩
      · cases h
        exact ⟨Nat.lt_succ_of_lt (ih e).1, (ih e).2⟩
theorem lfm_le {k : Nat → Nat} {sel : Nat → Bool} {p : Nat} (hp : p ≤ 8) (hk : ∀ p, p < 8 → k p < 8) : lfm k (lf k sel p) ≤ 8 := by
  cases e : lf k sel p with
  | none => exact Nat.le_refl _
  | some b => exact Nat.le_of_lt (hk b (Nat.lt_of_lt_of_le (lf_lt e).1 hp))
theorem l_leastOf {G : kG} {n i w : Nat} {h : kH} {c : Nat → Int32} {k : Nat → Nat} (hi : i < n) (hc : h i = .inl (G.2.1, 8, .inl c)) (hk : ∀ p, p < 8 → c p = nI (k p)) (hk8 : ∀ p, p < 8 → k p < 8) (hw : w < 256) : ∀ (d p : Nat) (o : Option Nat), 8 - p < d → p ≤ 8 → o = lf k w.testBit p → Go G mX5_leastOf (1, 0, 0) 8 [(4, .int (nI p)), (3, .int (nI (lfm k o))), (2, .int (nI (o.getD 0))), (0, .ref (kb G + i)), (1, .int (nI w))] [] (n, 0, 0) h (kQi mX5_leastOf n (fun v h' => v = nI ((lf k w.testBit 8).getD 0) ∧ h' = h)) := by
  intro d
  induction d with
  | zero => intro p o hd; omega
  | succ d ih =>
    intro p o hd hp ho
    refine go_iload 0 (nx := 10) dX5_leastOf_8 rfl rfl ?_
    refine go_bipush (v := nI 8) (nx := 12) dX5_leastOf_10 (by decide) rfl ?_
    refine go_icmp_ge 51 (nx := 15) dX5_leastOf_12 rfl rfl (fun c12 => ?_) (fun c12 => ?_)
    · skip
      refine go_iload_n 2 (nx := 52) dX5_leastOf_51 rfl rfl rfl ?_
      refine go_reti dX5_leastOf_52 ⟨_, rfl, rfl⟩ ?_
      have e8 : p = 8 := by have := kle c12; omega
      subst e8
      subst ho
      exact ⟨rfl, rfl⟩
    · skip
      refine go_aload_n 3 (nx := 16) dX5_leastOf_15 rfl rfl rfl ?_
      refine go_iload 0 (nx := 18) dX5_leastOf_16 rfl rfl ?_
      refine go_SNi (nx := 21) [_, _] kc_X5_38 (s_at_in (by omega) hc (by omega) rfl (knle c12)) dX5_leastOf_18 rfl rfl (Nat.le_of_ble_eq_true rfl) (Nat.le_of_ble_eq_true rfl) ⟨Nat.le_refl _, Nat.le_refl _⟩ rfl (fun rh1 h1 hqh1 => ?_)
      obtain ⟨rfl, rfl⟩ := hqh1
      refine go_istore (lv' := [_, _, _, _, _, _]) (nx := 23) dX5_leastOf_21 (by decide) rfl rfl ?_
      rw [hk p (knle c12)]
      refine go_iload_n 5 (nx := 24) dX5_leastOf_23 rfl rfl rfl ?_
      refine go_iload 1 (nx := 26) dX5_leastOf_24 rfl rfl ?_
      refine go_ishr (nx := 27) dX5_leastOf_26 rfl ?_
      refine go_iconst (v := nI 1) (nx := 28) dX5_leastOf_27 (by decide) rfl ?_
      refine go_iand (nx := 29) dX5_leastOf_28 rfl ?_
      rw [i_get w hw p (knle c12)]
      refine go_iconst (v := nI 1) (nx := 30) dX5_leastOf_29 (by decide) rfl ?_
      refine go_icmp_ne 45 (nx := 33) dX5_leastOf_30 rfl rfl (fun c30 => ?_) (fun c30 => ?_)
      · skip
        refine go_iinc 1 (v := nI (p + 1)) (lv' := [_, _, _, _, _, _]) (nx := 48) dX5_leastOf_45 rfl (nI_inc p) (by decide) rfl rfl ?_
        refine go_goto 8 dX5_leastOf_48 rfl ?_
        refine Go.sub [0, 2, 3, 4, 5] rfl ?_
        have h8 := knle c12
        have hs := lf_succ (k := k) (sel := w.testBit) (hk8 p h8)
        rw [if_neg (by rw [tbn1 c30]; simp), ← ho] at hs
        exact ih (p + 1) (o) (by omega) (by omega) (by rw [hs])
      · skip
        refine go_iload 0 (nx := 35) dX5_leastOf_33 rfl rfl ?_
        refine go_iload_n 2 (nx := 36) dX5_leastOf_35 rfl rfl rfl ?_
        refine go_icmp_ge 45 (nx := 39) dX5_leastOf_36 rfl rfl (fun c36 => ?_) (fun c36 => ?_)
        · skip
          refine go_iinc 1 (v := nI (p + 1)) (lv' := [_, _, _, _, _, _]) (nx := 48) dX5_leastOf_45 rfl (nI_inc p) (by decide) rfl rfl ?_
          refine go_goto 8 dX5_leastOf_48 rfl ?_
          refine Go.sub [0, 2, 3, 4, 5] rfl ?_
          have h8 := knle c12
          have hs := lf_succ (k := k) (sel := w.testBit) (hk8 p h8)
          rw [if_neg (by have := kle c36 (by have := lfm_le (sel := w.testBit) hp hk8; rw [← ho] at this; omega) (by have := hk8 p h8; omega); rw [← ho]; simp; omega), ← ho] at hs
          exact ih (p + 1) (o) (by omega) (by omega) (by rw [hs])
        · skip
          refine go_iload 0 (nx := 41) dX5_leastOf_39 rfl rfl ?_
          refine go_istore_n (lv' := [_, _, _, _, _, _]) (nx := 42) dX5_leastOf_41 rfl (by decide) rfl rfl ?_
          refine go_iload 2 (nx := 44) dX5_leastOf_42 rfl rfl ?_
          refine go_istore_n (lv' := [_, _, _, _, _, _]) (nx := 45) dX5_leastOf_44 rfl (by decide) rfl rfl ?_
          refine go_iinc 3 (v := nI (p + 1)) (lv' := [_, _, _, _, _, _]) (nx := 48) dX5_leastOf_45 rfl (nI_inc p) (by decide) rfl rfl ?_
          refine go_goto 8 dX5_leastOf_48 rfl ?_
          refine Go.sub [0, 2, 1, 4, 5] rfl ?_
          have h8 := knle c12
          have hs := lf_succ (k := k) (sel := w.testBit) (hk8 p h8)
          rw [if_pos (by have := knle c36 (by have := lfm_le (sel := w.testBit) hp hk8; rw [← ho] at this; omega) (by have := hk8 p h8; omega); rw [← ho, tb1 c30]; simp; omega)] at hs
          exact ih (p + 1) (some p) (by omega) (by omega) (by rw [hs])
theorem s_leastOf {G : kG} {n i w : Nat} {h : kH} {c : Nat → Int32} {k : Nat → Nat} {x : Int32} (hi : i < n) (hc : h i = .inl (G.2.1, 8, .inl c)) (hk : ∀ p, p < 8 → c p = nI (k p)) (hk8 : ∀ p, p < 8 → k p < 8) (hx : x = nI w) (hw : w < 256) : Spi G mX5_leastOf 1 [.ref (kb G + i), .int x] n h (fun v h' => v = nI ((lf k w.testBit 8).getD 0) ∧ h' = h) := by
  subst hx
  refine Spi.of (by decide) (Nat.le_of_ble_eq_true rfl) ?_
  refine go_iconst (v := nI 0) (nx := 1) dX5_leastOf_0 (by decide) rfl ?_
  refine go_istore_n (lv' := [_, _, _]) (nx := 2) dX5_leastOf_1 rfl (by decide) rfl rfl ?_
  refine go_bipush (v := nI 8) (nx := 4) dX5_leastOf_2 (by decide) rfl ?_
  refine go_istore_n (lv' := [_, _, _, _]) (nx := 5) dX5_leastOf_4 rfl (by decide) rfl rfl ?_
  refine go_iconst (v := nI 0) (nx := 6) dX5_leastOf_5 (by decide) rfl ?_
  refine go_istore (lv' := [_, _, _, _, _]) (nx := 8) dX5_leastOf_6 (by decide) rfl rfl ?_
  refine Go.sub [0, 1, 2, 3, 4] rfl ?_
  exact l_leastOf hi hc hk hk8 hw 9 0 none (by omega) (by omega) rfl
theorem lf_ext {k : Nat → Nat} {s1 s2 : Nat → Bool} : ∀ {m : Nat}, (∀ p, p < m → s1 p = s2 p) → lf k s1 m = lf k s2 m
  | 0, _ => rfl
  | m + 1, h => by simp only [lf]; rw [lf_ext (fun p hp => h p (by omega)), h m (by omega)]
theorem lf_tail {k : Nat → Nat} {s : Nat → Bool} {P : Nat} : ∀ {m : Nat}, P ≤ m → (∀ p, P ≤ p → p < m → s p = false) → lf k s m = lf k s P
  | 0, hP, _ => by rw [show P = 0 by omega]
  | m + 1, hP, h => by
    by_cases e : P = m + 1
    · rw [e]
    · have ih := lf_tail (k := k) (s := s) (P := P) (m := m) (by omega) (fun p h1 h2 => h p h1 (by omega))
      simp only [lf]
      rw [h m (by omega) (by omega), ih]
      cases lf k s P <;> rfl
theorem lf_none {k : Nat → Nat} {s : Nat → Bool} : ∀ {m : Nat}, lf k s m = none ↔ ∀ p, p < m → s p = false
  | 0 => ⟨fun _ p hp => absurd hp (Nat.not_lt_zero p), fun _ => rfl⟩
  | m + 1 => by
    have ih := lf_none (k := k) (s := s) (m := m)
    constructor
    · intro h p hp
      simp only [lf] at h
      split at h
      · rename_i e
        split at h
        · cases h
        · rename_i hs
          by_cases ep : p = m
          · rw [ep]; exact Bool.eq_false_iff.mpr hs
          · exact ih.mp e p (by omega)
      · split at h <;> cases h
    · intro h
      simp only [lf]
      rw [ih.mpr (fun p hp => h p (by omega)), h m (by omega)]
      rfl
def allB (P : Nat) : Nat := 2 ^ P - 1
theorem allB_lt {P : Nat} (hP : P ≤ 8) : allB P < 256 := by
  have : ∀ P, P ≤ 8 → allB P < 256 := by decide
  exact this P hP
theorem allB_bit {P p : Nat} (hP : P ≤ 8) (hp : p < 8) : (allB P).testBit p = decide (p < P) := by
  have : ∀ P, P ≤ 8 → ∀ p, p < 8 → (allB P).testBit p = decide (p < P) := by decide +kernel
  exact this P hP p hp
theorem allB_I {P : Nat} (hP : P ≤ 8) : (nI 1 <<< (nI P &&& 31)) - nI 1 = nI (allB P) := by
  have : ∀ P, P ≤ 8 → (nI 1 <<< (nI P &&& 31)) - nI 1 = nI (allB P) := by decide +kernel
  exact this P hP
theorem nI_and (a b : Nat) : nI a &&& nI b = nI (a &&& b) := by
  apply Int32.toBitVec_inj.mp
  simp [nI, Int32.toBitVec_and, Int32.toBitVec_ofNat', BitVec.ofNat_and]
theorem nI_xor (a b : Nat) : nI a ^^^ nI b = nI (a ^^^ b) := by
  apply Int32.toBitVec_inj.mp
  simp [nI, Int32.toBitVec_xor, Int32.toBitVec_ofNat', BitVec.ofNat_xor]
/-- a set less those of another one -/
theorem i_less {w r : Nat} (hw : w < 256) (hr : r < 256) : nI w &&& (nI r ^^^ (-1)) = nI (bitsOf fun p => w.testBit p && !r.testBit p) := by
  rw [show (-1 : Int32) = nI 4294967295 by decide, nI_xor, nI_and]
  congr 1
  apply Nat.eq_of_testBit_eq
  intro i
  rw [Nat.testBit_and, Nat.testBit_xor, show (4294967295 : Nat) = 2 ^ 32 - 1 by decide, Nat.testBit_two_pow_sub_one]
  by_cases hi : i < 8
  · rw [bits_test _ hi]
    simp [show i < 32 by omega]
  · rw [Nat.testBit_lt_two_pow (Nat.lt_of_lt_of_le hw (Nat.pow_le_pow_right (by decide : 0 < 2) (by omega : 8 ≤ i))), Nat.testBit_lt_two_pow (Nat.lt_of_lt_of_le (bits_lt _) (Nat.pow_le_pow_right (by decide : 0 < 2) (by omega : 8 ≤ i)))]
    rfl
theorem bits_zero {f : Nat → Bool} : bitsOf f = 0 ↔ ∀ i, i < 8 → f i = false := by
  constructor
  · intro h i hi
    rw [← bits_test f hi, h]
    exact Nat.zero_testBit i
  · intro h
    rw [bits_ext (g := fun _ => false) h]
    rfl
theorem sw_eq {x : Int32} (k : Nat) (hk : k < 2 ^ 31) (h : x.toInt = k) : x = nI k := Int32.toInt_inj.mp (by rw [h, nI_toInt hk])
theorem sw_1_3 (x : Int32) : (x.toInt < 1 ∨ 3 < x.toInt) ∨ x = nI 1 ∨ x = nI 2 ∨ x = nI 3 := by
  rcases (show (x.toInt < 1 ∨ 3 < x.toInt) ∨ x.toInt = (1 : Nat) ∨ x.toInt = (2 : Nat) ∨ x.toInt = (3 : Nat) by omega) with h | h | h | h
  · exact Or.inl h
  · exact Or.inr (Or.inl (sw_eq 1 (by decide) h))
  · exact Or.inr (Or.inr (Or.inl (sw_eq 2 (by decide) h)))
  · exact Or.inr (Or.inr (Or.inr ((sw_eq 3 (by decide) h))))
theorem sw_0_3 (x : Int32) : (x.toInt < 0 ∨ 3 < x.toInt) ∨ x = nI 0 ∨ x = nI 1 ∨ x = nI 2 ∨ x = nI 3 := by
  rcases (show (x.toInt < 0 ∨ 3 < x.toInt) ∨ x.toInt = (0 : Nat) ∨ x.toInt = (1 : Nat) ∨ x.toInt = (2 : Nat) ∨ x.toInt = (3 : Nat) by omega) with h | h | h | h | h
  · exact Or.inl h
  · exact Or.inr (Or.inl (sw_eq 0 (by decide) h))
  · exact Or.inr (Or.inr (Or.inl (sw_eq 1 (by decide) h)))
  · exact Or.inr (Or.inr (Or.inr (Or.inl (sw_eq 2 (by decide) h))))
  · exact Or.inr (Or.inr (Or.inr (Or.inr ((sw_eq 3 (by decide) h)))))
theorem sw_0_2 (x : Int32) : (x.toInt < 0 ∨ 2 < x.toInt) ∨ x = nI 0 ∨ x = nI 1 ∨ x = nI 2 := by
  rcases (show (x.toInt < 0 ∨ 2 < x.toInt) ∨ x.toInt = (0 : Nat) ∨ x.toInt = (1 : Nat) ∨ x.toInt = (2 : Nat) by omega) with h | h | h | h
  · exact Or.inl h
  · exact Or.inr (Or.inl (sw_eq 0 (by decide) h))
  · exact Or.inr (Or.inr (Or.inl (sw_eq 1 (by decide) h)))
  · exact Or.inr (Or.inr (Or.inr ((sw_eq 2 (by decide) h))))
theorem sw_0_5 (x : Int32) : (x.toInt < 0 ∨ 5 < x.toInt) ∨ x = nI 0 ∨ x = nI 1 ∨ x = nI 2 ∨ x = nI 3 ∨ x = nI 4 ∨ x = nI 5 := by
  rcases (show (x.toInt < 0 ∨ 5 < x.toInt) ∨ x.toInt = (0 : Nat) ∨ x.toInt = (1 : Nat) ∨ x.toInt = (2 : Nat) ∨ x.toInt = (3 : Nat) ∨ x.toInt = (4 : Nat) ∨ x.toInt = (5 : Nat) by omega) with h | h | h | h | h | h | h
  · exact Or.inl h
  · exact Or.inr (Or.inl (sw_eq 0 (by decide) h))
  · exact Or.inr (Or.inr (Or.inl (sw_eq 1 (by decide) h)))
  · exact Or.inr (Or.inr (Or.inr (Or.inl (sw_eq 2 (by decide) h))))
  · exact Or.inr (Or.inr (Or.inr (Or.inr (Or.inl (sw_eq 3 (by decide) h)))))
  · exact Or.inr (Or.inr (Or.inr (Or.inr (Or.inr (Or.inl (sw_eq 4 (by decide) h))))))
  · exact Or.inr (Or.inr (Or.inr (Or.inr (Or.inr (Or.inr ((sw_eq 5 (by decide) h)))))))
theorem sw_0_26 (x : Int32) : (x.toInt < 0 ∨ 26 < x.toInt) ∨ x = nI 0 ∨ x = nI 1 ∨ x = nI 2 ∨ x = nI 3 ∨ x = nI 4 ∨ x = nI 5 ∨ x = nI 6 ∨ x = nI 7 ∨ x = nI 8 ∨ x = nI 9 ∨ x = nI 10 ∨ x = nI 11 ∨ x = nI 12 ∨ x = nI 13 ∨ x = nI 14 ∨ x = nI 15 ∨ x = nI 16 ∨ x = nI 17 ∨ x = nI 18 ∨ x = nI 19 ∨ x = nI 20 ∨ x = nI 21 ∨ x = nI 22 ∨ x = nI 23 ∨ x = nI 24 ∨ x = nI 25 ∨ x = nI 26 := by
  rcases (show (x.toInt < 0 ∨ 26 < x.toInt) ∨ x.toInt = (0 : Nat) ∨ x.toInt = (1 : Nat) ∨ x.toInt = (2 : Nat) ∨ x.toInt = (3 : Nat) ∨ x.toInt = (4 : Nat) ∨ x.toInt = (5 : Nat) ∨ x.toInt = (6 : Nat) ∨ x.toInt = (7 : Nat) ∨ x.toInt = (8 : Nat) ∨ x.toInt = (9 : Nat) ∨ x.toInt = (10 : Nat) ∨ x.toInt = (11 : Nat) ∨ x.toInt = (12 : Nat) ∨ x.toInt = (13 : Nat) ∨ x.toInt = (14 : Nat) ∨ x.toInt = (15 : Nat) ∨ x.toInt = (16 : Nat) ∨ x.toInt = (17 : Nat) ∨ x.toInt = (18 : Nat) ∨ x.toInt = (19 : Nat) ∨ x.toInt = (20 : Nat) ∨ x.toInt = (21 : Nat) ∨ x.toInt = (22 : Nat) ∨ x.toInt = (23 : Nat) ∨ x.toInt = (24 : Nat) ∨ x.toInt = (25 : Nat) ∨ x.toInt = (26 : Nat) by omega) with h | h | h | h | h | h | h | h | h | h | h | h | h | h | h | h | h | h | h | h | h | h | h | h | h | h | h | h
  · exact Or.inl h
  · exact Or.inr (Or.inl (sw_eq 0 (by decide) h))
  · exact Or.inr (Or.inr (Or.inl (sw_eq 1 (by decide) h)))
  · exact Or.inr (Or.inr (Or.inr (Or.inl (sw_eq 2 (by decide) h))))
  · exact Or.inr (Or.inr (Or.inr (Or.inr (Or.inl (sw_eq 3 (by decide) h)))))
  · exact Or.inr (Or.inr (Or.inr (Or.inr (Or.inr (Or.inl (sw_eq 4 (by decide) h))))))
  · exact Or.inr (Or.inr (Or.inr (Or.inr (Or.inr (Or.inr (Or.inl (sw_eq 5 (by decide) h)))))))
  · exact Or.inr (Or.inr (Or.inr (Or.inr (Or.inr (Or.inr (Or.inr (Or.inl (sw_eq 6 (by decide) h))))))))
  · exact Or.inr (Or.inr (Or.inr (Or.inr (Or.inr (Or.inr (Or.inr (Or.inr (Or.inl (sw_eq 7 (by decide) h)))))))))
  · exact Or.inr (Or.inr (Or.inr (Or.inr (Or.inr (Or.inr (Or.inr (Or.inr (Or.inr (Or.inl (sw_eq 8 (by decide) h))))))))))
  · exact Or.inr (Or.inr (Or.inr (Or.inr (Or.inr (Or.inr (Or.inr (Or.inr (Or.inr (Or.inr (Or.inl (sw_eq 9 (by decide) h)))))))))))
  · exact Or.inr (Or.inr (Or.inr (Or.inr (Or.inr (Or.inr (Or.inr (Or.inr (Or.inr (Or.inr (Or.inr (Or.inl (sw_eq 10 (by decide) h))))))))))))
  · exact Or.inr (Or.inr (Or.inr (Or.inr (Or.inr (Or.inr (Or.inr (Or.inr (Or.inr (Or.inr (Or.inr (Or.inr (Or.inl (sw_eq 11 (by decide) h)))))))))))))
  · exact Or.inr (Or.inr (Or.inr (Or.inr (Or.inr (Or.inr (Or.inr (Or.inr (Or.inr (Or.inr (Or.inr (Or.inr (Or.inr (Or.inl (sw_eq 12 (by decide) h))))))))))))))
  · exact Or.inr (Or.inr (Or.inr (Or.inr (Or.inr (Or.inr (Or.inr (Or.inr (Or.inr (Or.inr (Or.inr (Or.inr (Or.inr (Or.inr (Or.inl (sw_eq 13 (by decide) h)))))))))))))))
  · exact Or.inr (Or.inr (Or.inr (Or.inr (Or.inr (Or.inr (Or.inr (Or.inr (Or.inr (Or.inr (Or.inr (Or.inr (Or.inr (Or.inr (Or.inr (Or.inl (sw_eq 14 (by decide) h))))))))))))))))
  · exact Or.inr (Or.inr (Or.inr (Or.inr (Or.inr (Or.inr (Or.inr (Or.inr (Or.inr (Or.inr (Or.inr (Or.inr (Or.inr (Or.inr (Or.inr (Or.inr (Or.inl (sw_eq 15 (by decide) h)))))))))))))))))
  · exact Or.inr (Or.inr (Or.inr (Or.inr (Or.inr (Or.inr (Or.inr (Or.inr (Or.inr (Or.inr (Or.inr (Or.inr (Or.inr (Or.inr (Or.inr (Or.inr (Or.inr (Or.inl (sw_eq 16 (by decide) h))))))))))))))))))
  · exact Or.inr (Or.inr (Or.inr (Or.inr (Or.inr (Or.inr (Or.inr (Or.inr (Or.inr (Or.inr (Or.inr (Or.inr (Or.inr (Or.inr (Or.inr (Or.inr (Or.inr (Or.inr (Or.inl (sw_eq 17 (by decide) h)))))))))))))))))))
  · exact Or.inr (Or.inr (Or.inr (Or.inr (Or.inr (Or.inr (Or.inr (Or.inr (Or.inr (Or.inr (Or.inr (Or.inr (Or.inr (Or.inr (Or.inr (Or.inr (Or.inr (Or.inr (Or.inr (Or.inl (sw_eq 18 (by decide) h))))))))))))))))))))
  · exact Or.inr (Or.inr (Or.inr (Or.inr (Or.inr (Or.inr (Or.inr (Or.inr (Or.inr (Or.inr (Or.inr (Or.inr (Or.inr (Or.inr (Or.inr (Or.inr (Or.inr (Or.inr (Or.inr (Or.inr (Or.inl (sw_eq 19 (by decide) h)))))))))))))))))))))
  · exact Or.inr (Or.inr (Or.inr (Or.inr (Or.inr (Or.inr (Or.inr (Or.inr (Or.inr (Or.inr (Or.inr (Or.inr (Or.inr (Or.inr (Or.inr (Or.inr (Or.inr (Or.inr (Or.inr (Or.inr (Or.inr (Or.inl (sw_eq 20 (by decide) h))))))))))))))))))))))
  · exact Or.inr (Or.inr (Or.inr (Or.inr (Or.inr (Or.inr (Or.inr (Or.inr (Or.inr (Or.inr (Or.inr (Or.inr (Or.inr (Or.inr (Or.inr (Or.inr (Or.inr (Or.inr (Or.inr (Or.inr (Or.inr (Or.inr (Or.inl (sw_eq 21 (by decide) h)))))))))))))))))))))))
  · exact Or.inr (Or.inr (Or.inr (Or.inr (Or.inr (Or.inr (Or.inr (Or.inr (Or.inr (Or.inr (Or.inr (Or.inr (Or.inr (Or.inr (Or.inr (Or.inr (Or.inr (Or.inr (Or.inr (Or.inr (Or.inr (Or.inr (Or.inr (Or.inl (sw_eq 22 (by decide) h))))))))))))))))))))))))
  · exact Or.inr (Or.inr (Or.inr (Or.inr (Or.inr (Or.inr (Or.inr (Or.inr (Or.inr (Or.inr (Or.inr (Or.inr (Or.inr (Or.inr (Or.inr (Or.inr (Or.inr (Or.inr (Or.inr (Or.inr (Or.inr (Or.inr (Or.inr (Or.inr (Or.inl (sw_eq 23 (by decide) h)))))))))))))))))))))))))
  · exact Or.inr (Or.inr (Or.inr (Or.inr (Or.inr (Or.inr (Or.inr (Or.inr (Or.inr (Or.inr (Or.inr (Or.inr (Or.inr (Or.inr (Or.inr (Or.inr (Or.inr (Or.inr (Or.inr (Or.inr (Or.inr (Or.inr (Or.inr (Or.inr (Or.inr (Or.inl (sw_eq 24 (by decide) h))))))))))))))))))))))))))
  · exact Or.inr (Or.inr (Or.inr (Or.inr (Or.inr (Or.inr (Or.inr (Or.inr (Or.inr (Or.inr (Or.inr (Or.inr (Or.inr (Or.inr (Or.inr (Or.inr (Or.inr (Or.inr (Or.inr (Or.inr (Or.inr (Or.inr (Or.inr (Or.inr (Or.inr (Or.inr (Or.inl (sw_eq 25 (by decide) h)))))))))))))))))))))))))))
  · exact Or.inr (Or.inr (Or.inr (Or.inr (Or.inr (Or.inr (Or.inr (Or.inr (Or.inr (Or.inr (Or.inr (Or.inr (Or.inr (Or.inr (Or.inr (Or.inr (Or.inr (Or.inr (Or.inr (Or.inr (Or.inr (Or.inr (Or.inr (Or.inr (Or.inr (Or.inr (Or.inr ((sw_eq 26 (by decide) h))))))))))))))))))))))))))))
theorem s_everyone {G : kG} {n t : Nat} {h : kH} {T : mT} (ht : t + 3 ≤ n) (H : oTown G t T h) (hw : wT T) : Spi G mX5_everyone 0 [.ref (kb G + t)] n h (fun v h' => v = nI (allB T.1) ∧ h' = h) := by
  obtain ⟨tk, tc, ⟨hT, htk, htc⟩, hTk, hTc⟩ := H
  refine Spi.of (by decide) (Nat.le_of_ble_eq_true rfl) ?_
  refine go_iconst (v := nI 1) (nx := 1) dX5_everyone_0 (by decide) rfl ?_
  refine go_aload_n 0 (nx := 2) dX5_everyone_1 rfl rfl rfl ?_
  refine go_gf (nx := 5) fg_X5_25 dX5_everyone_2 (by omega) hT rfl rfl ?_
  refine go_ishl (nx := 6) dX5_everyone_5 rfl ?_
  refine go_iconst (v := nI 1) (nx := 7) dX5_everyone_6 (by decide) rfl ?_
  refine go_isub (nx := 8) dX5_everyone_7 rfl ?_
  refine go_reti dX5_everyone_8 ⟨_, rfl, rfl⟩ ?_
  exact ⟨allB_I hw.1, rfl⟩
theorem ff_at {s : Nat → Bool} {p : Nat} : ∀ {m : Nat}, p < m → ff s p = none → s p = true → ff s m = some p
  | 0, h, _, _ => absurd h (Nat.not_lt_zero p)
  | m + 1, h, ho, hs => by
    simp only [ff]
    by_cases e : p = m
    · subst e
      rw [ho, if_pos hs]
    · rw [ff_at (by omega) ho hs]
theorem l_firstWith {G : kG} {n t i le : Nat} {h : kH} {c : Nat → Int32} {k : Nat → Nat} {T : mT} {tk tc : Nat → Int32} (ht : t + 3 ≤ n) (hw : wT T) (H : rTown G t tk tc (nI T.1) (nI T.2.2.2.1) (nI T.2.2.2.2.1) (nI T.2.2.2.2.2) h) (hi : i < n) (hc : h i = .inl (G.2.1, 8, .inl c)) (hk : ∀ p, p < 8 → c p = nI (k p)) (hk8 : ∀ p, p < 8 → k p < 8) : ∀ (d p : Nat), T.1 - p < d → p ≤ T.1 → ff (fun p => k p == T.2.2.2.2.2) p = none → Go G mX5_firstWith (1, 0, 0) 2 [(3, .int (nI p)), (0, .ref (kb G + t)), (1, .ref (kb G + i)), (2, .int (nI le))] [] (n, 0, 0) h (kQi mX5_firstWith n (fun v h' => v = nI ((ff (fun p => k p == T.2.2.2.2.2) T.1).getD le) ∧ h' = h)) := by
  intro d
  obtain ⟨hT, htk, htc⟩ := H
  have hP := hw.1
  have hj := hw.2.2.2.2.2
  induction d with
  | zero => intro p hd; omega
  | succ d ih =>
    intro p hd hp ho
    refine go_iload_n 0 (nx := 3) dX5_firstWith_2 rfl rfl rfl ?_
    refine go_aload_n 1 (nx := 4) dX5_firstWith_3 rfl rfl rfl ?_
    refine go_gf (nx := 7) fg_X5_25 dX5_firstWith_4 (by omega) hT rfl rfl ?_
    refine go_icmp_ge 30 (nx := 10) dX5_firstWith_7 rfl rfl (fun c7 => ?_) (fun c7 => ?_)
    · skip
      refine go_iload_n 3 (nx := 31) dX5_firstWith_30 rfl rfl rfl ?_
      refine go_reti dX5_firstWith_31 ⟨_, rfl, rfl⟩ ?_
      have e8 : p = T.1 := by have := kle c7; omega
      subst e8
      rw [ho]
      exact ⟨rfl, rfl⟩
    · skip
      refine go_aload_n 2 (nx := 11) dX5_firstWith_10 rfl rfl rfl ?_
      refine go_iload_n 0 (nx := 12) dX5_firstWith_11 rfl rfl rfl ?_
      refine go_SNi (nx := 15) [_, _] kc_X5_38 (s_at_in (by omega) hc (by omega) rfl (by have := knle c7; omega)) dX5_firstWith_12 rfl rfl (Nat.le_of_ble_eq_true rfl) (Nat.le_of_ble_eq_true rfl) ⟨Nat.le_refl _, Nat.le_refl _⟩ rfl (fun rh1 h1 hqh1 => ?_)
      obtain ⟨rfl, rfl⟩ := hqh1
      have h8 := knle c7
      rw [hk p (by omega)]
      refine go_aload_n 1 (nx := 16) dX5_firstWith_15 rfl rfl rfl ?_
      refine go_gf (nx := 19) fg_X5_35 dX5_firstWith_16 (by omega) hT rfl rfl ?_
      refine go_icmp_ne 24 (nx := 22) dX5_firstWith_19 rfl rfl (fun c19 => ?_) (fun c19 => ?_)
      · skip
        refine go_iinc 0 (v := nI (p + 1)) (lv' := [_, _, _, _]) (nx := 27) dX5_firstWith_24 rfl (nI_inc p) (by decide) rfl rfl ?_
        refine go_goto 2 dX5_firstWith_27 rfl ?_
        refine Go.sub [0, 1, 2, 3] rfl ?_
        exact ih (p + 1) (by omega) (by omega) (by simp only [ff, ho]; rw [if_neg]; have := hk8 p (by omega); simp; intro e; exact c19 (by rw [e]))
      · skip
        refine go_iload_n 0 (nx := 23) dX5_firstWith_22 rfl rfl rfl ?_
        refine go_reti dX5_firstWith_23 ⟨_, rfl, rfl⟩ ?_
        refine ⟨?_, rfl⟩
        have e : (k p == T.2.2.2.2.2) = true := by have := hk8 p (by omega); simp; exact keq c19
        rw [ff_at h8 ho e]
        rfl
theorem s_firstWith {G : kG} {n t i le : Nat} {h : kH} {c : Nat → Int32} {k : Nat → Nat} {T : mT} {x : Int32} (ht : t + 3 ≤ n) (hw : wT T) (H : oTown G t T h) (hi : i < n) (hc : h i = .inl (G.2.1, 8, .inl c)) (hk : ∀ p, p < 8 → c p = nI (k p)) (hk8 : ∀ p, p < 8 → k p < 8) (hx : x = nI le) : Spi G mX5_firstWith 1 [.ref (kb G + t), .ref (kb G + i), .int x] n h (fun v h' => v = nI ((ff (fun p => k p == T.2.2.2.2.2) T.1).getD le) ∧ h' = h) := by
  subst hx
  obtain ⟨tk, tc, H, -⟩ := H
  refine Spi.of (by decide) (Nat.le_of_ble_eq_true rfl) ?_
  refine go_iconst (v := nI 0) (nx := 1) dX5_firstWith_0 (by decide) rfl ?_
  refine go_istore_n (lv' := [_, _, _, _]) (nx := 2) dX5_firstWith_1 rfl (by decide) rfl rfl ?_
  refine Go.sub [0, 1, 2, 3] rfl ?_
  exact l_firstWith ht hw H hi hc hk hk8 (T.1 + 1) 0 (by omega) (by omega) rfl
end
section
theorem lf_mask {k : Nat → Nat} {s : Nat → Bool} {w P : Nat} (hP : P ≤ 8) (hs : ∀ p, p < 8 → w.testBit p = (decide (p < P) && s p)) : lf k w.testBit 8 = lf k s P := by
  rw [lf_tail hP (fun p h1 h2 => by rw [hs p h2]; simp; omega)]
  exact lf_ext fun p hp => by rw [hs p (by omega)]; simp [hp]
theorem pick_some {k : Nat → Nat} {s : Nat → Bool} {w P m : Nat} (hP : P ≤ 8) (hw : w < 256) (hs : ∀ p, p < 8 → w.testBit p = (decide (p < P) && s p)) (h0 : ¬ nI w = 0) : (lf k w.testBit 8).getD 0 = (lf k s P).getD m := by
  rw [← lf_mask hP hs]
  cases e : lf k w.testBit 8 with
  | some b => rfl
  | none =>
    refine absurd ?_ h0
    have h := bits_zero.mpr (lf_none.mp e)
    rw [bits_of w hw] at h
    rw [h]; rfl
theorem pick_none {k : Nat → Nat} {s : Nat → Bool} {w P m : Nat} (hP : P ≤ 8) (hw : w < 256) (hs : ∀ p, p < 8 → w.testBit p = (decide (p < P) && s p)) (h0 : nI w = 0) : (lf k s P).getD m = m := by
  rw [← lf_mask hP hs]
  have h1 : w = 0 := keq (b := 0) h0
  rw [lf_none.mpr (fun p hp => by rw [h1]; exact Nat.zero_testBit p)]
  rfl
theorem least_mask {k : Nat → Nat} {P : Nat} (hP : P ≤ 8) : lf k (allB P).testBit 8 = lf k (fun _ => true) P := lf_mask hP fun p hp => by rw [allB_bit hP hp]; simp
theorem lf_some {k : Nat → Nat} {P : Nat} (hP : 0 < P) : ∃ b, lf k (fun _ => true) P = some b ∧ b < P := by
  cases e : lf k (fun _ => true) P with
  | some b => exact ⟨b, rfl, (lf_lt e).1⟩
  | none => exact absurd (lf_none.mp e 0 hP) (by decide)
theorem mLeast_lt {T : mT} {K : mK} (hP : 0 < T.1) : mLeast T K < T.1 := by
  obtain ⟨b, e, hb⟩ := lf_some (k := cnt K) hP
  rw [mLeast, e]; exact hb
theorem ff_lt {s : Nat → Bool} : ∀ {m b : Nat}, ff s m = some b → b < m ∧ s b = true
  | 0, b, h => by cases h
  | m + 1, b, h => by
    simp only [ff] at h
    split at h
    · rename_i e
      cases h
      exact ⟨Nat.lt_succ_of_lt (ff_lt e).1, (ff_lt e).2⟩
    · split at h
      · rename_i hs
        cases h
        exact ⟨Nat.lt_succ_self _, hs⟩
      · cases h
theorem mChoose_lt {T : mT} {K : mK} {C : Nat → Nat} (hP : 0 < T.1) : mChoose T K C < T.1 := by
  have hL := mLeast_lt (K := K) hP
  have key : ∀ (s : Nat → Bool), (lf (cnt K) s T.1).getD (mLeast T K) < T.1 := fun s => by
    cases e : lf (cnt K) s T.1 with
    | some b => exact (lf_lt e).1
    | none => exact hL
  unfold mChoose
  split
  · exact key _
  · split
    · cases e : ff (fun p => cnt K p == T.2.2.2.2.2) T.1 with
      | some b => exact (ff_lt e).1
      | none => exact hL
    · split
      · exact key _
      · exact hL
theorem s_choose {G : kG} {n q t : Nat} {h : kH} {T : mT} {ν : mN} (hq : q + 5 ≤ n) (ht : t + 3 ≤ n) (HN : oNow G q ν h) (HT : oTown G t T h) (hw : wT T) (hv : wK T.1 ν.1) (hP : 0 < T.1) : Spi G mX5_choose 2 [.ref (kb G + t), .ref (kb G + q)] n h (fun v h' => v = nI (mChoose T ν.1 ν.2.2.1) ∧ h' = h) := by
  have HT' := HT
  obtain ⟨kn, ct, si, cr, ⟨hN, hkn, hct, hsi, hcr⟩, hK, hC, hS, hR⟩ := HN
  obtain ⟨tk, tc, ⟨hT, htk, htc⟩, hTk, hTc⟩ := HT
  have hP8 := hw.1
  have hk8 := cnt_lt hv
  have hall := allB_lt hP8
  have hL := mLeast_lt (K := ν.1) hP
  have hwo : allB T.1 &&& (255 - 2 ^ mLeast T ν.1) < 256 := by rw [clr_key _ hall _ (by omega)]; exact bits_lt _
  have hso : ∀ p, p < 8 → (allB T.1 &&& (255 - 2 ^ mLeast T ν.1)).testBit p = (decide (p < T.1) && !(p == mLeast T ν.1)) := fun p hp => by rw [clr_key _ hall _ (by omega), bits_test _ hp, allB_bit hP8 hp]
  have hsf : ∀ p, p < 8 → (bitsOf fun p => (allB T.1).testBit p && !(bitsOf fun p => !(ν.2.2.1 p == 0)).testBit p).testBit p = (decide (p < T.1) && (ν.2.2.1 p == 0)) := fun p hp => by rw [bits_test _ hp, allB_bit hP8 hp, bits_test _ hp]; simp
  refine Spi.of (by decide) (Nat.le_of_ble_eq_true rfl) ?_
  refine go_aload_n 0 (nx := 1) dX5_choose_0 rfl rfl rfl ?_
  refine go_Vi (nx := 4) [] kc_X5_46 ⟨_, _, rfl⟩ (by omega) hT (s_everyone ht HT' hw) dX5_choose_1 rfl rfl (Nat.le_of_ble_eq_true rfl) (Nat.le_of_ble_eq_true rfl) ⟨Nat.le_refl _, Nat.le_refl _⟩ rfl (fun rh1 h1 hqh1 => ?_)
  obtain ⟨rfl, rfl⟩ := hqh1
  refine go_istore_n (lv' := [_, _, _]) (nx := 5) dX5_choose_4 rfl (by decide) rfl rfl ?_
  refine go_aload_n 2 (nx := 6) dX5_choose_5 rfl rfl rfl ?_
  refine go_gf (nx := 9) fg_X5_50 dX5_choose_6 (by omega) hN rfl rfl ?_
  refine go_iload_n 0 (nx := 10) dX5_choose_9 rfl rfl rfl ?_
  refine go_Si (nx := 13) [_, _] kc_X5_55 (s_leastOf (k := cnt ν.1) (by omega) hct hC hk8 rfl hall) dX5_choose_10 rfl rfl (Nat.le_of_ble_eq_true rfl) (Nat.le_of_ble_eq_true rfl) ⟨Nat.le_refl _, Nat.le_refl _⟩ rfl (fun rh2 h2 hqh2 => ?_)
  obtain ⟨rfl, rfl⟩ := hqh2
  rw [least_mask hP8, show (lf (cnt ν.1) (fun _ => true) T.1).getD 0 = mLeast T ν.1 from rfl]
  refine go_istore_n (lv' := [_, _, _, _]) (nx := 14) dX5_choose_13 rfl (by decide) rfl rfl ?_
  refine go_iload_n 1 (nx := 15) dX5_choose_14 rfl rfl rfl ?_
  refine go_iconst (v := nI 1) (nx := 16) dX5_choose_15 (by decide) rfl ?_
  refine go_iload_n 0 (nx := 17) dX5_choose_16 rfl rfl rfl ?_
  refine go_ishl (nx := 18) dX5_choose_17 rfl ?_
  refine go_iconst (v := (-1)) (nx := 19) dX5_choose_18 (by decide) rfl ?_
  refine go_ixor (nx := 20) dX5_choose_19 rfl ?_
  refine go_iand (nx := 21) dX5_choose_20 rfl ?_
  rw [i_clr _ hall _ (by omega)]
  refine go_istore (lv' := [_, _, _, _, _]) (nx := 23) dX5_choose_21 (by decide) rfl rfl ?_
  refine go_iload_n 2 (nx := 24) dX5_choose_23 rfl rfl rfl ?_
  refine go_aload_n 4 (nx := 25) dX5_choose_24 rfl rfl rfl ?_
  refine go_gf (nx := 28) fg_X5_58 dX5_choose_25 (by omega) hN rfl rfl ?_
  refine go_iconst (v := (-1)) (nx := 29) dX5_choose_28 (by decide) rfl ?_
  refine go_ixor (nx := 30) dX5_choose_29 rfl ?_
  refine go_iand (nx := 31) dX5_choose_30 rfl ?_
  rw [i_less hall (bits_lt _)]
  refine go_istore (lv' := [_, _, _, _, _, _]) (nx := 33) dX5_choose_31 (by decide) rfl rfl ?_
  refine go_aload_n 4 (nx := 34) dX5_choose_33 rfl rfl rfl ?_
  refine go_gf (nx := 37) fg_X5_32 dX5_choose_34 (by omega) hT rfl rfl ?_
  rcases sw_1_3 (nI T.2.2.2.2.1) with hs37 | hs37 | hs37 | hs37
  · refine go_tableOut 112 dX5_choose_37 hs37 rfl ?_
    refine go_iload_n 2 (nx := 113) dX5_choose_112 rfl rfl rfl ?_
    refine go_reti dX5_choose_113 ⟨_, rfl, rfl⟩ ?_
    refine ⟨?_, rfl⟩
    have h0 := hs37
    rw [nI_toInt (by have := hw.2.2.2.2.1; omega)] at h0
    unfold mChoose
    rw [if_neg (by omega), if_neg (by have := hw.2.2.2.2.1; omega), if_neg (by have := hw.2.2.2.2.1; omega)]
  · refine go_tableIn 64 dX5_choose_37 (by rw [hs37]; decide) (by rw [hs37]; decide) (off := 27) (by rw [hs37]; rfl) rfl ?_
    refine go_iload 1 (nx := 66) dX5_choose_64 rfl rfl ?_
    refine go_if_ne 73 (nx := 69) dX5_choose_66 rfl rfl (fun c66 => ?_) (fun c66 => ?_)
    · skip
      refine go_aload_n 5 (nx := 74) dX5_choose_73 rfl rfl rfl ?_
      refine go_gf (nx := 77) fg_X5_50 dX5_choose_74 (by omega) hN rfl rfl ?_
      refine go_iload 1 (nx := 79) dX5_choose_77 rfl rfl ?_
      refine go_Si (nx := 82) [_, _] kc_X5_55 (s_leastOf (k := cnt ν.1) (by omega) hct hC hk8 rfl hwo) dX5_choose_79 rfl rfl (Nat.le_of_ble_eq_true rfl) (Nat.le_of_ble_eq_true rfl) ⟨Nat.le_refl _, Nat.le_refl _⟩ rfl (fun rh3 h3 hqh3 => ?_)
      obtain ⟨rfl, rfl⟩ := hqh3
      refine go_reti dX5_choose_82 ⟨_, rfl, rfl⟩ ?_
      refine ⟨?_, rfl⟩
      have h0 : T.2.2.2.2.1 = 1 := keq hs37 (by have := hw.2.2.2.2.1; omega)
      unfold mChoose
      rw [if_pos h0]
      exact congrArg nI (pick_some hP8 hwo hso c66)
    · skip
      refine go_iload_n 2 (nx := 70) dX5_choose_69 rfl rfl rfl ?_
      refine go_goto 82 dX5_choose_70 rfl ?_
      refine go_reti dX5_choose_82 ⟨_, rfl, rfl⟩ ?_
      refine ⟨?_, rfl⟩
      have h0 : T.2.2.2.2.1 = 1 := keq hs37 (by have := hw.2.2.2.2.1; omega)
      unfold mChoose
      rw [if_pos h0]
      exact congrArg nI (pick_none hP8 hwo hso c66).symm
  · refine go_tableIn 83 dX5_choose_37 (by rw [hs37]; decide) (by rw [hs37]; decide) (off := 46) (by rw [hs37]; rfl) rfl ?_
    refine go_aload_n 4 (nx := 84) dX5_choose_83 rfl rfl rfl ?_
    refine go_aload_n 5 (nx := 85) dX5_choose_84 rfl rfl rfl ?_
    refine go_gf (nx := 88) fg_X5_50 dX5_choose_85 (by omega) hN rfl rfl ?_
    refine go_iload_n 2 (nx := 89) dX5_choose_88 rfl rfl rfl ?_
    refine go_Vi (nx := 92) [_, _] kc_X5_61 ⟨_, _, rfl⟩ (by omega) hT (s_firstWith (k := cnt ν.1) ht hw HT' (by omega) hct hC hk8 rfl) dX5_choose_89 rfl rfl (Nat.le_of_ble_eq_true rfl) (Nat.le_of_ble_eq_true rfl) ⟨Nat.le_refl _, Nat.le_refl _⟩ rfl (fun rh3 h3 hqh3 => ?_)
    obtain ⟨rfl, rfl⟩ := hqh3
    refine go_reti dX5_choose_92 ⟨_, rfl, rfl⟩ ?_
    refine ⟨?_, rfl⟩
    have h0 : T.2.2.2.2.1 = 2 := keq hs37 (by have := hw.2.2.2.2.1; omega)
    unfold mChoose
    rw [if_neg (by omega), if_pos h0]
  · refine go_tableIn 93 dX5_choose_37 (by rw [hs37]; decide) (by rw [hs37]; decide) (off := 56) (by rw [hs37]; rfl) rfl ?_
    refine go_iload 0 (nx := 95) dX5_choose_93 rfl rfl ?_
    refine go_if_ne 102 (nx := 98) dX5_choose_95 rfl rfl (fun c95 => ?_) (fun c95 => ?_)
    · skip
      refine go_aload_n 5 (nx := 103) dX5_choose_102 rfl rfl rfl ?_
      refine go_gf (nx := 106) fg_X5_50 dX5_choose_103 (by omega) hN rfl rfl ?_
      refine go_iload 0 (nx := 108) dX5_choose_106 rfl rfl ?_
      refine go_Si (nx := 111) [_, _] kc_X5_55 (s_leastOf (k := cnt ν.1) (by omega) hct hC hk8 rfl (bits_lt _)) dX5_choose_108 rfl rfl (Nat.le_of_ble_eq_true rfl) (Nat.le_of_ble_eq_true rfl) ⟨Nat.le_refl _, Nat.le_refl _⟩ rfl (fun rh3 h3 hqh3 => ?_)
      obtain ⟨rfl, rfl⟩ := hqh3
      refine go_reti dX5_choose_111 ⟨_, rfl, rfl⟩ ?_
      refine ⟨?_, rfl⟩
      have h0 : T.2.2.2.2.1 = 3 := keq hs37 (by have := hw.2.2.2.2.1; omega)
      unfold mChoose
      rw [if_neg (by omega), if_neg (by omega), if_pos h0]
      exact congrArg nI (pick_some hP8 (bits_lt _) hsf c95)
    · skip
      refine go_iload_n 2 (nx := 99) dX5_choose_98 rfl rfl rfl ?_
      refine go_goto 111 dX5_choose_99 rfl ?_
      refine go_reti dX5_choose_111 ⟨_, rfl, rfl⟩ ?_
      refine ⟨?_, rfl⟩
      have h0 : T.2.2.2.2.1 = 3 := keq hs37 (by have := hw.2.2.2.2.1; omega)
      unfold mChoose
      rw [if_neg (by omega), if_neg (by omega), if_pos h0]
      exact congrArg nI (pick_none hP8 (bits_lt _) hsf c95).symm
def fb_ct (p : Nat → Bool) : Nat → Nat
  | 0 => 0
  | n + 1 => fb_ct p n + (if p n then 1 else 0)
theorem hab_none {o : Option Nat} (ho : ∀ b, o = some b → b < 8) : hab o = -9 ↔ o = none := by
  cases o with
  | none => exact ⟨fun _ => rfl, fun _ => rfl⟩
  | some b =>
    refine ⟨fun h => ?_, fun h => by cases h⟩
    have hb := ho b rfl
    have h2 : (nI b).toInt = (-9 : Int32).toInt := congrArg Int32.toInt h
    rw [nI_toInt (by omega)] at h2
    exact absurd h2 (by rw [show (-9 : Int32).toInt = -9 from rfl]; omega)
theorem l_habits {G : kG} {n t : Nat} {h : kH} {T : mT} {tk tc : Nat → Int32} (ht : t + 3 ≤ n) (hw : wT T) (H : rTown G t tk tc (nI T.1) (nI T.2.2.2.1) (nI T.2.2.2.2.1) (nI T.2.2.2.2.2) h) (hTc : ∀ p, p < 8 → tc p = hab (T.2.2.1 p)) : ∀ (d p : Nat), T.1 - p < d → p ≤ T.1 → Go G mX5_habits (1, 0, 0) 4 [(2, .int (nI p)), (1, .int (nI (fb_ct (fun p => (T.2.2.1 p).isSome) p))), (0, .ref (kb G + t))] [] (n, 0, 0) h (kQi mX5_habits n (fun v h' => v = nI (fb_ct (fun p => (T.2.2.1 p).isSome) T.1) ∧ h' = h)) := by
  intro d
  obtain ⟨hT, htk, htc⟩ := H
  have hP := hw.1
  induction d with
  | zero => intro p hd; omega
  | succ d ih =>
    intro p hd hp
    refine go_iload_n 0 (nx := 5) dX5_habits_4 rfl rfl rfl ?_
    refine go_aload_n 2 (nx := 6) dX5_habits_5 rfl rfl rfl ?_
    refine go_gf (nx := 9) fg_X5_25 dX5_habits_6 (by omega) hT rfl rfl ?_
    refine go_icmp_ge 34 (nx := 12) dX5_habits_9 rfl rfl (fun c9 => ?_) (fun c9 => ?_)
    · skip
      refine go_iload_n 1 (nx := 35) dX5_habits_34 rfl rfl rfl ?_
      refine go_reti dX5_habits_35 ⟨_, rfl, rfl⟩ ?_
      have e8 : p = T.1 := by have := kle c9; omega
      subst e8
      exact ⟨rfl, rfl⟩
    · skip
      refine go_aload_n 2 (nx := 13) dX5_habits_12 rfl rfl rfl ?_
      refine go_gf (nx := 16) fg_X5_15 dX5_habits_13 (by omega) hT rfl rfl ?_
      refine go_iload_n 0 (nx := 17) dX5_habits_16 rfl rfl rfl ?_
      refine go_SNi (nx := 20) [_, _] kc_X5_38 (s_at_in (by omega) htc (by omega) rfl (by have := knle c9; omega)) dX5_habits_17 rfl rfl (Nat.le_of_ble_eq_true rfl) (Nat.le_of_ble_eq_true rfl) ⟨Nat.le_refl _, Nat.le_refl _⟩ rfl (fun rh1 h1 hqh1 => ?_)
      obtain ⟨rfl, rfl⟩ := hqh1
      have h8 := knle c9
      rw [hTc p (by omega)]
      have hn := hab_none (o := T.2.2.1 p) (fun b e => by have := hw.2.2.1 p b e; omega)
      refine go_bipush (v := (-9)) (nx := 22) dX5_habits_20 (by decide) rfl ?_
      refine go_icmp_eq 28 (nx := 25) dX5_habits_22 rfl rfl (fun c22 => ?_) (fun c22 => ?_)
      · skip
        refine go_iinc 0 (v := nI (p + 1)) (lv' := [_, _, _]) (nx := 31) dX5_habits_28 rfl (nI_inc p) (by decide) rfl rfl ?_
        refine go_goto 4 dX5_habits_31 rfl ?_
        refine Go.sub [0, 1, 2] rfl ?_
        have k := ih (p + 1) (by omega) (by omega)
        rw [show fb_ct (fun p => (T.2.2.1 p).isSome) (p + 1) = fb_ct (fun p => (T.2.2.1 p).isSome) p from by
          show _ + (if (T.2.2.1 p).isSome = true then 1 else 0) = _
          rw [hn.mp c22]; rfl] at k
        exact k
      · skip
        refine go_iinc 1 (v := nI (fb_ct (fun p => (T.2.2.1 p).isSome) p + 1)) (lv' := [_, _, _]) (nx := 28) dX5_habits_25 rfl (nI_inc _) (by decide) rfl rfl ?_
        refine go_iinc 1 (v := nI (p + 1)) (lv' := [_, _, _]) (nx := 31) dX5_habits_28 rfl (nI_inc p) (by decide) rfl rfl ?_
        refine go_goto 4 dX5_habits_31 rfl ?_
        refine Go.sub [0, 1, 2] rfl ?_
        have k := ih (p + 1) (by omega) (by omega)
        rw [show fb_ct (fun p => (T.2.2.1 p).isSome) (p + 1) = fb_ct (fun p => (T.2.2.1 p).isSome) p + 1 from by
          show _ + (if (T.2.2.1 p).isSome = true then 1 else 0) = _
          rw [show (T.2.2.1 p).isSome = true by cases e : T.2.2.1 p with | none => exact absurd (hn.mpr e) c22 | some b => rfl]; rfl] at k
        exact k
theorem s_habits {G : kG} {n t : Nat} {h : kH} {T : mT} (ht : t + 3 ≤ n) (H : oTown G t T h) (hw : wT T) : Spi G mX5_habits 1 [.ref (kb G + t)] n h (fun v h' => v = nI (fb_ct (fun p => (T.2.2.1 p).isSome) T.1) ∧ h' = h) := by
  obtain ⟨tk, tc, H, hTk, hTc⟩ := H
  refine Spi.of (by decide) (Nat.le_of_ble_eq_true rfl) ?_
  refine go_iconst (v := nI 0) (nx := 1) dX5_habits_0 (by decide) rfl ?_
  refine go_istore_n (lv' := [_, _]) (nx := 2) dX5_habits_1 rfl (by decide) rfl rfl ?_
  refine go_iconst (v := nI 0) (nx := 3) dX5_habits_2 (by decide) rfl ?_
  refine go_istore_n (lv' := [_, _, _]) (nx := 4) dX5_habits_3 rfl (by decide) rfl rfl ?_
  refine Go.sub [0, 1, 2] rfl ?_
  exact l_habits ht hw H hTc (T.1 + 1) 0 (by omega) (by omega)
end
section
/-! the rest of LeastKnown$Now -/
theorem cntB_ct (f : Nat → Bool) : cntB f = fb_ct f 8 := by
  simp only [cntB, fb_ct, Bool.toNat, Nat.zero_add]
  simp only [Bool.cond_eq_ite]
theorem l_acq {G : kG} {n q a : Nat} {h : kH} {ν : mN} (hq : q + 5 ≤ n) (H : oNow G q ν h) (ha : a < 8) : ∀ (d b : Nat), 8 - b < d → b ≤ 8 → Go G mX2_acquaintances (2, 0, 0) 4 [(3, .int (nI b)), (2, .int (nI (fb_ct (ν.1 a) b))), (0, .ref (kb G + q)), (1, .int (nI a))] [] (n, 0, 0) h (kQi mX2_acquaintances n (fun v h' => v = nI (acq ν.1 a) ∧ h' = h)) := by
  intro d
  have H' := H
  obtain ⟨kn, ct, si, cr, ⟨hN, hkn, hct, hsi, hcr⟩, hK, hC, hS, hR⟩ := H
  induction d with
  | zero => intro b hd; omega
  | succ d ih =>
    intro b hd hb
    refine go_iload_n 0 (nx := 5) dX2_acquaintances_4 rfl rfl rfl ?_
    refine go_bipush (v := nI 8) (nx := 7) dX2_acquaintances_5 (by decide) rfl ?_
    refine go_icmp_ge 28 (nx := 10) dX2_acquaintances_7 rfl rfl (fun c7 => ?_) (fun c7 => ?_)
    · skip
      refine go_iload_n 1 (nx := 29) dX2_acquaintances_28 rfl rfl rfl ?_
      refine go_reti dX2_acquaintances_29 ⟨_, rfl, rfl⟩ ?_
      have e8 : b = 8 := by have := kle c7; omega
      subst e8
      exact ⟨by rw [acq, cntB_ct], rfl⟩
    · skip
      refine go_aload_n 2 (nx := 11) dX2_acquaintances_10 rfl rfl rfl ?_
      refine go_iload_n 3 (nx := 12) dX2_acquaintances_11 rfl rfl rfl ?_
      refine go_iload_n 0 (nx := 13) dX2_acquaintances_12 rfl rfl rfl ?_
      refine go_Vi (nx := 16) [_, _] kc_X2_63 ⟨_, _, rfl⟩ (by omega) hN (s_isAware hq H' rfl ha rfl (knle c7)) dX2_acquaintances_13 rfl rfl (Nat.le_of_ble_eq_true rfl) (Nat.le_of_ble_eq_true rfl) ⟨Nat.le_refl _, Nat.le_refl _⟩ rfl (fun rh1 h1 hqh1 => ?_)
      obtain ⟨rfl, rfl⟩ := hqh1
      refine go_if_eq 22 (nx := 19) dX2_acquaintances_16 rfl rfl (fun c16 => ?_) (fun c16 => ?_)
      · skip
        refine go_iinc 0 (v := nI (b + 1)) (lv' := [_, _, _, _]) (nx := 25) dX2_acquaintances_22 rfl (nI_inc b) (by decide) rfl rfl ?_
        refine go_goto 4 dX2_acquaintances_25 rfl ?_
        refine Go.sub [0, 1, 2, 3] rfl ?_
        have h8 := knle c7
        have k := ih (b + 1) (by omega) (by omega)
        rw [show fb_ct (ν.1 a) (b + 1) = fb_ct (ν.1 a) b from by
          show _ + (if ν.1 a b = true then 1 else 0) = _
          rw [tb0 c16]; rfl] at k
        exact k
      · skip
        refine go_iinc 1 (v := nI (fb_ct (ν.1 a) b + 1)) (lv' := [_, _, _, _]) (nx := 22) dX2_acquaintances_19 rfl (nI_inc _) (by decide) rfl rfl ?_
        refine go_iinc 1 (v := nI (b + 1)) (lv' := [_, _, _, _]) (nx := 25) dX2_acquaintances_22 rfl (nI_inc b) (by decide) rfl rfl ?_
        refine go_goto 4 dX2_acquaintances_25 rfl ?_
        refine Go.sub [0, 1, 2, 3] rfl ?_
        have h8 := knle c7
        have k := ih (b + 1) (by omega) (by omega)
        rw [show fb_ct (ν.1 a) (b + 1) = fb_ct (ν.1 a) b + 1 from by
          show _ + (if ν.1 a b = true then 1 else 0) = _
          rw [tbn0 c16]; rfl] at k
        exact k
theorem s_acq {G : kG} {n q a : Nat} {h : kH} {ν : mN} {x : Int32} (hq : q + 5 ≤ n) (H : oNow G q ν h) (hx : x = nI a) (ha : a < 8) : Spi G mX2_acquaintances 2 [.ref (kb G + q), .int x] n h (fun v h' => v = nI (acq ν.1 a) ∧ h' = h) := by
  subst hx
  refine Spi.of (by decide) (Nat.le_of_ble_eq_true rfl) ?_
  refine go_iconst (v := nI 0) (nx := 1) dX2_acquaintances_0 (by decide) rfl ?_
  refine go_istore_n (lv' := [_, _, _]) (nx := 2) dX2_acquaintances_1 rfl (by decide) rfl rfl ?_
  refine go_iconst (v := nI 0) (nx := 3) dX2_acquaintances_2 (by decide) rfl ?_
  refine go_istore_n (lv' := [_, _, _, _]) (nx := 4) dX2_acquaintances_3 rfl (by decide) rfl rfl ?_
  refine Go.sub [0, 1, 2, 3] rfl ?_
  exact l_acq hq H ha 9 0 (by omega) (by omega)
def sm (f : Nat → Nat) : Nat → Nat
  | 0 => 0
  | n + 1 => sm f n + f n
theorem l_all {G : kG} {n q : Nat} {h : kH} {ν : mN} (hq : q + 5 ≤ n) (H : oNow G q ν h) : ∀ (d b : Nat), 8 - b < d → b ≤ 8 → Go G mX2_allCounts (1, 0, 0) 4 [(2, .int (nI b)), (1, .int (nI (sm (cnt ν.1) b))), (0, .ref (kb G + q))] [] (n, 0, 0) h (kQi mX2_allCounts n (fun v h' => v = nI (sm (cnt ν.1) 8) ∧ h' = h)) := by
  intro d
  obtain ⟨kn, ct, si, cr, ⟨hN, hkn, hct, hsi, hcr⟩, hK, hC, hS, hR⟩ := H
  induction d with
  | zero => intro b hd; omega
  | succ d ih =>
    intro b hd hb
    refine go_iload_n 0 (nx := 5) dX2_allCounts_4 rfl rfl rfl ?_
    refine go_bipush (v := nI 8) (nx := 7) dX2_allCounts_5 (by decide) rfl ?_
    refine go_icmp_ge 27 (nx := 10) dX2_allCounts_7 rfl rfl (fun c7 => ?_) (fun c7 => ?_)
    · skip
      refine go_iload_n 1 (nx := 28) dX2_allCounts_27 rfl rfl rfl ?_
      refine go_reti dX2_allCounts_28 ⟨_, rfl, rfl⟩ ?_
      have e8 : b = 8 := by have := kle c7; omega
      subst e8
      exact ⟨rfl, rfl⟩
    · skip
      refine go_iload_n 1 (nx := 11) dX2_allCounts_10 rfl rfl rfl ?_
      refine go_aload_n 2 (nx := 12) dX2_allCounts_11 rfl rfl rfl ?_
      refine go_gf (nx := 15) fg_X2_15 dX2_allCounts_12 (by omega) hN rfl rfl ?_
      refine go_iload_n 0 (nx := 16) dX2_allCounts_15 rfl rfl rfl ?_
      refine go_SNi (nx := 19) [_, _] kc_X2_27 (s_at_in (by omega) hct (by omega) rfl (knle c7)) dX2_allCounts_16 rfl rfl (Nat.le_of_ble_eq_true rfl) (Nat.le_of_ble_eq_true rfl) ⟨Nat.le_refl _, Nat.le_refl _⟩ rfl (fun rh1 h1 hqh1 => ?_)
      obtain ⟨rfl, rfl⟩ := hqh1
      rw [hC b (knle c7)]
      refine go_iadd (nx := 20) dX2_allCounts_19 rfl ?_
      rw [nI_add]
      refine go_istore_n (lv' := [_, _, _]) (nx := 21) dX2_allCounts_20 rfl (by decide) rfl rfl ?_
      refine go_iinc 1 (v := nI (b + 1)) (lv' := [_, _, _]) (nx := 24) dX2_allCounts_21 rfl (nI_inc b) (by decide) rfl rfl ?_
      refine go_goto 4 dX2_allCounts_24 rfl ?_
      refine Go.sub [0, 1, 2] rfl ?_
      have h8 := knle c7
      exact ih (b + 1) (by omega) (by omega)
theorem s_allCounts {G : kG} {n q : Nat} {h : kH} {ν : mN} (hq : q + 5 ≤ n) (H : oNow G q ν h) : Spi G mX2_allCounts 1 [.ref (kb G + q)] n h (fun v h' => v = nI (sm (cnt ν.1) 8) ∧ h' = h) := by
  refine Spi.of (by decide) (Nat.le_of_ble_eq_true rfl) ?_
  refine go_iconst (v := nI 0) (nx := 1) dX2_allCounts_0 (by decide) rfl ?_
  refine go_istore_n (lv' := [_, _]) (nx := 2) dX2_allCounts_1 rfl (by decide) rfl rfl ?_
  refine go_iconst (v := nI 0) (nx := 3) dX2_allCounts_2 (by decide) rfl ?_
  refine go_istore_n (lv' := [_, _, _]) (nx := 4) dX2_allCounts_3 rfl (by decide) rfl rfl ?_
  refine Go.sub [0, 1, 2] rfl ?_
  exact l_all hq H 9 0 (by omega) (by omega)
theorem l_crown {G : kG} {n q P who : Nat} {h0 : kH} {ν : mN} (hq : q + 5 ≤ n) (hP : P ≤ 8) (hw : who < 8) : ∀ (d p : Nat) (h : kH), P - p < d → p ≤ P → oNow G q (mHonour who p ν) h → kFr q (q + 5) h0 h → Go G mX2_crown (3, 0, 0) 2 [(3, .int (nI p)), (0, .ref (kb G + q)), (1, .int (nI who)), (2, .int (nI P))] [] (n, 0, 0) h (kQv mX2_crown n (fun h' => oNow G q (mCrown P who ν) h' ∧ kFr q (q + 5) h0 h')) := by
  intro d
  induction d with
  | zero => intro p h hd; omega
  | succ d ih =>
    intro p h hd hp H hF
    have H' := H
    obtain ⟨kn, ct, si, cr, ⟨hN, hkn, hct, hsi, hcr⟩, hK, hC, hS, hR⟩ := H
    refine go_iload_n 0 (nx := 3) dX2_crown_2 rfl rfl rfl ?_
    refine go_iload_n 3 (nx := 4) dX2_crown_3 rfl rfl rfl ?_
    refine go_icmp_ge 25 (nx := 7) dX2_crown_4 rfl rfl (fun c4 => ?_) (fun c4 => ?_)
    · skip
      refine go_aload_n 1 (nx := 26) dX2_crown_25 rfl rfl rfl ?_
      refine go_gf (nx := 29) fg_X2_21 dX2_crown_26 (by omega) hN rfl rfl ?_
      refine go_iload_n 2 (nx := 30) dX2_crown_29 rfl rfl rfl ?_
      refine go_aload_n 1 (nx := 31) dX2_crown_30 rfl rfl rfl ?_
      refine go_gf (nx := 34) fg_X2_21 dX2_crown_31 (by omega) hN rfl rfl ?_
      refine go_iload_n 2 (nx := 35) dX2_crown_34 rfl rfl rfl ?_
      refine go_SNi (nx := 38) [_, _] kc_X2_27 (s_at_in (by omega) hcr (by omega) rfl hw) dX2_crown_35 rfl rfl (Nat.le_of_ble_eq_true rfl) (Nat.le_of_ble_eq_true rfl) ⟨Nat.le_refl _, Nat.le_refl _⟩ rfl (fun rh1 h1 hqh1 => ?_)
      obtain ⟨rfl, rfl⟩ := hqh1
      rw [hR who hw]
      refine go_iconst (v := nI 1) (nx := 39) dX2_crown_38 (by decide) rfl ?_
      refine go_iadd (nx := 40) dX2_crown_39 rfl ?_
      rw [nI_add]
      refine go_SNv (nx := 43) [_, _, _] kc_X2_53 (s_put (by omega) hcr (by omega) rfl hw) dX2_crown_40 rfl rfl (Nat.le_of_ble_eq_true rfl) (Nat.le_of_ble_eq_true rfl) ⟨Nat.le_refl _, Nat.le_refl _⟩ rfl (fun h2 hqh2 => ?_)
      obtain ⟨eh2, fh2⟩ := hqh2
      have hN := (fh2 (q) (by omega)).trans hN
      have hkn := (fh2 (q + 1) (by omega)).trans hkn
      have hct := (fh2 (q + 2) (by omega)).trans hct
      have hsi := (fh2 (q + 3) (by omega)).trans hsi
      have hcr := eh2
      have hF := hF.tr (fun j hj => fh2 j (by omega))
      refine go_aload_n 1 (nx := 44) dX2_crown_43 rfl rfl rfl ?_
      refine go_dup (nx := 45) dX2_crown_44 rfl rfl ?_
      refine go_gf (nx := 48) fg_X2_39 dX2_crown_45 (by omega) hN rfl rfl ?_
      refine go_iconst (v := nI 1) (nx := 49) dX2_crown_48 (by decide) rfl ?_
      refine go_iload_n 2 (nx := 50) dX2_crown_49 rfl rfl rfl ?_
      refine go_ishl (nx := 51) dX2_crown_50 rfl ?_
      refine go_ior (nx := 52) dX2_crown_51 rfl ?_
      refine go_pf (fs' := [_, _, _, _, _, _, _]) (nx := 55) (fp_X2_39 _) dX2_crown_52 (by omega) hN (Nat.le_of_ble_eq_true rfl) ⟨rfl, rfl⟩ rfl rfl (fun h3 eh3 fh3 => ?_)
      have hkn := (fh3 (q + 1) (by omega)).trans hkn
      have hct := (fh3 (q + 2) (by omega)).trans hct
      have hsi := (fh3 (q + 3) (by omega)).trans hsi
      have hcr := (fh3 (q + 4) (by omega)).trans hcr
      have hN := eh3
      have hF := hF.tr (fun j hj => fh3 j (by omega))
      refine go_aload_n 1 (nx := 56) dX2_crown_55 rfl rfl rfl ?_
      refine go_iload_n 2 (nx := 57) dX2_crown_56 rfl rfl rfl ?_
      refine go_pf (fs' := [_, _, _, _, _, _, _]) (nx := 60) (fp_X2_46 _) dX2_crown_57 (by omega) hN (Nat.le_of_ble_eq_true rfl) ⟨rfl, rfl⟩ rfl rfl (fun h4 eh4 fh4 => ?_)
      have hkn := (fh4 (q + 1) (by omega)).trans hkn
      have hct := (fh4 (q + 2) (by omega)).trans hct
      have hsi := (fh4 (q + 3) (by omega)).trans hsi
      have hcr := (fh4 (q + 4) (by omega)).trans hcr
      have hN := eh4
      have hF := hF.tr (fun j hj => fh4 j (by omega))
      refine go_retv dX2_crown_60 rfl ?_
      have e8 : p = P := by have := kle c4; omega
      subst e8
      refine ⟨⟨kn, ct, si, _, ⟨?_, hkn, hct, hsi, hcr⟩, hK, hC, hS, fun p' hp' => ?_⟩, hF⟩
      · rw [hN, i_set _ (bits_lt _) who hw, bits_set _ hw]
        refine congrArg (fun z => Sum.inr (2, [_, _, _, _, Value.int (nI z), _, _])) (bits_ext fun i _ => ?_)
        show _ = !((if i = who then _ + 1 else _) == 0)
        by_cases e : i = who
        · simp [e]
        · simp [e]
      · show _ = nI (if p' = who then _ + 1 else _)
        by_cases e : p' = who
        · subst e; rw [pk_us, if_pos rfl]
        · rw [pk_un e, if_neg e]; exact hR p' hp'
    · skip
      refine go_iload_n 0 (nx := 8) dX2_crown_7 rfl rfl rfl ?_
      refine go_iload_n 2 (nx := 9) dX2_crown_8 rfl rfl rfl ?_
      refine go_icmp_eq 19 (nx := 12) dX2_crown_9 rfl rfl (fun c9 => ?_) (fun c9 => ?_)
      · skip
        refine go_iinc 0 (v := nI (p + 1)) (lv' := [_, _, _, _]) (nx := 22) dX2_crown_19 rfl (nI_inc p) (by decide) rfl rfl ?_
        refine go_goto 2 dX2_crown_22 rfl ?_
        refine Go.sub [0, 1, 2, 3] rfl ?_
        have h8 := knle c4
        refine ih (p + 1) _ (by omega) (by omega) ?_ hF
        simp only [mHonour]
        rw [if_pos (keq c9)]
        exact H'
      · skip
        refine go_aload_n 1 (nx := 13) dX2_crown_12 rfl rfl rfl ?_
        refine go_iload_n 0 (nx := 14) dX2_crown_13 rfl rfl rfl ?_
        refine go_iload_n 2 (nx := 15) dX2_crown_14 rfl rfl rfl ?_
        refine go_Vi (nx := 18) [_, _] kc_X2_73 ⟨_, _, rfl⟩ (by omega) hN (s_learn hq H' rfl (by have := knle c4; omega) rfl hw) dX2_crown_15 rfl rfl (Nat.le_of_ble_eq_true rfl) (Nat.le_of_ble_eq_true rfl) ⟨Nat.le_refl _, Nat.le_refl _⟩ rfl (fun rh1 h1 hqh1 => ?_)
        obtain ⟨-, H, hFh1⟩ := hqh1
        have H' := H
        obtain ⟨kn, ct, si, cr, ⟨hN, hkn, hct, hsi, hcr⟩, hK, hC, hS, hR⟩ := H
        have hF := hF.tr hFh1
        refine go_pop (nx := 19) dX2_crown_18 rfl rfl ?_
        refine go_iinc 0 (v := nI (p + 1)) (lv' := [_, _, _, _]) (nx := 22) dX2_crown_19 rfl (nI_inc p) (by decide) rfl rfl ?_
        refine go_goto 2 dX2_crown_22 rfl ?_
        refine Go.sub [0, 1, 2, 3] rfl ?_
        have h8 := knle c4
        refine ih (p + 1) _ (by omega) (by omega) ?_ hF
        simp only [mHonour]
        rw [if_neg (fun e => c9 (by rw [e]))]
        exact H'
theorem s_crown {G : kG} {n q P who : Nat} {h : kH} {ν : mN} {x y : Int32} (hq : q + 5 ≤ n) (H : oNow G q ν h) (hx : x = nI who) (hw : who < 8) (hy : y = nI P) (hP : P ≤ 8) : Spv G mX2_crown 3 [.ref (kb G + q), .int x, .int y] n h (fun h' => oNow G q (mCrown P who ν) h' ∧ kFr q (q + 5) h h') := by
  subst hx hy
  refine Spv.of (by decide) (Nat.le_of_ble_eq_true rfl) ?_
  refine go_iconst (v := nI 0) (nx := 1) dX2_crown_0 (by decide) rfl ?_
  refine go_istore_n (lv' := [_, _, _, _]) (nx := 2) dX2_crown_1 rfl (by decide) rfl rfl ?_
  refine Go.sub [0, 1, 2, 3] rfl ?_
  exact l_crown hq hP hw (P + 1) 0 h (by omega) (by omega) H kFr.rf
def kClr (K : mK) (a b : Nat) : mK := fun x y => K x y && !(x == a && y == b)
theorem col_clr {K : mK} {a b : Nat} (ha : a < 8) : col (kClr K a b) b = col K b &&& (255 - 2 ^ a) := by
  rw [col, col, bits_clr _ ha]
  exact bits_ext fun i _ => by simp [kClr]
theorem colc_ne {K : mK} {a b c : Nat} (h : c ≠ b) : col (kClr K a b) c = col K c := bits_ext fun i _ => by simp [kClr, h]
theorem clr_lt {w a : Nat} (hw : w < 256) (ha : a < 8) : w &&& (255 - 2 ^ a) < 256 := by rw [clr_key _ hw _ ha]; exact bits_lt _
theorem oNow_clr {G : kG} {q a b : Nat} {h : kH} {ν : mN} {kn ct si cr : Nat → Int32} (ha : a < 8) (hb : b < 8) (H : rNow G q (upd kn b (nI (col ν.1 b &&& (255 - 2 ^ a)))) (upd ct b (nI (popc (col ν.1 b &&& (255 - 2 ^ a))))) si cr (nI (bitsOf fun p => !(ν.2.2.1 p == 0))) (nI ν.2.2.2.1) ν.2.2.2.2 h) (hK : ∀ b, b < 8 → kn b = nI (col ν.1 b)) (hC : ∀ b, b < 8 → ct b = nI (cnt ν.1 b)) (hS : ∀ j, j < 64 → si j = ν.2.1 j) (hR : ∀ p, p < 8 → cr p = nI (ν.2.2.1 p)) : oNow G q (kClr ν.1 a b, ν.2) h := by
  refine ⟨_, _, _, _, H, fun c hc => ?_, fun c hc => ?_, hS, hR⟩
  · by_cases e : c = b
    · subst e; rw [pk_us]; exact congrArg nI (col_clr ha).symm
    · rw [pk_un e, hK c hc]; exact congrArg nI (colc_ne e).symm
  · by_cases e : c = b
    · subst e; rw [pk_us]; exact congrArg nI (by rw [cnt_popc, col_clr ha])
    · rw [pk_un e, hC c hc]; exact congrArg nI (by rw [cnt_popc, cnt_popc, colc_ne e])

theorem fg_step {K K0 : mK} {c : Nat → Nat → Bool} {a b : Nat} (hK : ∀ x y, K x y = (K0 x y && !((decide (y < b) || (decide (y = b) && decide (x < a))) && c x y))) (h : K a b = true → c a b = false) : ∀ x y, K x y = (K0 x y && !((decide (y < b) || (decide (y = b) && decide (x < a + 1))) && c x y)) := by
  intro x y
  by_cases hx : x = a
  · by_cases hy : y = b
    · subst hx hy
      cases e : c x y
      · rw [hK x y, e]; simp
      · have e2 : K x y = false := by
          cases e3 : K x y
          · rfl
          · rw [h e3] at e; cases e
        rw [e2]
        rw [hK x y] at e2
        simp at e2
        simp [e2]
    · rw [hK x y]; simp [hy]
  · rw [hK x y, show decide (x < a + 1) = decide (x < a) by simp; omega]
theorem fg_stepC {K K0 : mK} {c : Nat → Nat → Bool} {a b : Nat} (hK : ∀ x y, K x y = (K0 x y && !((decide (y < b) || (decide (y = b) && decide (x < a))) && c x y))) (h : c a b = true) : ∀ x y, kClr K a b x y = (K0 x y && !((decide (y < b) || (decide (y = b) && decide (x < a + 1))) && c x y)) := by
  intro x y
  unfold kClr
  by_cases hx : x = a
  · by_cases hy : y = b
    · subst hx hy
      simp [h]
    · rw [hK x y]; simp [hy]
  · rw [hK x y, show decide (x < a + 1) = decide (x < a) by simp; omega]
    simp [hx]
/-- what a forgets of b -/
def fgC (fo : Nat) (ν : mN) (a b : Nat) : Bool := decide (nI fo ≤ nI ν.2.2.2.1 - ν.2.1 (8 * a + b))
theorem l_fgIn {G : kG} {n q t b : Nat} {h0 : kH} {ν : mN} {T : mT} (hq : q + 5 ≤ n) (ht : t + 3 ≤ n) (hd0 : t + 3 ≤ q ∨ q + 5 ≤ t) (hw : wT T) (hb : b < T.1) {Q : Option Value → kZ → kH → Prop}
    (kk : ∀ (K : mK) (h : kH) (lv : List (Nat × Value)), lv = [(2, .int (nI b)), (0, .ref (kb G + q)), (1, .ref (kb G + t))] → oNow G q (K, ν.2) h → oTown G t T h → kFr q (q + 5) h0 h → (∀ x y, K x y = (ν.1 x y && !((decide (y < b) || (decide (y = b) && decide (x < T.1))) && fgC T.2.2.2.1 ν x y))) → Go G mX2_forget (2, 0, 0) 72 lv [] (n, 0, 0) h Q) :
    ∀ (d a : Nat) (K : mK) (h : kH), T.1 - a < d → a ≤ T.1 → oNow G q (K, ν.2) h → oTown G t T h → kFr q (q + 5) h0 h → (∀ x y, K x y = (ν.1 x y && !((decide (y < b) || (decide (y = b) && decide (x < a))) && fgC T.2.2.2.1 ν x y))) → Go G mX2_forget (2, 0, 0) 12 [(3, .int (nI a)), (2, .int (nI b)), (0, .ref (kb G + q)), (1, .ref (kb G + t))] [] (n, 0, 0) h Q := by
  intro d
  have hP := hw.1
  have hfo := hw.2.2.2.1
  induction d with
  | zero => intro a K h hd; omega
  | succ d ih =>
    intro a K h hd ha H HT hF hKK
    have H' := H
    have HT' := HT
    obtain ⟨kn, ct, si, cr, ⟨hN, hkn, hct, hsi, hcr⟩, hK, hC, hS, hR⟩ := H
    obtain ⟨tk, tc, ⟨hT, htk, htc⟩, hTk, hTc⟩ := HT
    refine go_iload_n 0 (nx := 13) dX2_forget_12 rfl rfl rfl ?_
    refine go_aload_n 3 (nx := 14) dX2_forget_13 rfl rfl rfl ?_
    refine go_gf (nx := 17) fg_X2_67 dX2_forget_14 (by omega) hT rfl rfl ?_
    refine go_icmp_ge 72 (nx := 20) dX2_forget_17 rfl rfl (fun c17 => ?_) (fun c17 => ?_)
    · skip
      have e8 : a = T.1 := by have := kle c17; omega
      subst e8
      exact Go.sub [1, 2, 3] rfl (kk K _ _ rfl H' HT' hF hKK)
    · skip
      have h8 := knle c17
      refine go_aload_n 2 (nx := 21) dX2_forget_20 rfl rfl rfl ?_
      refine go_iload_n 0 (nx := 22) dX2_forget_21 rfl rfl rfl ?_
      refine go_iload_n 1 (nx := 23) dX2_forget_22 rfl rfl rfl ?_
      refine go_Vi (nx := 26) [_, _] kc_X2_63 ⟨_, _, rfl⟩ (by omega) hN (s_isAware hq H' rfl (by have := knle c17; omega) rfl (by omega)) dX2_forget_23 rfl rfl (Nat.le_of_ble_eq_true rfl) (Nat.le_of_ble_eq_true rfl) ⟨Nat.le_refl _, Nat.le_refl _⟩ rfl (fun rh1 h1 hqh1 => ?_)
      obtain ⟨rfl, rfl⟩ := hqh1
      refine go_if_eq 66 (nx := 29) dX2_forget_26 rfl rfl (fun c26 => ?_) (fun c26 => ?_)
      · skip
        refine go_iinc 0 (v := nI (a + 1)) (lv' := [_, _, _, _]) (nx := 69) dX2_forget_66 rfl (nI_inc a) (by decide) rfl rfl ?_
        refine go_goto 12 dX2_forget_69 rfl ?_
        refine Go.sub [0, 1, 2, 3] rfl ?_
        refine ih (a + 1) K _ (by omega) (by omega) H' HT' hF (fg_step hKK fun e => ?_)
        have e2 : K a b = false := tb0 c26
        rw [e2] at e
        cases e
      · skip
        refine go_aload_n 2 (nx := 30) dX2_forget_29 rfl rfl rfl ?_
        refine go_gf (nx := 33) fg_X2_43 dX2_forget_30 (by omega) hN rfl rfl ?_
        refine go_aload_n 2 (nx := 34) dX2_forget_33 rfl rfl rfl ?_
        refine go_iload_n 0 (nx := 35) dX2_forget_34 rfl rfl rfl ?_
        refine go_iload_n 1 (nx := 36) dX2_forget_35 rfl rfl rfl ?_
        refine go_Vi (nx := 39) [_, _] kc_X2_91 ⟨_, _, rfl⟩ (by omega) hN (s_sight hq H' rfl (by have := knle c17; omega) rfl (by omega)) dX2_forget_36 rfl rfl (Nat.le_of_ble_eq_true rfl) (Nat.le_of_ble_eq_true rfl) ⟨Nat.le_refl _, Nat.le_refl _⟩ rfl (fun rh2 h2 hqh2 => ?_)
        obtain ⟨rfl, rfl⟩ := hqh2
        refine go_isub (nx := 40) dX2_forget_39 rfl ?_
        refine go_aload_n 3 (nx := 41) dX2_forget_40 rfl rfl rfl ?_
        refine go_gf (nx := 44) fg_X2_84 dX2_forget_41 (by omega) hT rfl rfl ?_
        refine go_icmp_lt 66 (nx := 47) dX2_forget_44 rfl rfl (fun c44 => ?_) (fun c44 => ?_)
        · skip
          refine go_iinc 0 (v := nI (a + 1)) (lv' := [_, _, _, _]) (nx := 69) dX2_forget_66 rfl (nI_inc a) (by decide) rfl rfl ?_
          refine go_goto 12 dX2_forget_69 rfl ?_
          refine Go.sub [0, 1, 2, 3] rfl ?_
          refine ih (a + 1) K _ (by omega) (by omega) H' HT' hF (fg_step hKK fun _ => ?_)
          exact decide_eq_false fun e => Int32.not_le.mpr c44 e
        · skip
          refine go_aload_n 2 (nx := 48) dX2_forget_47 rfl rfl rfl ?_
          refine go_iload_n 1 (nx := 49) dX2_forget_48 rfl rfl rfl ?_
          refine go_aload_n 2 (nx := 50) dX2_forget_49 rfl rfl rfl ?_
          refine go_gf (nx := 53) fg_X2_9 dX2_forget_50 (by omega) hN rfl rfl ?_
          refine go_iload_n 1 (nx := 54) dX2_forget_53 rfl rfl rfl ?_
          refine go_SNi (nx := 57) [_, _] kc_X2_27 (s_at_in (by omega) hkn (by omega) rfl (by omega)) dX2_forget_54 rfl rfl (Nat.le_of_ble_eq_true rfl) (Nat.le_of_ble_eq_true rfl) ⟨Nat.le_refl _, Nat.le_refl _⟩ rfl (fun rh3 h3 hqh3 => ?_)
          obtain ⟨rfl, rfl⟩ := hqh3
          refine go_iconst (v := nI 1) (nx := 58) dX2_forget_57 (by decide) rfl ?_
          refine go_iload_n 0 (nx := 59) dX2_forget_58 rfl rfl rfl ?_
          refine go_ishl (nx := 60) dX2_forget_59 rfl ?_
          refine go_iconst (v := (-1)) (nx := 61) dX2_forget_60 (by decide) rfl ?_
          refine go_ixor (nx := 62) dX2_forget_61 rfl ?_
          refine go_iand (nx := 63) dX2_forget_62 rfl ?_
          refine go_Vv (nx := 66) [_, _] kc_X2_31 ⟨_, _, rfl⟩ (by omega) hN (s_setKnowers (w := col K b &&& (255 - 2 ^ a)) hq ⟨hN, hkn, hct, hsi, hcr⟩ rfl (by omega) (by rw [hK b (by omega), i_clr _ (col_lt _ _) a (by have := knle c17; omega)]) (clr_lt (col_lt _ _) (by have := knle c17; omega))) dX2_forget_63 rfl rfl (Nat.le_of_ble_eq_true rfl) (Nat.le_of_ble_eq_true rfl) ⟨Nat.le_refl _, Nat.le_refl _⟩ rfl (fun h4 hqh4 => ?_)
          obtain ⟨hR1, hFh4⟩ := hqh4
          have H2 := oNow_clr (ν := (K, ν.2)) (by omega) (by omega) hR1 hK hC hS hR
          have hF := hF.tr hFh4
          have HT' := HT'.fr hFh4 (by omega)
          refine go_iinc 0 (v := nI (a + 1)) (lv' := [_, _, _, _]) (nx := 69) dX2_forget_66 rfl (nI_inc a) (by decide) rfl rfl ?_
          refine go_goto 12 dX2_forget_69 rfl ?_
          refine Go.sub [0, 1, 2, 3] rfl ?_
          refine ih (a + 1) (kClr K a b) _ (by omega) (by omega) H2 HT' hF (fg_stepC hKK ?_)
          exact decide_eq_true (Int32.not_lt.mp c44)
theorem l_fgOut {G : kG} {n q t : Nat} {h0 : kH} {ν : mN} {T : mT} (hq : q + 5 ≤ n) (ht : t + 3 ≤ n) (hd0 : t + 3 ≤ q ∨ q + 5 ≤ t) (hw : wT T) (hv : wK T.1 ν.1) : ∀ (d b : Nat) (K : mK) (h : kH) (lv : List (Nat × Value)), T.1 - b < d → b ≤ T.1 → lv = [(2, .int (nI b)), (0, .ref (kb G + q)), (1, .ref (kb G + t))] → oNow G q (K, ν.2) h → oTown G t T h → kFr q (q + 5) h0 h → (∀ x y, K x y = (ν.1 x y && !((decide (y < b) || (decide (y = b) && decide (x < 0))) && fgC T.2.2.2.1 ν x y))) → Go G mX2_forget (2, 0, 0) 2 lv [] (n, 0, 0) h (kQv mX2_forget n (fun h' => oNow G q (mForget T.2.2.2.1 ν) h' ∧ kFr q (q + 5) h0 h')) := by
  intro d
  have hP := hw.1
  induction d with
  | zero => intro b K h lv hd; omega
  | succ d ih =>
    intro b K h lv hd hb hlv H HT hF hKK
    subst hlv
    have H' := H
    have HT' := HT
    obtain ⟨kn, ct, si, cr, ⟨hN, hkn, hct, hsi, hcr⟩, hK, hC, hS, hR⟩ := H
    obtain ⟨tk, tc, ⟨hT, htk, htc⟩, hTk, hTc⟩ := HT
    refine go_iload_n 0 (nx := 3) dX2_forget_2 rfl rfl rfl ?_
    refine go_aload_n 2 (nx := 4) dX2_forget_3 rfl rfl rfl ?_
    refine go_gf (nx := 7) fg_X2_67 dX2_forget_4 (by omega) hT rfl rfl ?_
    refine go_icmp_ge 78 (nx := 10) dX2_forget_7 rfl rfl (fun c7 => ?_) (fun c7 => ?_)
    · skip
      refine go_retv dX2_forget_78 rfl ?_
      have e8 : b = T.1 := by have := kle c7; omega
      subst e8
      refine ⟨?_, hF⟩
      rw [show mForget T.2.2.2.1 ν = (K, ν.2) from ?_]
      · exact H'
      · unfold mForget
        refine congrArg (·, ν.2) (funext fun x => funext fun y => ?_)
        rw [hKK x y]
        cases e : ν.1 x y
        · rfl
        · simp [(hv x y e).2.1, fgC]
    · skip
      refine go_iconst (v := nI 0) (nx := 11) dX2_forget_10 (by decide) rfl ?_
      refine go_istore_n (lv' := [_, _, _, _]) (nx := 12) dX2_forget_11 rfl (by decide) rfl rfl ?_
      refine Go.sub [0, 1, 2, 3] rfl ?_
      have h8 := knle c7
      refine l_fgIn (h0 := h0) (ν := ν) hq ht hd0 hw h8 (fun K2 h2 lv2 e2 H2 HT2 hF2 hKK2 => ?_) (T.1 + 1) 0 K _ (by omega) (by omega) H' HT' hF hKK
      subst e2
      refine go_iinc 0 (v := nI (b + 1)) (lv' := [_, _, _]) (nx := 75) dX2_forget_72 rfl (nI_inc b) (by decide) rfl rfl ?_
      refine go_goto 2 dX2_forget_75 rfl ?_
      refine ih (b + 1) K2 h2 _ (by omega) (by omega) rfl H2 HT2 hF2 (fun x y => ?_)
      rw [hKK2 x y]
      cases e : ν.1 x y
      · rfl
      · have hx := (hv x y e).1
        simp only [hx, show decide (x < 0) = false by simp, decide_true, Bool.and_true, Bool.and_false, Bool.or_false, Bool.true_and]
        rw [show (decide (y < b) || decide (y = b)) = decide (y < b + 1) by rw [Bool.eq_iff_iff]; simp; omega]
theorem s_forget {G : kG} {n q t : Nat} {h : kH} {ν : mN} {T : mT} (hq : q + 5 ≤ n) (ht : t + 3 ≤ n) (hd0 : t + 3 ≤ q ∨ q + 5 ≤ t) (H : oNow G q ν h) (HT : oTown G t T h) (hw : wT T) (hv : wK T.1 ν.1) : Spv G mX2_forget 2 [.ref (kb G + q), .ref (kb G + t)] n h (fun h' => oNow G q (mForget T.2.2.2.1 ν) h' ∧ kFr q (q + 5) h h') := by
  refine Spv.of (by decide) (Nat.le_of_ble_eq_true rfl) ?_
  refine go_iconst (v := nI 0) (nx := 1) dX2_forget_0 (by decide) rfl ?_
  refine go_istore_n (lv' := [_, _, _]) (nx := 2) dX2_forget_1 rfl (by decide) rfl rfl ?_
  refine l_fgOut hq ht hd0 hw hv (T.1 + 1) 0 ν.1 h _ (by omega) (by omega) rfl H HT kFr.rf (fun x y => ?_)
  simp
end
section
/-! begin, copyFrom, fewestAsks, isParty, spring -/
theorem l_begin {G : kG} {n q t : Nat} {h0 : kH} {T : mT} {si cr : Nat → Int32} {rg yr la : Int32} (hq : q + 5 ≤ n) (ht : t + 3 ≤ n) (hd0 : t + 3 ≤ q ∨ q + 5 ≤ t) : ∀ (d p : Nat) (kn ct : Nat → Int32) (h : kH), 8 - p < d → p ≤ 8 → rNow G q kn ct si cr rg yr la h → oTown G t T h → kFr q (q + 5) h0 h → (∀ b, b < p → kn b = nI (col T.2.1 b) ∧ ct b = nI (cnt T.2.1 b)) → Go G mX2_begin (2, 0, 0) 2 [(2, .int (nI p)), (0, .ref (kb G + q)), (1, .ref (kb G + t))] [] (n, 0, 0) h (kQv mX2_begin n (fun h' => oNow G q (T.2.1, fun _ => -1, fun _ => 0, 0, -9) h' ∧ kFr q (q + 5) h0 h')) := by
  intro d
  induction d with
  | zero => intro p kn ct h hd; omega
  | succ d ih =>
    intro p kn ct h hd hp H HT hF hb
    obtain ⟨hN, hkn, hct, hsi, hcr⟩ := H
    obtain ⟨tk, tc, ⟨hT, htk, htc⟩, hTk, hTc⟩ := id HT
    refine go_iload_n 0 (nx := 3) dX2_begin_2 rfl rfl rfl ?_
    refine go_bipush (v := nI 8) (nx := 5) dX2_begin_3 (by decide) rfl ?_
    refine go_icmp_ge 27 (nx := 8) dX2_begin_5 rfl rfl (fun c5 => ?_) (fun c5 => ?_)
    · skip
      refine go_aload_n 1 (nx := 28) dX2_begin_27 rfl rfl rfl ?_
      refine go_gf (nx := 31) fg_X2_18 dX2_begin_28 (by omega) hN rfl rfl ?_
      refine go_iconst (v := (-1)) (nx := 32) dX2_begin_31 (by decide) rfl ?_
      refine go_SNv (nx := 35) [_, _] kc_X2_35 (s_fill (by omega) hsi (by omega)) dX2_begin_32 rfl rfl (Nat.le_of_ble_eq_true rfl) (Nat.le_of_ble_eq_true rfl) ⟨Nat.le_refl _, Nat.le_refl _⟩ rfl (fun h1 hqh1 => ?_)
      obtain ⟨⟨gs, hgh1, eh1⟩, fh1⟩ := hqh1
      have hN := (fh1 (q) (by omega)).trans hN
      have hkn := (fh1 (q + 1) (by omega)).trans hkn
      have hct := (fh1 (q + 2) (by omega)).trans hct
      have hcr := (fh1 (q + 4) (by omega)).trans hcr
      have hT := (fh1 (t) (by omega)).trans hT
      have htk := (fh1 (t + 1) (by omega)).trans htk
      have htc := (fh1 (t + 2) (by omega)).trans htc
      have hsi := eh1
      have hF := hF.tr (fun j hj => fh1 j (by omega))
      refine go_aload_n 1 (nx := 36) dX2_begin_35 rfl rfl rfl ?_
      refine go_gf (nx := 39) fg_X2_21 dX2_begin_36 (by omega) hN rfl rfl ?_
      refine go_iconst (v := nI 0) (nx := 40) dX2_begin_39 (by decide) rfl ?_
      refine go_SNv (nx := 43) [_, _] kc_X2_35 (s_fill (by omega) hcr (by omega)) dX2_begin_40 rfl rfl (Nat.le_of_ble_eq_true rfl) (Nat.le_of_ble_eq_true rfl) ⟨Nat.le_refl _, Nat.le_refl _⟩ rfl (fun h2 hqh2 => ?_)
      obtain ⟨⟨gc, hgh2, eh2⟩, fh2⟩ := hqh2
      have hN := (fh2 (q) (by omega)).trans hN
      have hkn := (fh2 (q + 1) (by omega)).trans hkn
      have hct := (fh2 (q + 2) (by omega)).trans hct
      have hsi := (fh2 (q + 3) (by omega)).trans hsi
      have hT := (fh2 (t) (by omega)).trans hT
      have htk := (fh2 (t + 1) (by omega)).trans htk
      have htc := (fh2 (t + 2) (by omega)).trans htc
      have hcr := eh2
      have hF := hF.tr (fun j hj => fh2 j (by omega))
      refine go_aload_n 1 (nx := 44) dX2_begin_43 rfl rfl rfl ?_
      refine go_iconst (v := nI 0) (nx := 45) dX2_begin_44 (by decide) rfl ?_
      refine go_pf (fs' := [_, _, _, _, _, _, _]) (nx := 48) (fp_X2_39 _) dX2_begin_45 (by omega) hN (Nat.le_of_ble_eq_true rfl) ⟨rfl, rfl⟩ rfl rfl (fun h3 eh3 fh3 => ?_)
      have hkn := (fh3 (q + 1) (by omega)).trans hkn
      have hct := (fh3 (q + 2) (by omega)).trans hct
      have hsi := (fh3 (q + 3) (by omega)).trans hsi
      have hcr := (fh3 (q + 4) (by omega)).trans hcr
      have hT := (fh3 (t) (by omega)).trans hT
      have htk := (fh3 (t + 1) (by omega)).trans htk
      have htc := (fh3 (t + 2) (by omega)).trans htc
      have hN := eh3
      have hF := hF.tr (fun j hj => fh3 j (by omega))
      refine go_aload_n 1 (nx := 49) dX2_begin_48 rfl rfl rfl ?_
      refine go_iconst (v := nI 0) (nx := 50) dX2_begin_49 (by decide) rfl ?_
      refine go_pf (fs' := [_, _, _, _, _, _, _]) (nx := 53) (fp_X2_43 _) dX2_begin_50 (by omega) hN (Nat.le_of_ble_eq_true rfl) ⟨rfl, rfl⟩ rfl rfl (fun h4 eh4 fh4 => ?_)
      have hkn := (fh4 (q + 1) (by omega)).trans hkn
      have hct := (fh4 (q + 2) (by omega)).trans hct
      have hsi := (fh4 (q + 3) (by omega)).trans hsi
      have hcr := (fh4 (q + 4) (by omega)).trans hcr
      have hT := (fh4 (t) (by omega)).trans hT
      have htk := (fh4 (t + 1) (by omega)).trans htk
      have htc := (fh4 (t + 2) (by omega)).trans htc
      have hN := eh4
      have hF := hF.tr (fun j hj => fh4 j (by omega))
      refine go_aload_n 1 (nx := 54) dX2_begin_53 rfl rfl rfl ?_
      refine go_bipush (v := (-9)) (nx := 56) dX2_begin_54 (by decide) rfl ?_
      refine go_pf (fs' := [_, _, _, _, _, _, _]) (nx := 59) (fp_X2_46 _) dX2_begin_56 (by omega) hN (Nat.le_of_ble_eq_true rfl) ⟨rfl, rfl⟩ rfl rfl (fun h5 eh5 fh5 => ?_)
      have hkn := (fh5 (q + 1) (by omega)).trans hkn
      have hct := (fh5 (q + 2) (by omega)).trans hct
      have hsi := (fh5 (q + 3) (by omega)).trans hsi
      have hcr := (fh5 (q + 4) (by omega)).trans hcr
      have hT := (fh5 (t) (by omega)).trans hT
      have htk := (fh5 (t + 1) (by omega)).trans htk
      have htc := (fh5 (t + 2) (by omega)).trans htc
      have hN := eh5
      have hF := hF.tr (fun j hj => fh5 j (by omega))
      refine go_retv dX2_begin_59 rfl ?_
      have e8 : p = 8 := by have := kle c5; omega
      subst e8
      exact ⟨⟨kn, ct, gs, gc, ⟨hN, hkn, hct, hsi, hcr⟩, fun b h => (hb b h).1, fun b h => (hb b h).2, hgh1, hgh2⟩, hF⟩
    · skip
      refine go_aload_n 1 (nx := 9) dX2_begin_8 rfl rfl rfl ?_
      refine go_iload_n 0 (nx := 10) dX2_begin_9 rfl rfl rfl ?_
      refine go_aload_n 2 (nx := 11) dX2_begin_10 rfl rfl rfl ?_
      refine go_gf (nx := 14) fg_X2_24 dX2_begin_11 (by omega) hT rfl rfl ?_
      refine go_iload_n 0 (nx := 15) dX2_begin_14 rfl rfl rfl ?_
      refine go_SNi (nx := 18) [_, _] kc_X2_27 (s_at_in (by omega) htk (by omega) rfl (knle c5)) dX2_begin_15 rfl rfl (Nat.le_of_ble_eq_true rfl) (Nat.le_of_ble_eq_true rfl) ⟨Nat.le_refl _, Nat.le_refl _⟩ rfl (fun rh1 h1 hqh1 => ?_)
      obtain ⟨rfl, rfl⟩ := hqh1
      refine go_Vv (nx := 21) [_, _] kc_X2_31 ⟨_, _, rfl⟩ (by omega) hN (s_setKnowers hq ⟨hN, hkn, hct, hsi, hcr⟩ rfl (knle c5) (by rw [hTk p (knle c5)]) (col_lt _ _)) dX2_begin_18 rfl rfl (Nat.le_of_ble_eq_true rfl) (Nat.le_of_ble_eq_true rfl) ⟨Nat.le_refl _, Nat.le_refl _⟩ rfl (fun h2 hqh2 => ?_)
      obtain ⟨hR1, hFh2⟩ := hqh2
      have hF := hF.tr hFh2
      have HT := HT.fr hFh2 (by omega)
      refine go_iinc 0 (v := nI (p + 1)) (lv' := [_, _, _]) (nx := 24) dX2_begin_21 rfl (nI_inc p) (by decide) rfl rfl ?_
      refine go_goto 2 dX2_begin_24 rfl ?_
      refine Go.sub [0, 1, 2] rfl ?_
      have h8 := knle c5
      refine ih (p + 1) _ _ _ (by omega) (by omega) hR1 HT hF (fun b hb2 => ?_)
      by_cases e : b = p
      · subst e; rw [pk_us, pk_us, cnt_popc]; exact ⟨rfl, rfl⟩
      · rw [pk_un e, pk_un e]; exact hb b (by omega)
theorem s_begin {G : kG} {n q t : Nat} {h : kH} {T : mT} {kn ct si cr : Nat → Int32} {rg yr la : Int32} (hq : q + 5 ≤ n) (ht : t + 3 ≤ n) (hd0 : t + 3 ≤ q ∨ q + 5 ≤ t) (H : rNow G q kn ct si cr rg yr la h) (HT : oTown G t T h) : Spv G mX2_begin 2 [.ref (kb G + q), .ref (kb G + t)] n h (fun h' => oNow G q (T.2.1, fun _ => -1, fun _ => 0, 0, -9) h' ∧ kFr q (q + 5) h h') := by
  refine Spv.of (by decide) (Nat.le_of_ble_eq_true rfl) ?_
  refine go_iconst (v := nI 0) (nx := 1) dX2_begin_0 (by decide) rfl ?_
  refine go_istore_n (lv' := [_, _, _]) (nx := 2) dX2_begin_1 rfl (by decide) rfl rfl ?_
  exact l_begin hq ht hd0 9 0 kn ct h (by omega) (by omega) H HT kFr.rf (fun b hb => absurd hb (Nat.not_lt_zero b))
theorem s_copyFrom {G : kG} {n q q2 : Nat} {h : kH} {ν : mN} {kn ct si cr : Nat → Int32} {rg yr la : Int32} (hq : q + 5 ≤ n) (hq2 : q2 + 5 ≤ n) (hd0 : q2 + 5 ≤ q ∨ q + 5 ≤ q2) (H : rNow G q kn ct si cr rg yr la h) (H2 : oNow G q2 ν h) : Spv G mX2_copyFrom 1 [.ref (kb G + q), .ref (kb G + q2)] n h (fun h' => oNow G q ν h' ∧ kFr q (q + 5) h h') := by
  obtain ⟨hN, hkn, hct, hsi, hcr⟩ := H
  obtain ⟨mkn, mct, msi, mcr, ⟨hM, hmkn, hmct, hmsi, hmcr⟩, hK, hC, hS, hR⟩ := H2
  have hF : kFr q (q + 5) h h := kFr.rf
  refine Spv.of (by decide) (Nat.le_of_ble_eq_true rfl) ?_
  refine go_aload_n 1 (nx := 1) dX2_copyFrom_0 rfl rfl rfl ?_
  refine go_gf (nx := 4) fg_X2_9 dX2_copyFrom_1 (by omega) hM rfl rfl ?_
  refine go_aload_n 0 (nx := 5) dX2_copyFrom_4 rfl rfl rfl ?_
  refine go_gf (nx := 8) fg_X2_9 dX2_copyFrom_5 (by omega) hN rfl rfl ?_
  refine go_SNv (nx := 11) [_, _] kc_X2_49 (s_copy (by omega) (by omega) (by omega) hmkn hkn (by omega)) dX2_copyFrom_8 rfl rfl (Nat.le_of_ble_eq_true rfl) (Nat.le_of_ble_eq_true rfl) ⟨Nat.le_refl _, Nat.le_refl _⟩ rfl (fun h1 hqh1 => ?_)
  obtain ⟨⟨g1, hgh1, eh1⟩, fh1⟩ := hqh1
  have hN := (fh1 (q) (by omega)).trans hN
  have hct := (fh1 (q + 2) (by omega)).trans hct
  have hsi := (fh1 (q + 3) (by omega)).trans hsi
  have hcr := (fh1 (q + 4) (by omega)).trans hcr
  have hM := (fh1 (q2) (by omega)).trans hM
  have hmkn := (fh1 (q2 + 1) (by omega)).trans hmkn
  have hmct := (fh1 (q2 + 2) (by omega)).trans hmct
  have hmsi := (fh1 (q2 + 3) (by omega)).trans hmsi
  have hmcr := (fh1 (q2 + 4) (by omega)).trans hmcr
  have hkn := eh1
  have hF := hF.tr (fun j hj => fh1 j (by omega))
  refine go_aload_n 1 (nx := 12) dX2_copyFrom_11 rfl rfl rfl ?_
  refine go_gf (nx := 15) fg_X2_15 dX2_copyFrom_12 (by omega) hM rfl rfl ?_
  refine go_aload_n 0 (nx := 16) dX2_copyFrom_15 rfl rfl rfl ?_
  refine go_gf (nx := 19) fg_X2_15 dX2_copyFrom_16 (by omega) hN rfl rfl ?_
  refine go_SNv (nx := 22) [_, _] kc_X2_49 (s_copy (by omega) (by omega) (by omega) hmct hct (by omega)) dX2_copyFrom_19 rfl rfl (Nat.le_of_ble_eq_true rfl) (Nat.le_of_ble_eq_true rfl) ⟨Nat.le_refl _, Nat.le_refl _⟩ rfl (fun h2 hqh2 => ?_)
  obtain ⟨⟨g2, hgh2, eh2⟩, fh2⟩ := hqh2
  have hN := (fh2 (q) (by omega)).trans hN
  have hkn := (fh2 (q + 1) (by omega)).trans hkn
  have hsi := (fh2 (q + 3) (by omega)).trans hsi
  have hcr := (fh2 (q + 4) (by omega)).trans hcr
  have hM := (fh2 (q2) (by omega)).trans hM
  have hmkn := (fh2 (q2 + 1) (by omega)).trans hmkn
  have hmct := (fh2 (q2 + 2) (by omega)).trans hmct
  have hmsi := (fh2 (q2 + 3) (by omega)).trans hmsi
  have hmcr := (fh2 (q2 + 4) (by omega)).trans hmcr
  have hct := eh2
  have hF := hF.tr (fun j hj => fh2 j (by omega))
  refine go_aload_n 1 (nx := 23) dX2_copyFrom_22 rfl rfl rfl ?_
  refine go_gf (nx := 26) fg_X2_18 dX2_copyFrom_23 (by omega) hM rfl rfl ?_
  refine go_aload_n 0 (nx := 27) dX2_copyFrom_26 rfl rfl rfl ?_
  refine go_gf (nx := 30) fg_X2_18 dX2_copyFrom_27 (by omega) hN rfl rfl ?_
  refine go_SNv (nx := 33) [_, _] kc_X2_49 (s_copy (by omega) (by omega) (by omega) hmsi hsi (by omega)) dX2_copyFrom_30 rfl rfl (Nat.le_of_ble_eq_true rfl) (Nat.le_of_ble_eq_true rfl) ⟨Nat.le_refl _, Nat.le_refl _⟩ rfl (fun h3 hqh3 => ?_)
  obtain ⟨⟨g3, hgh3, eh3⟩, fh3⟩ := hqh3
  have hN := (fh3 (q) (by omega)).trans hN
  have hkn := (fh3 (q + 1) (by omega)).trans hkn
  have hct := (fh3 (q + 2) (by omega)).trans hct
  have hcr := (fh3 (q + 4) (by omega)).trans hcr
  have hM := (fh3 (q2) (by omega)).trans hM
  have hmkn := (fh3 (q2 + 1) (by omega)).trans hmkn
  have hmct := (fh3 (q2 + 2) (by omega)).trans hmct
  have hmsi := (fh3 (q2 + 3) (by omega)).trans hmsi
  have hmcr := (fh3 (q2 + 4) (by omega)).trans hmcr
  have hsi := eh3
  have hF := hF.tr (fun j hj => fh3 j (by omega))
  refine go_aload_n 1 (nx := 34) dX2_copyFrom_33 rfl rfl rfl ?_
  refine go_gf (nx := 37) fg_X2_21 dX2_copyFrom_34 (by omega) hM rfl rfl ?_
  refine go_aload_n 0 (nx := 38) dX2_copyFrom_37 rfl rfl rfl ?_
  refine go_gf (nx := 41) fg_X2_21 dX2_copyFrom_38 (by omega) hN rfl rfl ?_
  refine go_SNv (nx := 44) [_, _] kc_X2_49 (s_copy (by omega) (by omega) (by omega) hmcr hcr (by omega)) dX2_copyFrom_41 rfl rfl (Nat.le_of_ble_eq_true rfl) (Nat.le_of_ble_eq_true rfl) ⟨Nat.le_refl _, Nat.le_refl _⟩ rfl (fun h4 hqh4 => ?_)
  obtain ⟨⟨g4, hgh4, eh4⟩, fh4⟩ := hqh4
  have hN := (fh4 (q) (by omega)).trans hN
  have hkn := (fh4 (q + 1) (by omega)).trans hkn
  have hct := (fh4 (q + 2) (by omega)).trans hct
  have hsi := (fh4 (q + 3) (by omega)).trans hsi
  have hM := (fh4 (q2) (by omega)).trans hM
  have hmkn := (fh4 (q2 + 1) (by omega)).trans hmkn
  have hmct := (fh4 (q2 + 2) (by omega)).trans hmct
  have hmsi := (fh4 (q2 + 3) (by omega)).trans hmsi
  have hmcr := (fh4 (q2 + 4) (by omega)).trans hmcr
  have hcr := eh4
  have hF := hF.tr (fun j hj => fh4 j (by omega))
  refine go_aload_n 0 (nx := 45) dX2_copyFrom_44 rfl rfl rfl ?_
  refine go_aload_n 1 (nx := 46) dX2_copyFrom_45 rfl rfl rfl ?_
  refine go_gf (nx := 49) fg_X2_39 dX2_copyFrom_46 (by omega) hM rfl rfl ?_
  refine go_pf (fs' := [_, _, _, _, _, _, _]) (nx := 52) (fp_X2_39 _) dX2_copyFrom_49 (by omega) hN (Nat.le_of_ble_eq_true rfl) ⟨rfl, rfl⟩ rfl rfl (fun h5 eh5 fh5 => ?_)
  have hkn := (fh5 (q + 1) (by omega)).trans hkn
  have hct := (fh5 (q + 2) (by omega)).trans hct
  have hsi := (fh5 (q + 3) (by omega)).trans hsi
  have hcr := (fh5 (q + 4) (by omega)).trans hcr
  have hM := (fh5 (q2) (by omega)).trans hM
  have hmkn := (fh5 (q2 + 1) (by omega)).trans hmkn
  have hmct := (fh5 (q2 + 2) (by omega)).trans hmct
  have hmsi := (fh5 (q2 + 3) (by omega)).trans hmsi
  have hmcr := (fh5 (q2 + 4) (by omega)).trans hmcr
  have hN := eh5
  have hF := hF.tr (fun j hj => fh5 j (by omega))
  refine go_aload_n 0 (nx := 53) dX2_copyFrom_52 rfl rfl rfl ?_
  refine go_aload_n 1 (nx := 54) dX2_copyFrom_53 rfl rfl rfl ?_
  refine go_gf (nx := 57) fg_X2_43 dX2_copyFrom_54 (by omega) hM rfl rfl ?_
  refine go_pf (fs' := [_, _, _, _, _, _, _]) (nx := 60) (fp_X2_43 _) dX2_copyFrom_57 (by omega) hN (Nat.le_of_ble_eq_true rfl) ⟨rfl, rfl⟩ rfl rfl (fun h6 eh6 fh6 => ?_)
  have hkn := (fh6 (q + 1) (by omega)).trans hkn
  have hct := (fh6 (q + 2) (by omega)).trans hct
  have hsi := (fh6 (q + 3) (by omega)).trans hsi
  have hcr := (fh6 (q + 4) (by omega)).trans hcr
  have hM := (fh6 (q2) (by omega)).trans hM
  have hmkn := (fh6 (q2 + 1) (by omega)).trans hmkn
  have hmct := (fh6 (q2 + 2) (by omega)).trans hmct
  have hmsi := (fh6 (q2 + 3) (by omega)).trans hmsi
  have hmcr := (fh6 (q2 + 4) (by omega)).trans hmcr
  have hN := eh6
  have hF := hF.tr (fun j hj => fh6 j (by omega))
  refine go_aload_n 0 (nx := 61) dX2_copyFrom_60 rfl rfl rfl ?_
  refine go_aload_n 1 (nx := 62) dX2_copyFrom_61 rfl rfl rfl ?_
  refine go_gf (nx := 65) fg_X2_46 dX2_copyFrom_62 (by omega) hM rfl rfl ?_
  refine go_pf (fs' := [_, _, _, _, _, _, _]) (nx := 68) (fp_X2_46 _) dX2_copyFrom_65 (by omega) hN (Nat.le_of_ble_eq_true rfl) ⟨rfl, rfl⟩ rfl rfl (fun h7 eh7 fh7 => ?_)
  have hkn := (fh7 (q + 1) (by omega)).trans hkn
  have hct := (fh7 (q + 2) (by omega)).trans hct
  have hsi := (fh7 (q + 3) (by omega)).trans hsi
  have hcr := (fh7 (q + 4) (by omega)).trans hcr
  have hM := (fh7 (q2) (by omega)).trans hM
  have hmkn := (fh7 (q2 + 1) (by omega)).trans hmkn
  have hmct := (fh7 (q2 + 2) (by omega)).trans hmct
  have hmsi := (fh7 (q2 + 3) (by omega)).trans hmsi
  have hmcr := (fh7 (q2 + 4) (by omega)).trans hmcr
  have hN := eh7
  have hF := hF.tr (fun j hj => fh7 j (by omega))
  refine go_retv dX2_copyFrom_68 rfl ?_
  exact ⟨⟨g1, g2, g3, g4, ⟨hN, hkn, hct, hsi, hcr⟩, fun b hb => (hgh1 b hb).trans (hK b hb), fun b hb => (hgh2 b hb).trans (hC b hb), fun j hj => (hgh3 j hj).trans (hS j hj), fun p hp => (hgh4 p hp).trans (hR p hp)⟩, hF⟩
def askS (K : mK) (p j P : Nat) : Nat → Nat × Nat
  | 0 => (0, 0)
  | q + 1 => if q ≠ p ∧ (askS K p j P q).1 < j ∧ j ≤ (askS K p j P q).1 + (P - 1 - (askS K p j P q).2) then ((askS K p j P q).1 + (K q p).toNat, (askS K p j P q).2 + 1) else askS K p j P q
theorem askS_b {K : mK} {p j P : Nat} : ∀ (q : Nat), (askS K p j P q).2 + (if p < q then 1 else 0) ≤ q ∧ (askS K p j P q).1 ≤ (askS K p j P q).2
  | 0 => by simp [askS]
  | q + 1 => by
    have ih := askS_b (K := K) (p := p) (j := j) (P := P) q
    have hb := Bool.toNat_le (K q p)
    simp only [askS]
    split
    · rename_i hc
      have h1 := hc.1
      split at ih <;> split <;> simp only [] <;> omega
    · split at ih <;> split <;> omega
theorem askS_stop {K : mK} {p j P q : Nat} (h : ¬ ((askS K p j P q).1 < j ∧ j ≤ (askS K p j P q).1 + (P - 1 - (askS K p j P q).2))) : ∀ (m : Nat), askS K p j P (q + m) = askS K p j P q
  | 0 => rfl
  | m + 1 => by
    have ih := askS_stop h m
    rw [← Nat.add_assoc]
    simp only [askS]
    rw [ih, if_neg (fun z => h z.2)]
theorem l_asks {G : kG} {n q0 p j P : Nat} {h : kH} {ν : mN} (hq : q0 + 5 ≤ n) (H : oNow G q0 ν h) (hp : p < P) (hP : P ≤ 8) (hj : j ≤ 8) : ∀ (d q : Nat), P - q < d → q ≤ P → Go G mX2_fewestAsks (2, 0, 0) 9 [(6, .int (nI q)), (5, .int (nI (askS ν.1 p j P q).1)), (4, .int (nI (askS ν.1 p j P q).2)), (0, .ref (kb G + q0)), (1, .int (nI p)), (2, .int (nI j)), (3, .int (nI P))] [] (n, 0, 0) h (kQi mX2_fewestAsks n (fun v h' => v = nI (askS ν.1 p j P P).2 ∧ h' = h)) := by
  intro d
  have H' := H
  obtain ⟨kn, ct, si, cr, ⟨hN, hkn, hct, hsi, hcr⟩, hK, hC, hS, hR⟩ := H
  induction d with
  | zero => intro q hd; omega
  | succ d ih =>
    intro q hd hqP
    have hb := askS_b (K := ν.1) (p := p) (j := j) (P := P) q
    generalize he : askS ν.1 p j P q = s at hb ⊢
    refine go_iload 0 (nx := 11) dX2_fewestAsks_9 rfl rfl ?_
    refine go_iload_n 6 (nx := 12) dX2_fewestAsks_11 rfl rfl rfl ?_
    refine go_icmp_ge 76 (nx := 15) dX2_fewestAsks_12 rfl rfl (fun c12 => ?_) (fun c12 => ?_)
    · skip
      refine go_iload 2 (nx := 78) dX2_fewestAsks_76 rfl rfl ?_
      refine go_reti dX2_fewestAsks_78 ⟨_, rfl, rfl⟩ ?_
      have e8 : q = P := by have := kle c12; omega
      subst e8
      rw [he]
      exact ⟨rfl, rfl⟩
    · skip
      have h8 := knle c12
      have hs1 : s.2 ≤ P - 1 := by split at hb <;> omega
      refine go_iload_n 6 (nx := 16) dX2_fewestAsks_15 rfl rfl rfl ?_
      refine go_iconst (v := nI 1) (nx := 17) dX2_fewestAsks_16 (by decide) rfl ?_
      refine go_isub (nx := 18) dX2_fewestAsks_17 rfl ?_
      refine go_iload 2 (nx := 20) dX2_fewestAsks_18 rfl rfl ?_
      refine go_isub (nx := 21) dX2_fewestAsks_20 rfl ?_
      rw [pk_sub (by omega), pk_sub hs1]
      refine go_istore (lv' := [_, _, _, _, _, _, _, _]) (nx := 23) dX2_fewestAsks_21 (by decide) rfl rfl ?_
      refine go_iload 2 (nx := 25) dX2_fewestAsks_23 rfl rfl ?_
      refine go_iload_n 6 (nx := 26) dX2_fewestAsks_25 rfl rfl rfl ?_
      refine go_icmp_ge 38 (nx := 29) dX2_fewestAsks_26 rfl rfl (fun c26 => ?_) (fun c26 => ?_)
      · skip
        refine go_iload 3 (nx := 40) dX2_fewestAsks_38 rfl rfl ?_
        refine go_reti dX2_fewestAsks_40 ⟨_, rfl, rfl⟩ ?_
        have z := kle c26 (by omega) (by omega)
        have e2 := askS_stop (K := ν.1) (p := p) (j := j) (P := P) (q := q) (by rw [he]; omega) (P - q)
        rw [show q + (P - q) = P by omega, he] at e2
        rw [e2]
        exact ⟨rfl, rfl⟩
      · skip
        refine go_iload 2 (nx := 31) dX2_fewestAsks_29 rfl rfl ?_
        refine go_iload 0 (nx := 33) dX2_fewestAsks_31 rfl rfl ?_
        refine go_iadd (nx := 34) dX2_fewestAsks_33 rfl ?_
        rw [nI_add]
        refine go_iload_n 6 (nx := 35) dX2_fewestAsks_34 rfl rfl rfl ?_
        refine go_icmp_ge 41 (nx := 38) dX2_fewestAsks_35 rfl rfl (fun c35 => ?_) (fun c35 => ?_)
        · skip
          have y1 : s.1 < j := knle c26 (by omega) (by omega)
          have y2 : j ≤ s.1 + (P - 1 - s.2) := kle c35 (by omega) (by omega)
          refine go_iload 1 (nx := 43) dX2_fewestAsks_41 rfl rfl ?_
          refine go_iload_n 5 (nx := 44) dX2_fewestAsks_43 rfl rfl rfl ?_
          refine go_icmp_eq 70 (nx := 47) dX2_fewestAsks_44 rfl rfl (fun c44 => ?_) (fun c44 => ?_)
          · skip
            refine go_iinc 1 (v := nI (q + 1)) (lv' := [_, _, _, _, _, _, _, _]) (nx := 73) dX2_fewestAsks_70 rfl (nI_inc q) (by decide) rfl rfl ?_
            refine go_goto 9 dX2_fewestAsks_73 rfl ?_
            refine Go.sub [0, 2, 3, 4, 5, 6, 7] rfl ?_
            have k := ih (q + 1) (by omega) (by omega)
            rw [show askS ν.1 p j P (q + 1) = s by simp only [askS]; rw [if_neg (fun z => z.1 (keq c44)), he]] at k
            exact k
          · skip
            refine go_iinc 3 (v := nI (s.2 + 1)) (lv' := [_, _, _, _, _, _, _, _]) (nx := 50) dX2_fewestAsks_47 rfl (nI_inc _) (by decide) rfl rfl ?_
            refine go_iload 3 (nx := 52) dX2_fewestAsks_50 rfl rfl ?_
            refine go_aload_n 4 (nx := 53) dX2_fewestAsks_52 rfl rfl rfl ?_
            refine go_iload 2 (nx := 55) dX2_fewestAsks_53 rfl rfl ?_
            refine go_iload_n 5 (nx := 56) dX2_fewestAsks_55 rfl rfl rfl ?_
            refine go_Vi (nx := 59) [_, _] kc_X2_63 ⟨_, _, rfl⟩ (by omega) hN (s_isAware hq H' rfl (by omega) rfl (by omega)) dX2_fewestAsks_56 rfl rfl (Nat.le_of_ble_eq_true rfl) (Nat.le_of_ble_eq_true rfl) ⟨Nat.le_refl _, Nat.le_refl _⟩ rfl (fun rh1 h1 hqh1 => ?_)
            obtain ⟨rfl, rfl⟩ := hqh1
            refine go_if_eq 66 (nx := 62) dX2_fewestAsks_59 rfl rfl (fun c59 => ?_) (fun c59 => ?_)
            · skip
              refine go_iconst (v := nI 0) (nx := 67) dX2_fewestAsks_66 (by decide) rfl ?_
              refine go_iadd (nx := 68) dX2_fewestAsks_67 rfl ?_
              rw [nI_add]
              refine go_istore (lv' := [_, _, _, _, _, _, _, _]) (nx := 70) dX2_fewestAsks_68 (by decide) rfl rfl ?_
              refine go_iinc 3 (v := nI (q + 1)) (lv' := [_, _, _, _, _, _, _, _]) (nx := 73) dX2_fewestAsks_70 rfl (nI_inc q) (by decide) rfl rfl ?_
              refine go_goto 9 dX2_fewestAsks_73 rfl ?_
              refine Go.sub [0, 1, 2, 4, 5, 6, 7] rfl ?_
              have k := ih (q + 1) (by omega) (by omega)
              have e3 : askS ν.1 p j P (q + 1) = (s.1 + (ν.1 q p).toNat, s.2 + 1) := by
                simp only [askS]
                rw [he, if_pos ⟨fun z => c44 (by rw [z]), y1, y2⟩]
              rw [e3] at k
              rw [show (ν.1 q p).toNat = 0 by rw [tb0 c59]; rfl] at k
              exact k
            · skip
              refine go_iconst (v := nI 1) (nx := 63) dX2_fewestAsks_62 (by decide) rfl ?_
              refine go_goto 67 dX2_fewestAsks_63 rfl ?_
              refine go_iadd (nx := 68) dX2_fewestAsks_67 rfl ?_
              rw [nI_add]
              refine go_istore (lv' := [_, _, _, _, _, _, _, _]) (nx := 70) dX2_fewestAsks_68 (by decide) rfl rfl ?_
              refine go_iinc 3 (v := nI (q + 1)) (lv' := [_, _, _, _, _, _, _, _]) (nx := 73) dX2_fewestAsks_70 rfl (nI_inc q) (by decide) rfl rfl ?_
              refine go_goto 9 dX2_fewestAsks_73 rfl ?_
              refine Go.sub [0, 1, 2, 4, 5, 6, 7] rfl ?_
              have k := ih (q + 1) (by omega) (by omega)
              have e3 : askS ν.1 p j P (q + 1) = (s.1 + (ν.1 q p).toNat, s.2 + 1) := by
                simp only [askS]
                rw [he, if_pos ⟨fun z => c44 (by rw [z]), y1, y2⟩]
              rw [e3] at k
              rw [show (ν.1 q p).toNat = 1 by rw [tbn0 c59]; rfl] at k
              exact k
        · skip
          refine go_iload 3 (nx := 40) dX2_fewestAsks_38 rfl rfl ?_
          refine go_reti dX2_fewestAsks_40 ⟨_, rfl, rfl⟩ ?_
          have z := knle c35 (by omega) (by omega)
          have e2 := askS_stop (K := ν.1) (p := p) (j := j) (P := P) (q := q) (by rw [he]; omega) (P - q)
          rw [show q + (P - q) = P by omega, he] at e2
          rw [e2]
          exact ⟨rfl, rfl⟩
theorem s_asks {G : kG} {n q0 p j P : Nat} {h : kH} {ν : mN} {x y w : Int32} (hq : q0 + 5 ≤ n) (H : oNow G q0 ν h) (hx : x = nI p) (hp : p < P) (hy : y = nI j) (hj : j ≤ 8) (hw : w = nI P) (hP : P ≤ 8) : Spi G mX2_fewestAsks 2 [.ref (kb G + q0), .int x, .int y, .int w] n h (fun v h' => v = nI (askS ν.1 p j P P).2 ∧ h' = h) := by
  subst hx hy hw
  refine Spi.of (by decide) (Nat.le_of_ble_eq_true rfl) ?_
  refine go_iconst (v := nI 0) (nx := 1) dX2_fewestAsks_0 (by decide) rfl ?_
  refine go_istore (lv' := [_, _, _, _, _]) (nx := 3) dX2_fewestAsks_1 (by decide) rfl rfl ?_
  refine go_iconst (v := nI 0) (nx := 4) dX2_fewestAsks_3 (by decide) rfl ?_
  refine go_istore (lv' := [_, _, _, _, _, _]) (nx := 6) dX2_fewestAsks_4 (by decide) rfl rfl ?_
  refine go_iconst (v := nI 0) (nx := 7) dX2_fewestAsks_6 (by decide) rfl ?_
  refine go_istore (lv' := [_, _, _, _, _, _, _]) (nx := 9) dX2_fewestAsks_7 (by decide) rfl rfl ?_
  refine Go.sub [0, 1, 2, 3, 4, 5, 6] rfl ?_
  exact l_asks hq H hp hP hj (P + 1) 0 (by omega) (by omega)
def Pt8 (K : mK) (w : Nat) : Prop := ∀ a, a < 8 → ∀ b, b < 8 → w.testBit a = true → w.testBit b = true → a ≠ b → K a b = true
theorem l_party {G : kG} {n q w : Nat} {h : kH} {ν : mN} (hq : q + 5 ≤ n) (H : oNow G q ν h) (hw : w < 256) : ∀ (d p : Nat) (lv : List (Nat × Value)), 8 - p < d → p ≤ 8 → lv = [(2, .int (nI p)), (0, .ref (kb G + q)), (1, .int (nI w))] → (∀ a, a < 8 → ∀ b, b < p → w.testBit a = true → w.testBit b = true → a ≠ b → ν.1 a b = true) → Go G mX2_isParty (1, 0, 0) 2 lv [] (n, 0, 0) h (kQi mX2_isParty n (fun v h' => ((v = 1 ∧ Pt8 ν.1 w) ∨ (v = 0 ∧ ¬ Pt8 ν.1 w)) ∧ h' = h)) := by
  intro d
  obtain ⟨kn, ct, si, cr, ⟨hN, hkn, hct, hsi, hcr⟩, hK, hC, hS, hR⟩ := H
  induction d with
  | zero => intro p lv hd; omega
  | succ d ih =>
    intro p lv hd hp hlv hpt
    subst hlv
    refine go_iload_n 0 (nx := 3) dX2_isParty_2 rfl rfl rfl ?_
    refine go_bipush (v := nI 8) (nx := 5) dX2_isParty_3 (by decide) rfl ?_
    refine go_icmp_ge 44 (nx := 8) dX2_isParty_5 rfl rfl (fun c5 => ?_) (fun c5 => ?_)
    · skip
      refine go_iconst (v := nI 1) (nx := 45) dX2_isParty_44 (by decide) rfl ?_
      refine go_reti dX2_isParty_45 ⟨_, rfl, rfl⟩ ?_
      have e8 : p = 8 := by have := kle c5; omega
      subst e8
      exact ⟨Or.inl ⟨rfl, fun a ha b hb h1 h2 h3 => hpt a ha b hb h1 h2 h3⟩, rfl⟩
    · skip
      have h8 := knle c5
      have hcl := clr_lt hw h8
      refine go_iload_n 2 (nx := 9) dX2_isParty_8 rfl rfl rfl ?_
      refine go_iconst (v := nI 1) (nx := 10) dX2_isParty_9 (by decide) rfl ?_
      refine go_iload_n 0 (nx := 11) dX2_isParty_10 rfl rfl rfl ?_
      refine go_ishl (nx := 12) dX2_isParty_11 rfl ?_
      refine go_iconst (v := (-1)) (nx := 13) dX2_isParty_12 (by decide) rfl ?_
      refine go_ixor (nx := 14) dX2_isParty_13 rfl ?_
      refine go_iand (nx := 15) dX2_isParty_14 rfl ?_
      rw [i_clr w hw p h8]
      refine go_istore_n (lv' := [_, _, _, _]) (nx := 16) dX2_isParty_15 rfl (by decide) rfl rfl ?_
      refine go_iload_n 0 (nx := 17) dX2_isParty_16 rfl rfl rfl ?_
      refine go_iload_n 3 (nx := 18) dX2_isParty_17 rfl rfl rfl ?_
      refine go_icmp_eq 38 (nx := 21) dX2_isParty_18 rfl rfl (fun c18 => ?_) (fun c18 => ?_)
      · skip
        refine go_iinc 1 (v := nI (p + 1)) (lv' := [_, _, _, _]) (nx := 41) dX2_isParty_38 rfl (nI_inc p) (by decide) rfl rfl ?_
        refine go_goto 2 dX2_isParty_41 rfl ?_
        refine Go.sub [0, 2, 3] rfl ?_
        refine ih (p + 1) _ (by omega) (by omega) rfl (fun a ha b hb h1 h2 h3 => ?_)
        by_cases eb : b = p
        · subst eb
          have e : w &&& (255 - 2 ^ b) = w := keq c18 (by omega) (by omega)
          rw [← e, clr_key w hw b h8, bits_test _ (by omega)] at h2
          simp at h2
        · exact hpt a ha b (by omega) h1 h2 h3
      · skip
        refine go_iload_n 0 (nx := 22) dX2_isParty_21 rfl rfl rfl ?_
        refine go_aload_n 2 (nx := 23) dX2_isParty_22 rfl rfl rfl ?_
        refine go_gf (nx := 26) fg_X2_9 dX2_isParty_23 (by omega) hN rfl rfl ?_
        refine go_iload_n 1 (nx := 27) dX2_isParty_26 rfl rfl rfl ?_
        refine go_SNi (nx := 30) [_, _] kc_X2_27 (s_at_in (by omega) hkn (by omega) rfl h8) dX2_isParty_27 rfl rfl (Nat.le_of_ble_eq_true rfl) (Nat.le_of_ble_eq_true rfl) ⟨Nat.le_refl _, Nat.le_refl _⟩ rfl (fun rh1 h1 hqh1 => ?_)
        obtain ⟨rfl, rfl⟩ := hqh1
        rw [hK p h8]
        refine go_iconst (v := (-1)) (nx := 31) dX2_isParty_30 (by decide) rfl ?_
        refine go_ixor (nx := 32) dX2_isParty_31 rfl ?_
        refine go_iand (nx := 33) dX2_isParty_32 rfl ?_
        rw [i_less hcl (col_lt _ _)]
        refine go_if_eq 38 (nx := 36) dX2_isParty_33 rfl rfl (fun c33 => ?_) (fun c33 => ?_)
        · skip
          refine go_iinc 1 (v := nI (p + 1)) (lv' := [_, _, _, _]) (nx := 41) dX2_isParty_38 rfl (nI_inc p) (by decide) rfl rfl ?_
          refine go_goto 2 dX2_isParty_41 rfl ?_
          refine Go.sub [0, 2, 3] rfl ?_
          refine ih (p + 1) _ (by omega) (by omega) rfl (fun a ha b hb h1 h2 h3 => ?_)
          by_cases eb : b = p
          · subst eb
            have e : (bitsOf fun x => (w &&& (255 - 2 ^ b)).testBit x && !(col ν.1 b).testBit x) = 0 := keq (b := 0) c33 (Nat.lt_trans (bits_lt _) (by decide)) (by decide)
            have e2 := bits_zero.mp e a ha
            rw [clr_key w hw b h8, bits_test _ ha, col, bits_test _ ha, h1] at e2
            cases e3 : ν.1 a b
            · rw [e3] at e2; simp at e2; exact absurd e2 h3
            · rfl
          · exact hpt a ha b (by omega) h1 h2 h3
        · skip
          refine go_iconst (v := nI 0) (nx := 37) dX2_isParty_36 (by decide) rfl ?_
          refine go_reti dX2_isParty_37 ⟨_, rfl, rfl⟩ ?_
          refine ⟨Or.inr ⟨rfl, fun hh => c33 ?_⟩, rfl⟩
          refine congrArg nI (bits_zero.mpr fun x hx => ?_)
          rw [clr_key w hw p h8, bits_test _ hx, col, bits_test _ hx]
          cases ex : w.testBit x
          · rfl
          · by_cases exp : x = p
            · simp [exp]
            · have hp1 : w.testBit p = true := by
                cases e : w.testBit p
                · refine absurd ?_ c18
                  rw [clr_key w hw p h8, show (bitsOf fun i => w.testBit i && !i == p) = w from ?_]
                  refine (bits_ext fun i _ => ?_).trans (bits_of w hw)
                  by_cases ei : i = p
                  · rw [ei, e]; rfl
                  · simp [ei]
                · rfl
              rw [hh x hx p h8 ex hp1 exp]
              simp
theorem s_isParty {G : kG} {n q w : Nat} {h : kH} {ν : mN} {x : Int32} (hq : q + 5 ≤ n) (H : oNow G q ν h) (hx : x = nI w) (hw : w < 256) : Spi G mX2_isParty 1 [.ref (kb G + q), .int x] n h (fun v h' => ((v = 1 ∧ Pt8 ν.1 w) ∨ (v = 0 ∧ ¬ Pt8 ν.1 w)) ∧ h' = h) := by
  subst hx
  refine Spi.of (by decide) (Nat.le_of_ble_eq_true rfl) ?_
  refine go_iconst (v := nI 0) (nx := 1) dX2_isParty_0 (by decide) rfl ?_
  refine go_istore_n (lv' := [_, _, _]) (nx := 2) dX2_isParty_1 rfl (by decide) rfl rfl ?_
  exact l_party hq H hw 9 0 _ (by omega) (by omega) rfl (fun a _ b hb => absurd hb (Nat.not_lt_zero b))
end
section
/-! a spring: what it keeps; LeastKnown$Now.spring -/
theorem wK_set {P a b : Nat} {K : mK} (hK : wK P K) (ha : a < P) (hb : b < P) (h : a ≠ b) : wK P (kSet K a b) := by
  intro x y e
  unfold kSet at e
  cases e2 : K x y
  · rw [e2] at e
    simp at e
    obtain ⟨rfl, rfl⟩ := e
    exact ⟨ha, hb, h⟩
  · exact hK x y e2
theorem wK_and {P : Nat} {K : mK} (hK : wK P K) (f : Nat → Nat → Bool) : wK P (fun x y => K x y && f x y) := by
  intro x y e
  simp only [Bool.and_eq_true] at e
  exact hK x y e.1
theorem wN_learn {P a b : Nat} {ν : mN} (h : wN P ν) (ha : a < P) (hb : b < P) (hab : a ≠ b) : wN P (mLearn ν a b) := by
  refine ⟨wK_set h.1 ha hb hab, h.2.1, h.2.2.1, fun j => ?_, h.2.2.2.2⟩
  show upd ν.2.1 (8 * a + b) (nI ν.2.2.2.1) j = -1 ∨ ∃ s, s ≤ ν.2.2.2.1 ∧ upd ν.2.1 (8 * a + b) (nI ν.2.2.2.1) j = nI s
  by_cases e : j = 8 * a + b
  · subst e; rw [pk_us]; exact Or.inr ⟨_, Nat.le_refl _, rfl⟩
  · rw [pk_un e]; exact h.2.2.2.1 j
theorem wN_calls {T : mT} {ν : mN} (hw : wT T) (h : wN T.1 ν) : ∀ {p : Nat}, p ≤ T.1 → wN T.1 (mCalls T p ν)
  | 0, _ => h
  | p + 1, hp => by
    have ih := wN_calls hw h (p := p) (by omega)
    simp only [mCalls]
    split
    · exact ih
    · rename_i b e
      obtain ⟨h1, h2, h3⟩ := hw.2.2.1 p b e
      exact wN_learn (wN_learn ih h1 h2 (Ne.symm h3)) h2 h1 h3
theorem wN_honour {P who : Nat} {ν : mN} (h : wN P ν) (hw : who < P) : ∀ {p : Nat}, p ≤ P → wN P (mHonour who p ν)
  | 0, _ => h
  | p + 1, hp => by
    have ih := wN_honour h hw (p := p) (by omega)
    simp only [mHonour]
    split
    · exact ih
    · rename_i e
      exact wN_learn ih (by omega) hw e
/-- all but who reigned how often is as it was; the year, too -/
theorem mCalls_C {T : mT} {ν : mN} : ∀ (p : Nat), (mCalls T p ν).2.2 = ν.2.2
  | 0 => rfl
  | p + 1 => by
    have ih := mCalls_C (T := T) (ν := ν) p
    simp only [mCalls]
    split
    · exact ih
    · exact ih
theorem mHonour_C {who : Nat} {ν : mN} : ∀ (p : Nat), (mHonour who p ν).2.2 = ν.2.2
  | 0 => rfl
  | p + 1 => by
    have ih := mHonour_C (who := who) (ν := ν) p
    simp only [mHonour]
    split
    · exact ih
    · exact ih
/-- NOW in the midst of a spring: who reigned may have reigned once more than years have gone -/
theorem wN_spring {T : mT} {ν : mN} (hw : wT T) (h : wN T.1 ν) (hP : 0 < T.1) : wN T.1 (mSpring T ν) := by
  have h1 := wN_calls hw h (Nat.le_refl _)
  have hwho : mWho T ν < T.1 := mChoose_lt hP
  have h2 := wN_honour h1 hwho (Nat.le_refl _)
  have key : ∀ K : mK, wK T.1 K → wN T.1 (K, (mHonour (mWho T ν) T.1 (mCalls T T.1 ν)).2.1, (fun p => if p = mWho T ν then (mHonour (mWho T ν) T.1 (mCalls T T.1 ν)).2.2.1 p + 1 else (mHonour (mWho T ν) T.1 (mCalls T T.1 ν)).2.2.1 p), (mHonour (mWho T ν) T.1 (mCalls T T.1 ν)).2.2.2.1 + 1, nI (mWho T ν)) := by
    intro K hK
    refine ⟨hK, fun p hp => ?_, fun p => ?_, fun j => ?_, Or.inr ⟨_, hwho, rfl⟩⟩
    · show (if p = mWho T ν then _ else _) = 0
      rw [if_neg (by omega)]
      exact h2.2.1 p hp
    · show (if p = mWho T ν then _ else _) ≤ _ + 1
      have := h2.2.2.1 p
      split <;> omega
    · rcases h2.2.2.2.1 j with e | ⟨s, hs, e⟩
      · exact Or.inl e
      · exact Or.inr ⟨s, Nat.le_succ_of_le hs, e⟩
  unfold mSpring
  simp only []
  split
  · exact key _ (wK_and h2.1 _)
  · exact key _ h2.1
theorem l_spring {G : kG} {n q t : Nat} {h0 : kH} {ν : mN} {T : mT} (hq : q + 5 ≤ n) (ht : t + 3 ≤ n) (hd0 : t + 3 ≤ q ∨ q + 5 ≤ t) (hw : wT T) (hv : wN T.1 ν) (hP0 : 0 < T.1) : ∀ (d p : Nat) (h : kH) (lv : List (Nat × Value)), T.1 - p < d → p ≤ T.1 → lv = [(2, .int (nI p)), (0, .ref (kb G + q)), (1, .ref (kb G + t))] → oNow G q (mCalls T p ν) h → oTown G t T h → kFr q (q + 5) h0 h → Go G mX2_spring (4, 0, 0) 2 lv [] (n, 0, 0) h (kQi mX2_spring n (fun v h' => v = nI (mWho T ν) ∧ oNow G q (mSpring T ν) h' ∧ kFr q (q + 5) h0 h')) := by
  intro d
  have hP := hw.1
  induction d with
  | zero => intro p h lv hd; omega
  | succ d ih =>
    intro p h lv hd hp hlv H HT hF
    subst hlv
    have H' := H
    have HT' := HT
    obtain ⟨kn, ct, si, cr, ⟨hN, hkn, hct, hsi, hcr⟩, hK, hC, hS, hR⟩ := H
    obtain ⟨tk, tc, ⟨hT, htk, htc⟩, hTk, hTc⟩ := HT
    refine go_iload_n 0 (nx := 3) dX2_spring_2 rfl rfl rfl ?_
    refine go_aload_n 2 (nx := 4) dX2_spring_3 rfl rfl rfl ?_
    refine go_gf (nx := 7) fg_X2_67 dX2_spring_4 (by omega) hT rfl rfl ?_
    refine go_icmp_ge 45 (nx := 10) dX2_spring_7 rfl rfl (fun c7 => ?_) (fun c7 => ?_)
    · skip
      have e8 : p = T.1 := by have := kle c7; omega
      subst e8
      refine go_aload_n 1 (nx := 46) dX2_spring_45 rfl rfl rfl ?_
      refine go_aload_n 2 (nx := 47) dX2_spring_46 rfl rfl rfl ?_
      refine go_aload_n 1 (nx := 48) dX2_spring_47 rfl rfl rfl ?_
      refine go_Vi (nx := 51) [_] kc_X2_77 ⟨_, _, rfl⟩ (by omega) hT (s_choose hq ht H' HT' hw (wN_calls hw hv (Nat.le_refl _)).1 hP0) dX2_spring_48 rfl rfl (Nat.le_of_ble_eq_true rfl) (Nat.le_of_ble_eq_true rfl) ⟨Nat.le_refl _, Nat.le_refl _⟩ rfl (fun rh1 h1 hqh1 => ?_)
      obtain ⟨rfl, rfl⟩ := hqh1
      refine go_aload_n 2 (nx := 52) dX2_spring_51 rfl rfl rfl ?_
      refine go_gf (nx := 55) fg_X2_67 dX2_spring_52 (by omega) hT rfl rfl ?_
      refine go_Vv (nx := 58) [_, _] kc_X2_81 ⟨_, _, rfl⟩ (by omega) hN (s_crown hq H' rfl (by have := mChoose_lt (K := (mCalls T T.1 ν).1) (C := (mCalls T T.1 ν).2.2.1) hP0; omega) rfl hP) dX2_spring_55 rfl rfl (Nat.le_of_ble_eq_true rfl) (Nat.le_of_ble_eq_true rfl) ⟨Nat.le_refl _, Nat.le_refl _⟩ rfl (fun h2 hqh2 => ?_)
      obtain ⟨H, hFh2⟩ := hqh2
      have H' := H
      obtain ⟨kn, ct, si, cr, ⟨hN, hkn, hct, hsi, hcr⟩, hK, hC, hS, hR⟩ := H
      have HT' := HT'.fr hFh2 (by omega)
      have hT := (hFh2 (t) (by omega)).trans hT
      have htk := (hFh2 (t + 1) (by omega)).trans htk
      have htc := (hFh2 (t + 2) (by omega)).trans htc
      have hF := hF.tr hFh2
      refine go_aload_n 2 (nx := 59) dX2_spring_58 rfl rfl rfl ?_
      refine go_gf (nx := 62) fg_X2_84 dX2_spring_59 (by omega) hT rfl rfl ?_
      refine go_if_le 70 (nx := 65) dX2_spring_62 rfl rfl (fun c62 => ?_) (fun c62 => ?_)
      · skip
        refine go_aload_n 1 (nx := 71) dX2_spring_70 rfl rfl rfl ?_
        refine go_dup (nx := 72) dX2_spring_71 rfl rfl ?_
        refine go_gf (nx := 75) fg_X2_43 dX2_spring_72 (by omega) hN rfl rfl ?_
        refine go_iconst (v := nI 1) (nx := 76) dX2_spring_75 (by decide) rfl ?_
        refine go_iadd (nx := 77) dX2_spring_76 rfl ?_
        rw [nI_add]
        refine go_pf (fs' := [_, _, _, _, _, _, _]) (nx := 80) (fp_X2_43 _) dX2_spring_77 (by omega) hN (Nat.le_of_ble_eq_true rfl) ⟨rfl, rfl⟩ rfl rfl (fun h3 eh3 fh3 => ?_)
        have hkn := (fh3 (q + 1) (by omega)).trans hkn
        have hct := (fh3 (q + 2) (by omega)).trans hct
        have hsi := (fh3 (q + 3) (by omega)).trans hsi
        have hcr := (fh3 (q + 4) (by omega)).trans hcr
        have hT := (fh3 (t) (by omega)).trans hT
        have htk := (fh3 (t + 1) (by omega)).trans htk
        have htc := (fh3 (t + 2) (by omega)).trans htc
        have hN := eh3
        have hF := hF.tr (fun j hj => fh3 j (by omega))
        refine go_aload_n 1 (nx := 81) dX2_spring_80 rfl rfl rfl ?_
        refine go_gf (nx := 84) fg_X2_46 dX2_spring_81 (by omega) hN rfl rfl ?_
        refine go_reti dX2_spring_84 ⟨_, rfl, rfl⟩ ?_
        refine ⟨rfl, ?_, hF⟩
        have e : mSpring T ν = ((mCrown T.1 (mWho T ν) (mCalls T T.1 ν)).1, (mCrown T.1 (mWho T ν) (mCalls T T.1 ν)).2.1, (mCrown T.1 (mWho T ν) (mCalls T T.1 ν)).2.2.1, (mCrown T.1 (mWho T ν) (mCalls T T.1 ν)).2.2.2.1 + 1, (mCrown T.1 (mWho T ν) (mCalls T T.1 ν)).2.2.2.2) := by
          unfold mSpring
          simp only []
          rw [if_neg (by have := kle (b := 0) c62 (by have := hw.2.2.2.1; omega) (by decide); omega)]
        rw [e]
        exact ⟨kn, ct, si, cr, ⟨hN, hkn, hct, hsi, hcr⟩, hK, hC, hS, hR⟩
      · skip
        refine go_aload_n 1 (nx := 66) dX2_spring_65 rfl rfl rfl ?_
        refine go_aload_n 2 (nx := 67) dX2_spring_66 rfl rfl rfl ?_
        refine go_Vv (nx := 70) [_] kc_X2_87 ⟨_, _, rfl⟩ (by omega) hN (s_forget hq ht hd0 H' HT' hw (by exact (wN_honour (wN_calls hw hv (Nat.le_refl _)) (mChoose_lt hP0) (Nat.le_refl _)).1)) dX2_spring_67 rfl rfl (Nat.le_of_ble_eq_true rfl) (Nat.le_of_ble_eq_true rfl) ⟨Nat.le_refl _, Nat.le_refl _⟩ rfl (fun h3 hqh3 => ?_)
        obtain ⟨H, hFh3⟩ := hqh3
        have H' := H
        obtain ⟨kn, ct, si, cr, ⟨hN, hkn, hct, hsi, hcr⟩, hK, hC, hS, hR⟩ := H
        have HT' := HT'.fr hFh3 (by omega)
        have hT := (hFh3 (t) (by omega)).trans hT
        have htk := (hFh3 (t + 1) (by omega)).trans htk
        have htc := (hFh3 (t + 2) (by omega)).trans htc
        have hF := hF.tr hFh3
        refine go_aload_n 1 (nx := 71) dX2_spring_70 rfl rfl rfl ?_
        refine go_dup (nx := 72) dX2_spring_71 rfl rfl ?_
        refine go_gf (nx := 75) fg_X2_43 dX2_spring_72 (by omega) hN rfl rfl ?_
        refine go_iconst (v := nI 1) (nx := 76) dX2_spring_75 (by decide) rfl ?_
        refine go_iadd (nx := 77) dX2_spring_76 rfl ?_
        rw [nI_add]
        refine go_pf (fs' := [_, _, _, _, _, _, _]) (nx := 80) (fp_X2_43 _) dX2_spring_77 (by omega) hN (Nat.le_of_ble_eq_true rfl) ⟨rfl, rfl⟩ rfl rfl (fun h4 eh4 fh4 => ?_)
        have hkn := (fh4 (q + 1) (by omega)).trans hkn
        have hct := (fh4 (q + 2) (by omega)).trans hct
        have hsi := (fh4 (q + 3) (by omega)).trans hsi
        have hcr := (fh4 (q + 4) (by omega)).trans hcr
        have hT := (fh4 (t) (by omega)).trans hT
        have htk := (fh4 (t + 1) (by omega)).trans htk
        have htc := (fh4 (t + 2) (by omega)).trans htc
        have hN := eh4
        have hF := hF.tr (fun j hj => fh4 j (by omega))
        refine go_aload_n 1 (nx := 81) dX2_spring_80 rfl rfl rfl ?_
        refine go_gf (nx := 84) fg_X2_46 dX2_spring_81 (by omega) hN rfl rfl ?_
        refine go_reti dX2_spring_84 ⟨_, rfl, rfl⟩ ?_
        refine ⟨rfl, ?_, hF⟩
        have e : mSpring T ν = ((mForget T.2.2.2.1 (mCrown T.1 (mWho T ν) (mCalls T T.1 ν))).1, (mForget T.2.2.2.1 (mCrown T.1 (mWho T ν) (mCalls T T.1 ν))).2.1, (mForget T.2.2.2.1 (mCrown T.1 (mWho T ν) (mCalls T T.1 ν))).2.2.1, (mForget T.2.2.2.1 (mCrown T.1 (mWho T ν) (mCalls T T.1 ν))).2.2.2.1 + 1, (mForget T.2.2.2.1 (mCrown T.1 (mWho T ν) (mCalls T T.1 ν))).2.2.2.2) := by
          unfold mSpring
          simp only []
          rw [if_pos (by have := knle (b := 0) c62 (by have := hw.2.2.2.1; omega) (by decide); omega)]
        rw [e]
        exact ⟨kn, ct, si, cr, ⟨hN, hkn, hct, hsi, hcr⟩, hK, hC, hS, hR⟩
    · skip
      have h8 := knle c7
      refine go_aload_n 2 (nx := 11) dX2_spring_10 rfl rfl rfl ?_
      refine go_gf (nx := 14) fg_X2_70 dX2_spring_11 (by omega) hT rfl rfl ?_
      refine go_iload_n 0 (nx := 15) dX2_spring_14 rfl rfl rfl ?_
      refine go_SNi (nx := 18) [_, _] kc_X2_27 (s_at_in (by omega) htc (by omega) rfl (by have := knle c7; omega)) dX2_spring_15 rfl rfl (Nat.le_of_ble_eq_true rfl) (Nat.le_of_ble_eq_true rfl) ⟨Nat.le_refl _, Nat.le_refl _⟩ rfl (fun rh1 h1 hqh1 => ?_)
      obtain ⟨rfl, rfl⟩ := hqh1
      rw [hTc p (by omega)]
      have hn := hab_none (o := T.2.2.1 p) (fun b e => by have := hw.2.2.1 p b e; omega)
      refine go_istore_n (lv' := [_, _, _, _]) (nx := 19) dX2_spring_18 rfl (by decide) rfl rfl ?_
      refine go_iload_n 0 (nx := 20) dX2_spring_19 rfl rfl rfl ?_
      refine go_bipush (v := (-9)) (nx := 22) dX2_spring_20 (by decide) rfl ?_
      refine go_icmp_eq 39 (nx := 25) dX2_spring_22 rfl rfl (fun c22 => ?_) (fun c22 => ?_)
      · skip
        refine go_iinc 1 (v := nI (p + 1)) (lv' := [_, _, _, _]) (nx := 42) dX2_spring_39 rfl (nI_inc p) (by decide) rfl rfl ?_
        refine go_goto 2 dX2_spring_42 rfl ?_
        refine Go.sub [0, 2, 3] rfl ?_
        refine ih (p + 1) _ _ (by omega) (by omega) rfl ?_ HT' hF
        simp only [mCalls]
        rw [hn.mp c22]
        exact H'
      · skip
        obtain ⟨b, eb⟩ : ∃ b, T.2.2.1 p = some b := by
          cases e : T.2.2.1 p with
          | none => exact absurd (hn.mpr e) c22
          | some b => exact ⟨b, rfl⟩
        rw [eb, show hab (some b) = nI b from rfl]
        refine go_aload_n 2 (nx := 26) dX2_spring_25 rfl rfl rfl ?_
        refine go_iload_n 1 (nx := 27) dX2_spring_26 rfl rfl rfl ?_
        refine go_iload_n 0 (nx := 28) dX2_spring_27 rfl rfl rfl ?_
        refine go_Vi (nx := 31) [_, _] kc_X2_73 ⟨_, _, rfl⟩ (by omega) hN (s_learn hq H' rfl (by omega) rfl (by have := hw.2.2.1 p b eb; omega)) dX2_spring_28 rfl rfl (Nat.le_of_ble_eq_true rfl) (Nat.le_of_ble_eq_true rfl) ⟨Nat.le_refl _, Nat.le_refl _⟩ rfl (fun rh2 h2 hqh2 => ?_)
        obtain ⟨-, H, hFh2⟩ := hqh2
        have H' := H
        obtain ⟨kn, ct, si, cr, ⟨hN, hkn, hct, hsi, hcr⟩, hK, hC, hS, hR⟩ := H
        have HT' := HT'.fr hFh2 (by omega)
        have hT := (hFh2 (t) (by omega)).trans hT
        have htk := (hFh2 (t + 1) (by omega)).trans htk
        have htc := (hFh2 (t + 2) (by omega)).trans htc
        have hF := hF.tr hFh2
        refine go_pop (nx := 32) dX2_spring_31 rfl rfl ?_
        refine go_aload_n 2 (nx := 33) dX2_spring_32 rfl rfl rfl ?_
        refine go_iload_n 0 (nx := 34) dX2_spring_33 rfl rfl rfl ?_
        refine go_iload_n 1 (nx := 35) dX2_spring_34 rfl rfl rfl ?_
        refine go_Vi (nx := 38) [_, _] kc_X2_73 ⟨_, _, rfl⟩ (by omega) hN (s_learn hq H' rfl (by have := hw.2.2.1 p b eb; omega) rfl (by omega)) dX2_spring_35 rfl rfl (Nat.le_of_ble_eq_true rfl) (Nat.le_of_ble_eq_true rfl) ⟨Nat.le_refl _, Nat.le_refl _⟩ rfl (fun rh3 h3 hqh3 => ?_)
        obtain ⟨-, H, hFh3⟩ := hqh3
        have H' := H
        obtain ⟨kn, ct, si, cr, ⟨hN, hkn, hct, hsi, hcr⟩, hK, hC, hS, hR⟩ := H
        have HT' := HT'.fr hFh3 (by omega)
        have hT := (hFh3 (t) (by omega)).trans hT
        have htk := (hFh3 (t + 1) (by omega)).trans htk
        have htc := (hFh3 (t + 2) (by omega)).trans htc
        have hF := hF.tr hFh3
        refine go_pop (nx := 39) dX2_spring_38 rfl rfl ?_
        refine go_iinc 1 (v := nI (p + 1)) (lv' := [_, _, _, _]) (nx := 42) dX2_spring_39 rfl (nI_inc p) (by decide) rfl rfl ?_
        refine go_goto 2 dX2_spring_42 rfl ?_
        refine Go.sub [0, 2, 3] rfl ?_
        refine ih (p + 1) _ _ (by omega) (by omega) rfl ?_ HT' hF
        simp only [mCalls]
        rw [eb]
        exact H'
theorem s_spring {G : kG} {n q t : Nat} {h : kH} {ν : mN} {T : mT} (hq : q + 5 ≤ n) (ht : t + 3 ≤ n) (hd0 : t + 3 ≤ q ∨ q + 5 ≤ t) (hw : wT T) (hv : wN T.1 ν) (hP0 : 0 < T.1) (H : oNow G q ν h) (HT : oTown G t T h) : Spi G mX2_spring 4 [.ref (kb G + q), .ref (kb G + t)] n h (fun v h' => v = nI (mWho T ν) ∧ oNow G q (mSpring T ν) h' ∧ kFr q (q + 5) h h') := by
  refine Spi.of (by decide) (Nat.le_of_ble_eq_true rfl) ?_
  refine go_iconst (v := nI 0) (nx := 1) dX2_spring_0 (by decide) rfl ?_
  refine go_istore_n (lv' := [_, _, _]) (nx := 2) dX2_spring_1 rfl (by decide) rfl rfl ?_
  exact l_spring hq ht hd0 hw hv hP0 (T.1 + 1) 0 h _ (by omega) (by omega) rfl H HT kFr.rf
end
section
/-! LeastKnown$Foretelling: what comes by itself -/
theorem go_mmin {G : kG} {M : kM} {κ : kZ} {n cs sl pc nx idx : Nat} {lv : List (Nat × Value)} {st : List Value} {h : kH} {Q : Option Value → kZ → kH → Prop} {x y : Int32} (ce : kCS M.1.cls idx mJ9_min_7cf53 2) (hd : decode M.2.1 pc = .ok (.invokestatic idx, 3)) (hcat : (st.map fun v => v.category).sum ≤ 8) (hc : cs ≤ κ.2.1 ∧ sl ≤ κ.2.2) (hn : pc + 3 = nx) (kk : Go G M κ nx lv (.int (if y < x then y else x) :: st) (n, cs, sl) h Q) : Go G M κ pc lv (.int y :: .int x :: st) (n, cs, sl) h Q := by
  intro p l e R s m args below meth c H locs ls Qm hG hC hW hl hr
  subst hn
  obtain ⟨hx, hb, hml, hown, hname, hWm, hfr, hlo, hrc, hrs⟩ := id hC
  obtain ⟨⟨hco, hin, -, -⟩, hli, hst⟩ := ce
  exact va_mmin hx hb (hml.trans hl.1.symm) hown (kword hG hWm hli args) (kword hG hWm hst args) (kword hG hWm hin args) (kword hG hWm hco args) (by omega) (by omega) (Nat.le_trans hc.1 hrc) (Nat.le_trans hc.2 hrs) hd (kk p l e R s m args below meth c H locs ls Qm hG hC hW hl hr)
def rFore (G : kG) (f : Nat) (rw : Nat → Int32) (fa : Int32) (ru : Nat → Int32) (h : kH) : Prop := h f = .inr (0, [.ref (kb G + (f + 1)), .int fa, .ref (kb G + (f + 2)), .ref (kb G + (f + 7))]) ∧ h (f + 1) = .inl (G.2.1, 3, .inl rw) ∧ h (f + 7) = .inl (G.2.1, 20, .inl ru)
theorem rFore.fr {G : kG} {f lo hi : Nat} {rw ru : Nat → Int32} {fa : Int32} {h h' : kH} (H : rFore G f rw fa ru h) (hF : kFr lo hi h h') (hd : f + 8 ≤ lo ∨ hi ≤ f ∨ (f + 2 ≤ lo ∧ hi ≤ f + 7)) : rFore G f rw fa ru h' :=
  ⟨(hF f (by omega)).trans H.1, (hF (f + 1) (by omega)).trans H.2.1, (hF (f + 7) (by omega)).trans H.2.2⟩
def aNow (G : kG) (q : Nat) (h : kH) : Prop := ∃ (kn ct si cr : Nat → Int32) (rg yr la : Int32), rNow G q kn ct si cr rg yr la h
theorem aNow.of {G : kG} {q : Nat} {ν : mN} {h : kH} (H : oNow G q ν h) : aNow G q h := by
  obtain ⟨kn, ct, si, cr, H, -⟩ := H
  exact ⟨kn, ct, si, cr, _, _, _, H⟩
theorem aNow.fr {G : kG} {q lo hi : Nat} {h h' : kH} (H : aNow G q h) (hF : kFr lo hi h h') (hd : q + 5 ≤ lo ∨ hi ≤ q) : aNow G q h' := by
  obtain ⟨kn, ct, si, cr, rg, yr, la, H⟩ := H
  exact ⟨kn, ct, si, cr, rg, yr, la, H.fr hF hd⟩
def mSp (T : mT) : Nat → mN → mN
  | 0, ν => ν
  | k + 1, ν => mSpring T (mSp T k ν)
theorem wN_sp {T : mT} {ν : mN} (hw : wT T) (h : wN T.1 ν) (hP : 0 < T.1) : ∀ k, wN T.1 (mSp T k ν)
  | 0 => h
  | k + 1 => wN_spring hw (wN_sp hw h hP k) hP
theorem l_ahead {G : kG} {n f t q m : Nat} {h0 : kH} {ν : mN} {T : mT} {rw ru : Nat → Int32} {fa : Int32} (hf8 : f + 8 ≤ n) (ht : t + 3 ≤ n) (hd0 : t + 3 ≤ f ∨ f + 8 ≤ t) (hw : wT T) (hv : wN T.1 ν) (hP0 : 0 < T.1) (hm : m ≤ 40) : ∀ (d i : Nat) (h : kH), m - i < d → i ≤ m → oNow G (f + 2) (mSp T i ν) h → oTown G t T h → rFore G f rw fa ru h → kFr (f + 2) (f + 7) h0 h → Go G mX0_rulerAhead (5, 0, 0) 11 [(4, .int (nI i)), (0, .ref (kb G + f)), (1, .ref (kb G + t)), (2, .ref (kb G + q)), (3, .int (nI m))] [] (n, 0, 0) h (kQi mX0_rulerAhead n (fun v h' => v = nI (mWho T (mSp T m ν)) ∧ (∃ μ, oNow G (f + 2) μ h') ∧ kFr (f + 2) (f + 7) h0 h')) := by
  intro d
  induction d with
  | zero => intro i h hd; omega
  | succ d ih =>
    intro i h hd hi H HT HF hF
    have H' := H
    have HT' := HT
    obtain ⟨kn, ct, si, cr, ⟨hN, hkn, hct, hsi, hcr⟩, hK, hC, hS, hR⟩ := H
    obtain ⟨hf, hrw, hru⟩ := id HF
    have H := H'
    refine go_iload 0 (nx := 13) dX0_rulerAhead_11 rfl rfl ?_
    refine go_iload_n 4 (nx := 14) dX0_rulerAhead_13 rfl rfl rfl ?_
    refine go_icmp_ge 32 (nx := 17) dX0_rulerAhead_14 rfl rfl (fun c14 => ?_) (fun c14 => ?_)
    · skip
      refine go_aload_n 1 (nx := 33) dX0_rulerAhead_32 rfl rfl rfl ?_
      refine go_gf (nx := 36) fg_X0_18 dX0_rulerAhead_33 (by omega) hf rfl rfl ?_
      refine go_aload_n 2 (nx := 37) dX0_rulerAhead_36 rfl rfl rfl ?_
      refine go_Vi (nx := 40) [_] kc_X0_29 ⟨_, _, rfl⟩ (by omega) hN (s_spring (by omega) ht (by omega) hw (wN_sp hw hv hP0 i) hP0 H HT') dX0_rulerAhead_37 rfl rfl (Nat.le_of_ble_eq_true rfl) (Nat.le_of_ble_eq_true rfl) ⟨Nat.le_refl _, Nat.le_refl _⟩ rfl (fun rh1 h1 hqh1 => ?_)
      obtain ⟨rfl, H, hFh1⟩ := hqh1
      have H' := H
      obtain ⟨kn, ct, si, cr, ⟨hN, hkn, hct, hsi, hcr⟩, hK, hC, hS, hR⟩ := H'
      have HT' := HT'.fr hFh1 (by omega)
      have HF := HF.fr hFh1 (by omega)
      obtain ⟨hf, hrw, hru⟩ := id HF
      have hF := hF.tr hFh1
      refine go_reti dX0_rulerAhead_40 ⟨_, rfl, rfl⟩ ?_
      have e8 : i = m := by have := kle c14; omega
      subst e8
      exact ⟨rfl, ⟨_, H⟩, hF⟩
    · skip
      refine go_aload_n 1 (nx := 18) dX0_rulerAhead_17 rfl rfl rfl ?_
      refine go_gf (nx := 21) fg_X0_18 dX0_rulerAhead_18 (by omega) hf rfl rfl ?_
      refine go_aload_n 2 (nx := 22) dX0_rulerAhead_21 rfl rfl rfl ?_
      refine go_Vi (nx := 25) [_] kc_X0_29 ⟨_, _, rfl⟩ (by omega) hN (s_spring (by omega) ht (by omega) hw (wN_sp hw hv hP0 i) hP0 H HT') dX0_rulerAhead_22 rfl rfl (Nat.le_of_ble_eq_true rfl) (Nat.le_of_ble_eq_true rfl) ⟨Nat.le_refl _, Nat.le_refl _⟩ rfl (fun rh1 h1 hqh1 => ?_)
      obtain ⟨rfl, H, hFh1⟩ := hqh1
      have H' := H
      obtain ⟨kn, ct, si, cr, ⟨hN, hkn, hct, hsi, hcr⟩, hK, hC, hS, hR⟩ := H'
      have HT' := HT'.fr hFh1 (by omega)
      have HF := HF.fr hFh1 (by omega)
      obtain ⟨hf, hrw, hru⟩ := id HF
      have hF := hF.tr hFh1
      refine go_pop (nx := 26) dX0_rulerAhead_25 rfl rfl ?_
      refine go_iinc 0 (v := nI (i + 1)) (lv' := [_, _, _, _, _]) (nx := 29) dX0_rulerAhead_26 rfl (nI_inc i) (by decide) rfl rfl ?_
      refine go_goto 11 dX0_rulerAhead_29 rfl ?_
      refine Go.sub [0, 1, 2, 3, 4] rfl ?_
      have h8 := knle c14
      exact ih (i + 1) _ (by omega) (by omega) H HT' HF hF
theorem s_ahead {G : kG} {n f t q m : Nat} {h : kH} {ν : mN} {T : mT} {rw ru : Nat → Int32} {fa x : Int32} (hf8 : f + 8 ≤ n) (ht : t + 3 ≤ n) (hd0 : t + 3 ≤ f ∨ f + 8 ≤ t) (hw : wT T) (hv : wN T.1 ν) (hP0 : 0 < T.1) (hq2 : q + 5 ≤ n) (hdq : q + 5 ≤ f ∨ f + 8 ≤ q) (hx : x = nI m) (hm : m ≤ 40) (HF : rFore G f rw fa ru h) (HA : aNow G (f + 2) h) (Hq : oNow G q ν h) (HT : oTown G t T h) : Spi G mX0_rulerAhead 5 [.ref (kb G + f), .ref (kb G + t), .ref (kb G + q), .int x] n h (fun v h' => v = nI (mWho T (mSp T m ν)) ∧ (∃ μ, oNow G (f + 2) μ h') ∧ kFr (f + 2) (f + 7) h h') := by
  subst hx
  have HT' := HT
  obtain ⟨kn, ct, si, cr, rg, yr, la, HA⟩ := HA
  obtain ⟨hN, hkn, hct, hsi, hcr⟩ := id HA
  obtain ⟨hf, hrw, hru⟩ := id HF
  have hF : kFr (f + 2) (f + 7) h h := kFr.rf
  refine Spi.of (by decide) (Nat.le_of_ble_eq_true rfl) ?_
  refine go_aload_n 0 (nx := 1) dX0_rulerAhead_0 rfl rfl rfl ?_
  refine go_gf (nx := 4) fg_X0_18 dX0_rulerAhead_1 (by omega) hf rfl rfl ?_
  refine go_aload_n 2 (nx := 5) dX0_rulerAhead_4 rfl rfl rfl ?_
  refine go_Vv (nx := 8) [_] kc_X0_25 ⟨_, _, rfl⟩ (by omega) hN (s_copyFrom (by omega) hq2 (by omega) HA Hq) dX0_rulerAhead_5 rfl rfl (Nat.le_of_ble_eq_true rfl) (Nat.le_of_ble_eq_true rfl) ⟨Nat.le_refl _, Nat.le_refl _⟩ rfl (fun h1 hqh1 => ?_)
  obtain ⟨H, hFh1⟩ := hqh1
  have H' := H
  obtain ⟨kn, ct, si, cr, ⟨hN, hkn, hct, hsi, hcr⟩, hK, hC, hS, hR⟩ := H'
  have HT' := HT'.fr hFh1 (by omega)
  have HF := HF.fr hFh1 (by omega)
  obtain ⟨hf, hrw, hru⟩ := id HF
  have hF := hF.tr hFh1
  refine go_iconst (v := nI 0) (nx := 9) dX0_rulerAhead_8 (by decide) rfl ?_
  refine go_istore (lv' := [_, _, _, _, _]) (nx := 11) dX0_rulerAhead_9 (by decide) rfl rfl ?_
  refine Go.sub [0, 1, 2, 3, 4] rfl ?_
  exact l_ahead hf8 ht hd0 hw hv hP0 hm (m + 1) 0 _ (by omega) (by omega) H HT' HF hF
def allN (s : Nat → Bool) : Nat → Bool
  | 0 => true
  | m + 1 => allN s m && s m
theorem allN_iff {s : Nat → Bool} : ∀ {m : Nat}, allN s m = true ↔ ∀ i, i < m → s i = true
  | 0 => ⟨fun _ i hi => absurd hi (Nat.not_lt_zero i), fun _ => rfl⟩
  | m + 1 => by
    have ih := allN_iff (s := s) (m := m)
    simp only [allN, Bool.and_eq_true, ih]
    constructor
    · rintro ⟨h1, h2⟩ i hi
      by_cases e : i = m
      · rw [e]; exact h2
      · exact h1 i (by omega)
    · exact fun h => ⟨fun i hi => h i (by omega), h m (by omega)⟩
def rgB (W : Nat → Nat) (p : Nat) : Bool := allN (fun i => decide (i < p) || (W (20 + i) == W (20 + (i - p)))) 20
theorem rgB_iff {W : Nat → Nat} {p : Nat} : rgB W p = true ↔ ∀ i, i < 20 → p ≤ i → W (20 + i) = W (20 + (i - p)) := by
  unfold rgB
  rw [allN_iff]
  constructor
  · intro h i hi hp
    have h2 := h i hi
    simp at h2
    omega
  · intro h i hi
    simp
    rcases Nat.lt_or_ge i p with e | e
    · exact Or.inl e
    · exact Or.inr (h i hi e)
def rgF (W : Nat → Nat) : Int32 := match ff (fun p => decide (1 ≤ p) && rgB W p) 11 with
  | some p => nI p
  | none => -9
theorem l_isRing {G : kG} {n f p : Nat} {h : kH} {rw ru : Nat → Int32} {fa : Int32} {W : Nat → Nat} (hf8 : f + 8 ≤ n) (HF : rFore G f rw fa ru h) (hru0 : ∀ i, i < 20 → ru i = nI (W (20 + i)) ∧ W (20 + i) < 8) (hp : p ≤ 10) : ∀ (d i : Nat), 20 - i < d → i ≤ 20 → p ≤ i → (∀ j, j < i → p ≤ j → W (20 + j) = W (20 + (j - p))) → Go G mX0_isRing (1, 0, 0) 2 [(2, .int (nI i)), (0, .ref (kb G + f)), (1, .int (nI p))] [] (n, 0, 0) h (kQi mX0_isRing n (fun v h' => v = bI (rgB W p) ∧ h' = h)) := by
  intro d
  obtain ⟨hf, hrw, hru⟩ := HF
  induction d with
  | zero => intro i hd; omega
  | succ d ih =>
    intro i hd hi hpi hj
    refine go_iload_n 0 (nx := 3) dX0_isRing_2 rfl rfl rfl ?_
    refine go_bipush (v := nI 20) (nx := 5) dX0_isRing_3 (by decide) rfl ?_
    refine go_icmp_ge 37 (nx := 8) dX0_isRing_5 rfl rfl (fun c5 => ?_) (fun c5 => ?_)
    · skip
      refine go_iconst (v := nI 1) (nx := 38) dX0_isRing_37 (by decide) rfl ?_
      refine go_reti dX0_isRing_38 ⟨_, rfl, rfl⟩ ?_
      have e8 : i = 20 := by have := kle c5; omega
      subst e8
      exact ⟨by rw [rgB_iff.mpr hj]; rfl, rfl⟩
    · skip
      have h8 := knle c5
      refine go_aload_n 1 (nx := 9) dX0_isRing_8 rfl rfl rfl ?_
      refine go_gf (nx := 12) fg_X0_22 dX0_isRing_9 (by omega) hf rfl rfl ?_
      refine go_iload_n 0 (nx := 13) dX0_isRing_12 rfl rfl rfl ?_
      refine go_SNi (nx := 16) [_, _] kc_X0_41 (s_at_in (by omega) hru (by omega) rfl h8) dX0_isRing_13 rfl rfl (Nat.le_of_ble_eq_true rfl) (Nat.le_of_ble_eq_true rfl) ⟨Nat.le_refl _, Nat.le_refl _⟩ rfl (fun rh1 h1 hqh1 => ?_)
      obtain ⟨rfl, rfl⟩ := hqh1
      refine go_aload_n 1 (nx := 17) dX0_isRing_16 rfl rfl rfl ?_
      refine go_gf (nx := 20) fg_X0_22 dX0_isRing_17 (by omega) hf rfl rfl ?_
      refine go_iload_n 0 (nx := 21) dX0_isRing_20 rfl rfl rfl ?_
      refine go_iload_n 2 (nx := 22) dX0_isRing_21 rfl rfl rfl ?_
      refine go_isub (nx := 23) dX0_isRing_22 rfl ?_
      refine go_SNi (nx := 26) [_, _] kc_X0_41 (s_at_in (j := i - p) (by omega) hru (by omega) (pk_sub hpi) (by omega)) dX0_isRing_23 rfl rfl (Nat.le_of_ble_eq_true rfl) (Nat.le_of_ble_eq_true rfl) ⟨Nat.le_refl _, Nat.le_refl _⟩ rfl (fun rh2 h2 hqh2 => ?_)
      obtain ⟨rfl, rfl⟩ := hqh2
      rw [(hru0 i h8).1, (hru0 (i - p) (by omega)).1]
      have w1 := (hru0 i h8).2
      have w2 := (hru0 (i - p) (by omega)).2
      refine go_icmp_eq 31 (nx := 29) dX0_isRing_26 rfl rfl (fun c26 => ?_) (fun c26 => ?_)
      · skip
        refine go_iinc 0 (v := nI (i + 1)) (lv' := [_, _, _]) (nx := 34) dX0_isRing_31 rfl (nI_inc i) (by decide) rfl rfl ?_
        refine go_goto 2 dX0_isRing_34 rfl ?_
        refine Go.sub [0, 1, 2] rfl ?_
        refine ih (i + 1) (by omega) (by omega) (by omega) (fun j hj2 hpj => ?_)
        by_cases e : j = i
        · subst e; exact keq c26
        · exact hj j (by omega) hpj
      · skip
        refine go_iconst (v := nI 0) (nx := 30) dX0_isRing_29 (by decide) rfl ?_
        refine go_reti dX0_isRing_30 ⟨_, rfl, rfl⟩ ?_
        refine ⟨?_, rfl⟩
        rw [show rgB W p = false from Bool.eq_false_iff.mpr fun z => c26 (by rw [rgB_iff.mp z i h8 hpi])]
        rfl
theorem s_isRing {G : kG} {n f p : Nat} {h : kH} {rw ru : Nat → Int32} {fa x : Int32} {W : Nat → Nat} (hf8 : f + 8 ≤ n) (HF : rFore G f rw fa ru h) (hru0 : ∀ i, i < 20 → ru i = nI (W (20 + i)) ∧ W (20 + i) < 8) (hx : x = nI p) (hp : p ≤ 10) : Spi G mX0_isRing 1 [.ref (kb G + f), .int x] n h (fun v h' => v = bI (rgB W p) ∧ h' = h) := by
  subst hx
  refine Spi.of (by decide) (Nat.le_of_ble_eq_true rfl) ?_
  refine go_iload_n 1 (nx := 1) dX0_isRing_0 rfl rfl rfl ?_
  refine go_istore_n (lv' := [_, _, _]) (nx := 2) dX0_isRing_1 rfl (by decide) rfl rfl ?_
  refine Go.sub [0, 1, 2] rfl ?_
  exact l_isRing hf8 HF hru0 hp 21 p (by omega) (by omega) (by omega) (fun j h1 h2 => absurd h1 (by omega))
end
section
/-! LeastKnown$Foretelling.leastRing -/
def mW (T : mT) (ν : mN) (k : Nat) : Nat := mWho T (mSp T k ν)
theorem mW_lt {T : mT} {ν : mN} (hP0 : 0 < T.1) (k : Nat) : mW T ν k < T.1 := mChoose_lt hP0
theorem l_ring3 {G : kG} {n f t q : Nat} {h0 : kH} {ν : mN} {T : mT} {rw : Nat → Int32} {fa : Int32} (hf8 : f + 8 ≤ n) (ht : t + 3 ≤ n) (hd0 : t + 3 ≤ f ∨ f + 8 ≤ t) (hw : wT T) (hv : wN T.1 ν) (hP0 : 0 < T.1) {ru : Nat → Int32} {h : kH} (HA : aNow G (f + 2) h) (HF : rFore G f rw fa ru h) (hF : kFr (f + 2) (f + 8) h0 h) (hru0 : ∀ i, i < 20 → ru i = nI (mW T ν (20 + i)) ∧ mW T ν (20 + i) < 8) : ∀ (d i : Nat), 11 - i < d → 1 ≤ i → i ≤ 11 → ff (fun p => decide (1 ≤ p) && rgB (mW T ν) p) i = none → Go G mX0_leastRing (5, 0, 0) 63 [(3, .int (nI i)), (0, .ref (kb G + f)), (1, .ref (kb G + t)), (2, .ref (kb G + q))] [] (n, 0, 0) h (kQi mX0_leastRing n (fun v h' => v = rgF (mW T ν) ∧ aNow G (f + 2) h' ∧ (∃ ru', rFore G f rw fa ru' h') ∧ kFr (f + 2) (f + 8) h0 h')) := by
  intro d
  obtain ⟨hf, hrw, hru⟩ := id HF
  induction d with
  | zero => intro i hd; omega
  | succ d ih =>
    intro i hd hi1 hi hn
    refine go_iload_n 0 (nx := 64) dX0_leastRing_63 rfl rfl rfl ?_
    refine go_bipush (v := nI 10) (nx := 66) dX0_leastRing_64 (by decide) rfl ?_
    refine go_icmp_gt 85 (nx := 69) dX0_leastRing_66 rfl rfl (fun c66 => ?_) (fun c66 => ?_)
    · skip
      refine go_bipush (v := (-9)) (nx := 87) dX0_leastRing_85 (by decide) rfl ?_
      refine go_reti dX0_leastRing_87 ⟨_, rfl, rfl⟩ ?_
      have e8 : i = 11 := by have := klt c66; omega
      subst e8
      refine ⟨?_, HA, ⟨ru, HF⟩, hF⟩
      unfold rgF
      rw [hn]
    · skip
      have h8 := knlt c66
      refine go_aload_n 1 (nx := 70) dX0_leastRing_69 rfl rfl rfl ?_
      refine go_iload_n 0 (nx := 71) dX0_leastRing_70 rfl rfl rfl ?_
      refine go_Vi (nx := 74) [_] kc_X0_37 ⟨_, _, rfl⟩ (by omega) hf (s_isRing hf8 HF hru0 rfl (by have := knlt c66; omega)) dX0_leastRing_71 rfl rfl (Nat.le_of_ble_eq_true rfl) (Nat.le_of_ble_eq_true rfl) ⟨Nat.le_refl _, Nat.le_refl _⟩ rfl (fun rh1 h1 hqh1 => ?_)
      obtain ⟨rfl, rfl⟩ := hqh1
      refine go_if_eq 79 (nx := 77) dX0_leastRing_74 rfl rfl (fun c74 => ?_) (fun c74 => ?_)
      · skip
        refine go_iinc 0 (v := nI (i + 1)) (lv' := [_, _, _, _]) (nx := 82) dX0_leastRing_79 rfl (nI_inc i) (by decide) rfl rfl ?_
        refine go_goto 63 dX0_leastRing_82 rfl ?_
        refine Go.sub [0, 1, 2, 3] rfl ?_
        refine ih (i + 1) (by omega) (by omega) (by omega) ?_
        simp only [ff]
        rw [hn]
        simp [tb0 c74]
      · skip
        refine go_iload_n 0 (nx := 78) dX0_leastRing_77 rfl rfl rfl ?_
        refine go_reti dX0_leastRing_78 ⟨_, rfl, rfl⟩ ?_
        refine ⟨?_, HA, ⟨ru, HF⟩, hF⟩
        unfold rgF
        rw [ff_at (p := i) (by omega) hn (by simp [hi1, tbn0 c74])]
theorem l_ring2 {G : kG} {n f t q : Nat} {h0 : kH} {ν : mN} {T : mT} {rw : Nat → Int32} {fa : Int32} (hf8 : f + 8 ≤ n) (ht : t + 3 ≤ n) (hd0 : t + 3 ≤ f ∨ f + 8 ≤ t) (hw : wT T) (hv : wN T.1 ν) (hP0 : 0 < T.1) : ∀ (d i : Nat) (ru : Nat → Int32) (h : kH), 20 - i < d → i ≤ 20 → oNow G (f + 2) (mSp T (20 + i) ν) h → oTown G t T h → rFore G f rw fa ru h → kFr (f + 2) (f + 8) h0 h → (∀ j, j < i → ru j = nI (mW T ν (20 + j))) → Go G mX0_leastRing (5, 0, 0) 33 [(3, .int (nI i)), (0, .ref (kb G + f)), (1, .ref (kb G + t)), (2, .ref (kb G + q))] [] (n, 0, 0) h (kQi mX0_leastRing n (fun v h' => v = rgF (mW T ν) ∧ aNow G (f + 2) h' ∧ (∃ ru', rFore G f rw fa ru' h') ∧ kFr (f + 2) (f + 8) h0 h')) := by
  intro d
  induction d with
  | zero => intro i ru h hd; omega
  | succ d ih =>
    intro i ru h hd hi H HT HF hF hj
    have HT' := HT
    obtain ⟨kn, ct, si, cr, ⟨hN, hkn, hct, hsi, hcr⟩, hK, hC, hS, hR⟩ := id H
    obtain ⟨hf, hrw, hru⟩ := id HF
    refine go_iload_n 0 (nx := 34) dX0_leastRing_33 rfl rfl rfl ?_
    refine go_bipush (v := nI 20) (nx := 36) dX0_leastRing_34 (by decide) rfl ?_
    refine go_icmp_ge 61 (nx := 39) dX0_leastRing_36 rfl rfl (fun c36 => ?_) (fun c36 => ?_)
    · skip
      refine go_iconst (v := nI 1) (nx := 62) dX0_leastRing_61 (by decide) rfl ?_
      refine go_istore_n (lv' := [_, _, _, _]) (nx := 63) dX0_leastRing_62 rfl (by decide) rfl rfl ?_
      refine Go.sub [0, 1, 2, 3] rfl ?_
      have e8 : i = 20 := by have := kle c36; omega
      subst e8
      exact l_ring3 hf8 ht hd0 hw hv hP0 (aNow.of H) HF hF (fun j hj2 => ⟨hj j hj2, Nat.lt_of_lt_of_le (mW_lt hP0 _) hw.1⟩) 11 1 (by omega) (by omega) (by omega) rfl
    · skip
      have h8 := knle c36
      refine go_aload_n 1 (nx := 40) dX0_leastRing_39 rfl rfl rfl ?_
      refine go_gf (nx := 43) fg_X0_22 dX0_leastRing_40 (by omega) hf rfl rfl ?_
      refine go_iload_n 0 (nx := 44) dX0_leastRing_43 rfl rfl rfl ?_
      refine go_aload_n 1 (nx := 45) dX0_leastRing_44 rfl rfl rfl ?_
      refine go_gf (nx := 48) fg_X0_18 dX0_leastRing_45 (by omega) hf rfl rfl ?_
      refine go_aload_n 2 (nx := 49) dX0_leastRing_48 rfl rfl rfl ?_
      refine go_Vi (nx := 52) [_] kc_X0_29 ⟨_, _, rfl⟩ (by omega) hN (s_spring (by omega) ht (by omega) hw (wN_sp hw hv hP0 (20 + i)) hP0 H HT') dX0_leastRing_49 rfl rfl (Nat.le_of_ble_eq_true rfl) (Nat.le_of_ble_eq_true rfl) ⟨Nat.le_refl _, Nat.le_refl _⟩ rfl (fun rh1 h1 hqh1 => ?_)
      obtain ⟨rfl, H, hFh1⟩ := hqh1
      obtain ⟨kn, ct, si, cr, ⟨hN, hkn, hct, hsi, hcr⟩, hK, hC, hS, hR⟩ := id H
      have HT' := HT'.fr hFh1 (by omega)
      have HF := HF.fr hFh1 (by omega)
      obtain ⟨hf, hrw, hru⟩ := id HF
      have hF := hF.tr (hFh1.wide (Nat.le_refl _) (Nat.le_succ _))
      refine go_SNv (nx := 55) [_, _, _] kc_X0_33 (s_put (by omega) hru (by omega) rfl h8) dX0_leastRing_52 rfl rfl (Nat.le_of_ble_eq_true rfl) (Nat.le_of_ble_eq_true rfl) ⟨Nat.le_refl _, Nat.le_refl _⟩ rfl (fun h2 hqh2 => ?_)
      obtain ⟨eh2, fh2⟩ := hqh2
      have hFx : kFr (f + 7) (f + 8) _ h2 := fun j hj => fh2 j (by omega)
      have H := H.fr hFx (by omega)
      have HT' := HT'.fr hFx (by omega)
      have HF : rFore G f rw fa _ h2 := ⟨(hFx f (by omega)).trans hf, (hFx (f + 1) (by omega)).trans hrw, eh2⟩
      have hF := hF.tr (hFx.wide (by omega) (Nat.le_refl _))
      refine go_iinc 0 (v := nI (i + 1)) (lv' := [_, _, _, _]) (nx := 58) dX0_leastRing_55 rfl (nI_inc i) (by decide) rfl rfl ?_
      refine go_goto 33 dX0_leastRing_58 rfl ?_
      refine Go.sub [0, 1, 2, 3] rfl ?_
      refine ih (i + 1) _ _ (by omega) (by omega) H HT' HF hF (fun j hj2 => ?_)
      by_cases e : j = i
      · subst e; rw [pk_us]; rfl
      · rw [pk_un e]; exact hj j (by omega)
theorem l_ring1 {G : kG} {n f t q : Nat} {h0 : kH} {ν : mN} {T : mT} {rw : Nat → Int32} {fa : Int32} (hf8 : f + 8 ≤ n) (ht : t + 3 ≤ n) (hd0 : t + 3 ≤ f ∨ f + 8 ≤ t) (hw : wT T) (hv : wN T.1 ν) (hP0 : 0 < T.1) : ∀ (d i : Nat) (ru : Nat → Int32) (h : kH), 20 - i < d → i ≤ 20 → oNow G (f + 2) (mSp T i ν) h → oTown G t T h → rFore G f rw fa ru h → kFr (f + 2) (f + 8) h0 h → Go G mX0_leastRing (5, 0, 0) 10 [(3, .int (nI i)), (0, .ref (kb G + f)), (1, .ref (kb G + t)), (2, .ref (kb G + q))] [] (n, 0, 0) h (kQi mX0_leastRing n (fun v h' => v = rgF (mW T ν) ∧ aNow G (f + 2) h' ∧ (∃ ru', rFore G f rw fa ru' h') ∧ kFr (f + 2) (f + 8) h0 h')) := by
  intro d
  induction d with
  | zero => intro i ru h hd; omega
  | succ d ih =>
    intro i ru h hd hi H HT HF hF
    have HT' := HT
    obtain ⟨kn, ct, si, cr, ⟨hN, hkn, hct, hsi, hcr⟩, hK, hC, hS, hR⟩ := id H
    obtain ⟨hf, hrw, hru⟩ := id HF
    refine go_iload_n 0 (nx := 11) dX0_leastRing_10 rfl rfl rfl ?_
    refine go_bipush (v := nI 20) (nx := 13) dX0_leastRing_11 (by decide) rfl ?_
    refine go_icmp_ge 31 (nx := 16) dX0_leastRing_13 rfl rfl (fun c13 => ?_) (fun c13 => ?_)
    · skip
      refine go_iconst (v := nI 0) (nx := 32) dX0_leastRing_31 (by decide) rfl ?_
      refine go_istore_n (lv' := [_, _, _, _]) (nx := 33) dX0_leastRing_32 rfl (by decide) rfl rfl ?_
      refine Go.sub [0, 1, 2, 3] rfl ?_
      have e8 : i = 20 := by have := kle c13; omega
      subst e8
      exact l_ring2 hf8 ht hd0 hw hv hP0 21 0 _ _ (by omega) (by omega) H HT' HF hF (fun j hj => absurd hj (Nat.not_lt_zero j))
    · skip
      have h8 := knle c13
      refine go_aload_n 1 (nx := 17) dX0_leastRing_16 rfl rfl rfl ?_
      refine go_gf (nx := 20) fg_X0_18 dX0_leastRing_17 (by omega) hf rfl rfl ?_
      refine go_aload_n 2 (nx := 21) dX0_leastRing_20 rfl rfl rfl ?_
      refine go_Vi (nx := 24) [_] kc_X0_29 ⟨_, _, rfl⟩ (by omega) hN (s_spring (by omega) ht (by omega) hw (wN_sp hw hv hP0 (i)) hP0 H HT') dX0_leastRing_21 rfl rfl (Nat.le_of_ble_eq_true rfl) (Nat.le_of_ble_eq_true rfl) ⟨Nat.le_refl _, Nat.le_refl _⟩ rfl (fun rh1 h1 hqh1 => ?_)
      obtain ⟨rfl, H, hFh1⟩ := hqh1
      obtain ⟨kn, ct, si, cr, ⟨hN, hkn, hct, hsi, hcr⟩, hK, hC, hS, hR⟩ := id H
      have HT' := HT'.fr hFh1 (by omega)
      have HF := HF.fr hFh1 (by omega)
      obtain ⟨hf, hrw, hru⟩ := id HF
      have hF := hF.tr (hFh1.wide (Nat.le_refl _) (Nat.le_succ _))
      refine go_pop (nx := 25) dX0_leastRing_24 rfl rfl ?_
      refine go_iinc 0 (v := nI (i + 1)) (lv' := [_, _, _, _]) (nx := 28) dX0_leastRing_25 rfl (nI_inc i) (by decide) rfl rfl ?_
      refine go_goto 10 dX0_leastRing_28 rfl ?_
      refine Go.sub [0, 1, 2, 3] rfl ?_
      exact ih (i + 1) _ _ (by omega) (by omega) H HT' HF hF
theorem s_ring {G : kG} {n f t q : Nat} {h : kH} {ν : mN} {T : mT} {rw ru : Nat → Int32} {fa : Int32} (hf8 : f + 8 ≤ n) (ht : t + 3 ≤ n) (hd0 : t + 3 ≤ f ∨ f + 8 ≤ t) (hw : wT T) (hv : wN T.1 ν) (hP0 : 0 < T.1) (hq2 : q + 5 ≤ n) (hdq : q + 5 ≤ f ∨ f + 8 ≤ q) (HF : rFore G f rw fa ru h) (HA : aNow G (f + 2) h) (Hq : oNow G q ν h) (HT : oTown G t T h) : Spi G mX0_leastRing 5 [.ref (kb G + f), .ref (kb G + t), .ref (kb G + q)] n h (fun v h' => v = rgF (mW T ν) ∧ aNow G (f + 2) h' ∧ (∃ ru', rFore G f rw fa ru' h') ∧ kFr (f + 2) (f + 8) h h') := by
  have HT' := HT
  obtain ⟨kn, ct, si, cr, rg, yr, la, HA⟩ := HA
  obtain ⟨hN, hkn, hct, hsi, hcr⟩ := id HA
  obtain ⟨hf, hrw, hru⟩ := id HF
  have hF : kFr (f + 2) (f + 7) h h := kFr.rf
  refine Spi.of (by decide) (Nat.le_of_ble_eq_true rfl) ?_
  refine go_aload_n 0 (nx := 1) dX0_leastRing_0 rfl rfl rfl ?_
  refine go_gf (nx := 4) fg_X0_18 dX0_leastRing_1 (by omega) hf rfl rfl ?_
  refine go_aload_n 2 (nx := 5) dX0_leastRing_4 rfl rfl rfl ?_
  refine go_Vv (nx := 8) [_] kc_X0_25 ⟨_, _, rfl⟩ (by omega) hN (s_copyFrom (by omega) hq2 (by omega) HA Hq) dX0_leastRing_5 rfl rfl (Nat.le_of_ble_eq_true rfl) (Nat.le_of_ble_eq_true rfl) ⟨Nat.le_refl _, Nat.le_refl _⟩ rfl (fun h1 hqh1 => ?_)
  obtain ⟨H, hFh1⟩ := hqh1
  have H' := H
  obtain ⟨kn, ct, si, cr, ⟨hN, hkn, hct, hsi, hcr⟩, hK, hC, hS, hR⟩ := H'
  have HT' := HT'.fr hFh1 (by omega)
  have HF := HF.fr hFh1 (by omega)
  obtain ⟨hf, hrw, hru⟩ := id HF
  have hF := hF.tr hFh1
  refine go_iconst (v := nI 0) (nx := 9) dX0_leastRing_8 (by decide) rfl ?_
  refine go_istore_n (lv' := [_, _, _, _]) (nx := 10) dX0_leastRing_9 rfl (by decide) rfl rfl ?_
  refine Go.sub [0, 1, 2, 3] rfl ?_
  exact l_ring1 hf8 ht hd0 hw hv hP0 21 0 _ _ (by omega) (by omega) H HT' HF (hF.wide (Nat.le_refl _) (Nat.le_succ _))
end

-- ===== PART A: goes FIRST, ahead of the names: the tables' words, and 'selects' of the private methods out of them =====
/-- a private method of a class that the tables say can be made, by its rows of tables_1 -/
def lw_okq (q : MethodName × Nat) : Prop := (q.1.cls ≠ "java/lang/invoke/MethodHandle" ∧ q.1.cls ≠ "java/lang/invoke/VarHandle") ∧ Cond.instantiable q.1.cls q.2 ∈ tables_1 ∧ Cond.privateMethod q.1 ∈ tables_1 ∧ Cond.instanceMethod q.1 ∈ tables_1
theorem lw_p0 : lw_okq (⟨"ObjectTexts$Store", "numberOf", "(IJII)I"⟩, 8) := ⟨⟨by decide +kernel, by decide +kernel⟩, List.mem_of_getElem? (i := 27) (by decide +kernel), List.mem_of_getElem? (i := 155) (by decide +kernel), List.mem_of_getElem? (i := 156) (by decide +kernel)⟩
theorem lw_p1 : lw_okq (⟨"ObjectTexts$Store", "slotOf", "(J)I"⟩, 8) := ⟨⟨by decide +kernel, by decide +kernel⟩, List.mem_of_getElem? (i := 27) (by decide +kernel), List.mem_of_getElem? (i := 159) (by decide +kernel), List.mem_of_getElem? (i := 160) (by decide +kernel)⟩
theorem lw_p2 : lw_okq (⟨"ObjectTexts$Store", "has", "(I)Z"⟩, 8) := ⟨⟨by decide +kernel, by decide +kernel⟩, List.mem_of_getElem? (i := 27) (by decide +kernel), List.mem_of_getElem? (i := 164) (by decide +kernel), List.mem_of_getElem? (i := 165) (by decide +kernel)⟩
theorem lw_p3 : lw_okq (⟨"ObjectTexts$Text", "waitingByte", "(I)C"⟩, 3) := ⟨⟨by decide +kernel, by decide +kernel⟩, List.mem_of_getElem? (i := 197) (by decide +kernel), List.mem_of_getElem? (i := 348) (by decide +kernel), List.mem_of_getElem? (i := 349) (by decide +kernel)⟩
theorem lw_p4 : lw_okq (⟨"ObjectTexts$Store", "growTo", "(I)V"⟩, 8) := ⟨⟨by decide +kernel, by decide +kernel⟩, List.mem_of_getElem? (i := 27) (by decide +kernel), List.mem_of_getElem? (i := 373) (by decide +kernel), List.mem_of_getElem? (i := 374) (by decide +kernel)⟩
theorem lw_p5 : lw_okq (⟨"ObjectTexts$Words", "skipBlanks", "()V"⟩, 5) := ⟨⟨by decide +kernel, by decide +kernel⟩, List.mem_of_getElem? (i := 220) (by decide +kernel), List.mem_of_getElem? (i := 411) (by decide +kernel), List.mem_of_getElem? (i := 412) (by decide +kernel)⟩
theorem lw_p6 : lw_okq (⟨"ObjectTexts$Words", "kindAt", "(I)I"⟩, 5) := ⟨⟨by decide +kernel, by decide +kernel⟩, List.mem_of_getElem? (i := 220) (by decide +kernel), List.mem_of_getElem? (i := 420) (by decide +kernel), List.mem_of_getElem? (i := 421) (by decide +kernel)⟩
theorem lw_p7 : lw_okq (⟨"ObjectTexts$Words", "takeAtom", "()V"⟩, 5) := ⟨⟨by decide +kernel, by decide +kernel⟩, List.mem_of_getElem? (i := 220) (by decide +kernel), List.mem_of_getElem? (i := 427) (by decide +kernel), List.mem_of_getElem? (i := 428) (by decide +kernel)⟩
theorem lw_p8 : lw_okq (⟨"ObjectTexts$Words", "naturalOf", "(II)J"⟩, 5) := ⟨⟨by decide +kernel, by decide +kernel⟩, List.mem_of_getElem? (i := 220) (by decide +kernel), List.mem_of_getElem? (i := 434) (by decide +kernel), List.mem_of_getElem? (i := 435) (by decide +kernel)⟩
theorem lw_p9 : lw_okq (⟨"ObjectTexts$Words", "symbolOf", "(II)J"⟩, 5) := ⟨⟨by decide +kernel, by decide +kernel⟩, List.mem_of_getElem? (i := 220) (by decide +kernel), List.mem_of_getElem? (i := 441) (by decide +kernel), List.mem_of_getElem? (i := 442) (by decide +kernel)⟩
theorem lw_p10 : lw_okq (⟨"ObjectTexts$Reader", "faultOf", "(II)I"⟩, 11) := ⟨⟨by decide +kernel, by decide +kernel⟩, List.mem_of_getElem? (i := 214) (by decide +kernel), List.mem_of_getElem? (i := 450) (by decide +kernel), List.mem_of_getElem? (i := 451) (by decide +kernel)⟩
theorem lw_p11 : lw_okq (⟨"ObjectTexts$Reader", "canStand", "(I)Z"⟩, 11) := ⟨⟨by decide +kernel, by decide +kernel⟩, List.mem_of_getElem? (i := 214) (by decide +kernel), List.mem_of_getElem? (i := 459) (by decide +kernel), List.mem_of_getElem? (i := 460) (by decide +kernel)⟩
theorem lw_p12 : lw_okq (⟨"ObjectTexts$Reader", "stage", "()I"⟩, 11) := ⟨⟨by decide +kernel, by decide +kernel⟩, List.mem_of_getElem? (i := 214) (by decide +kernel), List.mem_of_getElem? (i := 463) (by decide +kernel), List.mem_of_getElem? (i := 464) (by decide +kernel)⟩
theorem lw_p13 : lw_okq (⟨"ObjectTexts$Reader", "isLevel", "()Z"⟩, 11) := ⟨⟨by decide +kernel, by decide +kernel⟩, List.mem_of_getElem? (i := 214) (by decide +kernel), List.mem_of_getElem? (i := 467) (by decide +kernel), List.mem_of_getElem? (i := 468) (by decide +kernel)⟩
theorem lw_p14 : lw_okq (⟨"ObjectTexts$Reader", "takeWord", "()V"⟩, 11) := ⟨⟨by decide +kernel, by decide +kernel⟩, List.mem_of_getElem? (i := 214) (by decide +kernel), List.mem_of_getElem? (i := 471) (by decide +kernel), List.mem_of_getElem? (i := 472) (by decide +kernel)⟩
theorem lw_p15 : lw_okq (⟨"ObjectTexts$Reader", "open", "(I)V"⟩, 11) := ⟨⟨by decide +kernel, by decide +kernel⟩, List.mem_of_getElem? (i := 214) (by decide +kernel), List.mem_of_getElem? (i := 475) (by decide +kernel), List.mem_of_getElem? (i := 476) (by decide +kernel)⟩
def lw_privs_1 : List (MethodName × Nat) := [(⟨"ObjectTexts$Store", "numberOf", "(IJII)I"⟩, 8), (⟨"ObjectTexts$Store", "slotOf", "(J)I"⟩, 8), (⟨"ObjectTexts$Store", "has", "(I)Z"⟩, 8), (⟨"ObjectTexts$Text", "waitingByte", "(I)C"⟩, 3), (⟨"ObjectTexts$Store", "growTo", "(I)V"⟩, 8), (⟨"ObjectTexts$Words", "skipBlanks", "()V"⟩, 5), (⟨"ObjectTexts$Words", "kindAt", "(I)I"⟩, 5), (⟨"ObjectTexts$Words", "takeAtom", "()V"⟩, 5), (⟨"ObjectTexts$Words", "naturalOf", "(II)J"⟩, 5), (⟨"ObjectTexts$Words", "symbolOf", "(II)J"⟩, 5), (⟨"ObjectTexts$Reader", "faultOf", "(II)I"⟩, 11), (⟨"ObjectTexts$Reader", "canStand", "(I)Z"⟩, 11), (⟨"ObjectTexts$Reader", "stage", "()I"⟩, 11), (⟨"ObjectTexts$Reader", "isLevel", "()Z"⟩, 11), (⟨"ObjectTexts$Reader", "takeWord", "()V"⟩, 11), (⟨"ObjectTexts$Reader", "open", "(I)V"⟩, 11)]
theorem lw_r1 : ∀ q ∈ lw_privs_1, lw_okq q := List.forall_mem_cons.mpr ⟨lw_p0, List.forall_mem_cons.mpr ⟨lw_p1, List.forall_mem_cons.mpr ⟨lw_p2, List.forall_mem_cons.mpr ⟨lw_p3, List.forall_mem_cons.mpr ⟨lw_p4, List.forall_mem_cons.mpr ⟨lw_p5, List.forall_mem_cons.mpr ⟨lw_p6, List.forall_mem_cons.mpr ⟨lw_p7, List.forall_mem_cons.mpr ⟨lw_p8, List.forall_mem_cons.mpr ⟨lw_p9, List.forall_mem_cons.mpr ⟨lw_p10, List.forall_mem_cons.mpr ⟨lw_p11, List.forall_mem_cons.mpr ⟨lw_p12, List.forall_mem_cons.mpr ⟨lw_p13, List.forall_mem_cons.mpr ⟨lw_p14, List.forall_mem_cons.mpr ⟨lw_p15, fun _ h => absurd h List.not_mem_nil⟩⟩⟩⟩⟩⟩⟩⟩⟩⟩⟩⟩⟩⟩⟩⟩
theorem lw_p16 : lw_okq (⟨"ObjectTexts$Reader", "setStage", "(I)V"⟩, 11) := ⟨⟨by decide +kernel, by decide +kernel⟩, List.mem_of_getElem? (i := 214) (by decide +kernel), List.mem_of_getElem? (i := 479) (by decide +kernel), List.mem_of_getElem? (i := 480) (by decide +kernel)⟩
theorem lw_p17 : lw_okq (⟨"ObjectTexts$Reader", "closeList", "()I"⟩, 11) := ⟨⟨by decide +kernel, by decide +kernel⟩, List.mem_of_getElem? (i := 214) (by decide +kernel), List.mem_of_getElem? (i := 483) (by decide +kernel), List.mem_of_getElem? (i := 484) (by decide +kernel)⟩
theorem lw_p18 : lw_okq (⟨"ObjectTexts$Reader", "base", "()I"⟩, 11) := ⟨⟨by decide +kernel, by decide +kernel⟩, List.mem_of_getElem? (i := 214) (by decide +kernel), List.mem_of_getElem? (i := 487) (by decide +kernel), List.mem_of_getElem? (i := 488) (by decide +kernel)⟩
theorem lw_p19 : lw_okq (⟨"ObjectTexts$Reader", "placeObject", "(I)V"⟩, 11) := ⟨⟨by decide +kernel, by decide +kernel⟩, List.mem_of_getElem? (i := 214) (by decide +kernel), List.mem_of_getElem? (i := 505) (by decide +kernel), List.mem_of_getElem? (i := 506) (by decide +kernel)⟩
theorem lw_p20 : lw_okq (⟨"ObjectTexts$Teller", "tellFront", "(LObjectTexts$Sheet;I)I"⟩, 3) := ⟨⟨by decide +kernel, by decide +kernel⟩, List.mem_of_getElem? (i := 276) (by decide +kernel), List.mem_of_getElem? (i := 554) (by decide +kernel), List.mem_of_getElem? (i := 555) (by decide +kernel)⟩
theorem lw_p21 : lw_okq (⟨"ObjectTexts$Teller", "tellAtom", "(LObjectTexts$Sheet;I)V"⟩, 3) := ⟨⟨by decide +kernel, by decide +kernel⟩, List.mem_of_getElem? (i := 276) (by decide +kernel), List.mem_of_getElem? (i := 588) (by decide +kernel), List.mem_of_getElem? (i := 589) (by decide +kernel)⟩
theorem lw_p22 : lw_okq (⟨"ObjectTexts$Teller", "goOnInLists", "(LObjectTexts$Sheet;)I"⟩, 3) := ⟨⟨by decide +kernel, by decide +kernel⟩, List.mem_of_getElem? (i := 276) (by decide +kernel), List.mem_of_getElem? (i := 607) (by decide +kernel), List.mem_of_getElem? (i := 608) (by decide +kernel)⟩
theorem lw_p23 : lw_okq (⟨"ObjectTexts$Store", "addPart", "(II)I"⟩, 8) := ⟨⟨by decide +kernel, by decide +kernel⟩, List.mem_of_getElem? (i := 27) (by decide +kernel), List.mem_of_getElem? (i := 658) (by decide +kernel), List.mem_of_getElem? (i := 659) (by decide +kernel)⟩
theorem lw_p24 : lw_okq (⟨"ObjectTextsModel", "said", "(IIIII)V"⟩, 39) := ⟨⟨by decide +kernel, by decide +kernel⟩, List.mem_of_getElem? (i := 675) (by decide +kernel), List.mem_of_getElem? (i := 682) (by decide +kernel), List.mem_of_getElem? (i := 683) (by decide +kernel)⟩
theorem lw_p25 : lw_okq (⟨"ObjectTextsModel", "spell", "(I)V"⟩, 39) := ⟨⟨by decide +kernel, by decide +kernel⟩, List.mem_of_getElem? (i := 675) (by decide +kernel), List.mem_of_getElem? (i := 686) (by decide +kernel), List.mem_of_getElem? (i := 687) (by decide +kernel)⟩
theorem lw_p26 : lw_okq (⟨"ObjectTextsModel", "symbol", "()I"⟩, 39) := ⟨⟨by decide +kernel, by decide +kernel⟩, List.mem_of_getElem? (i := 675) (by decide +kernel), List.mem_of_getElem? (i := 690) (by decide +kernel), List.mem_of_getElem? (i := 691) (by decide +kernel)⟩
theorem lw_p27 : lw_okq (⟨"ObjectTextsModel", "spelled", "(IIZ)I"⟩, 39) := ⟨⟨by decide +kernel, by decide +kernel⟩, List.mem_of_getElem? (i := 675) (by decide +kernel), List.mem_of_getElem? (i := 694) (by decide +kernel), List.mem_of_getElem? (i := 695) (by decide +kernel)⟩
theorem lw_p28 : lw_okq (⟨"ObjectTextsModel", "isWord", "(I)Z"⟩, 39) := ⟨⟨by decide +kernel, by decide +kernel⟩, List.mem_of_getElem? (i := 675) (by decide +kernel), List.mem_of_getElem? (i := 698) (by decide +kernel), List.mem_of_getElem? (i := 699) (by decide +kernel)⟩
theorem lw_p29 : lw_okq (⟨"ObjectTextsModel", "added", "(III)I"⟩, 39) := ⟨⟨by decide +kernel, by decide +kernel⟩, List.mem_of_getElem? (i := 675) (by decide +kernel), List.mem_of_getElem? (i := 702) (by decide +kernel), List.mem_of_getElem? (i := 703) (by decide +kernel)⟩
theorem lw_p30 : lw_okq (⟨"ObjectTextsModel", "reads", "()Z"⟩, 39) := ⟨⟨by decide +kernel, by decide +kernel⟩, List.mem_of_getElem? (i := 675) (by decide +kernel), List.mem_of_getElem? (i := 840) (by decide +kernel), List.mem_of_getElem? (i := 841) (by decide +kernel)⟩
theorem lw_p31 : lw_okq (⟨"ObjectTextsModel", "skip", "()V"⟩, 39) := ⟨⟨by decide +kernel, by decide +kernel⟩, List.mem_of_getElem? (i := 675) (by decide +kernel), List.mem_of_getElem? (i := 844) (by decide +kernel), List.mem_of_getElem? (i := 845) (by decide +kernel)⟩
def lw_privs_2 : List (MethodName × Nat) := [(⟨"ObjectTexts$Reader", "setStage", "(I)V"⟩, 11), (⟨"ObjectTexts$Reader", "closeList", "()I"⟩, 11), (⟨"ObjectTexts$Reader", "base", "()I"⟩, 11), (⟨"ObjectTexts$Reader", "placeObject", "(I)V"⟩, 11), (⟨"ObjectTexts$Teller", "tellFront", "(LObjectTexts$Sheet;I)I"⟩, 3), (⟨"ObjectTexts$Teller", "tellAtom", "(LObjectTexts$Sheet;I)V"⟩, 3), (⟨"ObjectTexts$Teller", "goOnInLists", "(LObjectTexts$Sheet;)I"⟩, 3), (⟨"ObjectTexts$Store", "addPart", "(II)I"⟩, 8), (⟨"ObjectTextsModel", "said", "(IIIII)V"⟩, 39), (⟨"ObjectTextsModel", "spell", "(I)V"⟩, 39), (⟨"ObjectTextsModel", "symbol", "()I"⟩, 39), (⟨"ObjectTextsModel", "spelled", "(IIZ)I"⟩, 39), (⟨"ObjectTextsModel", "isWord", "(I)Z"⟩, 39), (⟨"ObjectTextsModel", "added", "(III)I"⟩, 39), (⟨"ObjectTextsModel", "reads", "()Z"⟩, 39), (⟨"ObjectTextsModel", "skip", "()V"⟩, 39)]
theorem lw_r2 : ∀ q ∈ lw_privs_2, lw_okq q := List.forall_mem_cons.mpr ⟨lw_p16, List.forall_mem_cons.mpr ⟨lw_p17, List.forall_mem_cons.mpr ⟨lw_p18, List.forall_mem_cons.mpr ⟨lw_p19, List.forall_mem_cons.mpr ⟨lw_p20, List.forall_mem_cons.mpr ⟨lw_p21, List.forall_mem_cons.mpr ⟨lw_p22, List.forall_mem_cons.mpr ⟨lw_p23, List.forall_mem_cons.mpr ⟨lw_p24, List.forall_mem_cons.mpr ⟨lw_p25, List.forall_mem_cons.mpr ⟨lw_p26, List.forall_mem_cons.mpr ⟨lw_p27, List.forall_mem_cons.mpr ⟨lw_p28, List.forall_mem_cons.mpr ⟨lw_p29, List.forall_mem_cons.mpr ⟨lw_p30, List.forall_mem_cons.mpr ⟨lw_p31, fun _ h => absurd h List.not_mem_nil⟩⟩⟩⟩⟩⟩⟩⟩⟩⟩⟩⟩⟩⟩⟩⟩
theorem lw_p32 : lw_okq (⟨"ObjectTextsModel", "readWord", "(I)V"⟩, 39) := ⟨⟨by decide +kernel, by decide +kernel⟩, List.mem_of_getElem? (i := 675) (by decide +kernel), List.mem_of_getElem? (i := 848) (by decide +kernel), List.mem_of_getElem? (i := 849) (by decide +kernel)⟩
theorem lw_p33 : lw_okq (⟨"ObjectTextsModel", "mayBegin", "()Z"⟩, 39) := ⟨⟨by decide +kernel, by decide +kernel⟩, List.mem_of_getElem? (i := 675) (by decide +kernel), List.mem_of_getElem? (i := 852) (by decide +kernel), List.mem_of_getElem? (i := 853) (by decide +kernel)⟩
theorem lw_p34 : lw_okq (⟨"ObjectTextsModel", "bad", "(II)V"⟩, 39) := ⟨⟨by decide +kernel, by decide +kernel⟩, List.mem_of_getElem? (i := 675) (by decide +kernel), List.mem_of_getElem? (i := 856) (by decide +kernel), List.mem_of_getElem? (i := 857) (by decide +kernel)⟩
theorem lw_p35 : lw_okq (⟨"ObjectTextsModel", "begin", "(I)V"⟩, 39) := ⟨⟨by decide +kernel, by decide +kernel⟩, List.mem_of_getElem? (i := 675) (by decide +kernel), List.mem_of_getElem? (i := 860) (by decide +kernel), List.mem_of_getElem? (i := 861) (by decide +kernel)⟩
theorem lw_p36 : lw_okq (⟨"ObjectTextsModel", "isInList", "()Z"⟩, 39) := ⟨⟨by decide +kernel, by decide +kernel⟩, List.mem_of_getElem? (i := 675) (by decide +kernel), List.mem_of_getElem? (i := 864) (by decide +kernel), List.mem_of_getElem? (i := 865) (by decide +kernel)⟩
theorem lw_p37 : lw_okq (⟨"ObjectTextsModel", "close", "()V"⟩, 39) := ⟨⟨by decide +kernel, by decide +kernel⟩, List.mem_of_getElem? (i := 675) (by decide +kernel), List.mem_of_getElem? (i := 868) (by decide +kernel), List.mem_of_getElem? (i := 869) (by decide +kernel)⟩
theorem lw_p38 : lw_okq (⟨"ObjectTextsModel", "pair", "(II)I"⟩, 39) := ⟨⟨by decide +kernel, by decide +kernel⟩, List.mem_of_getElem? (i := 675) (by decide +kernel), List.mem_of_getElem? (i := 872) (by decide +kernel), List.mem_of_getElem? (i := 873) (by decide +kernel)⟩
theorem lw_p39 : lw_okq (⟨"ObjectTextsModel", "deliver", "(I)V"⟩, 39) := ⟨⟨by decide +kernel, by decide +kernel⟩, List.mem_of_getElem? (i := 675) (by decide +kernel), List.mem_of_getElem? (i := 880) (by decide +kernel), List.mem_of_getElem? (i := 881) (by decide +kernel)⟩
theorem lw_p40 : lw_okq (⟨"ObjectTextsModel", "list2", "(II)I"⟩, 39) := ⟨⟨by decide +kernel, by decide +kernel⟩, List.mem_of_getElem? (i := 675) (by decide +kernel), List.mem_of_getElem? (i := 884) (by decide +kernel), List.mem_of_getElem? (i := 885) (by decide +kernel)⟩
theorem lw_p41 : lw_okq (⟨"ObjectTextsModel", "atom", "(II)I"⟩, 39) := ⟨⟨by decide +kernel, by decide +kernel⟩, List.mem_of_getElem? (i := 675) (by decide +kernel), List.mem_of_getElem? (i := 894) (by decide +kernel), List.mem_of_getElem? (i := 895) (by decide +kernel)⟩
theorem lw_p42 : lw_okq (⟨"ObjectTextsModel", "natural", "(J)I"⟩, 39) := ⟨⟨by decide +kernel, by decide +kernel⟩, List.mem_of_getElem? (i := 675) (by decide +kernel), List.mem_of_getElem? (i := 901) (by decide +kernel), List.mem_of_getElem? (i := 902) (by decide +kernel)⟩
theorem lw_p43 : lw_okq (⟨"ObjectTextsModel", "tellObject", "(I)V"⟩, 39) := ⟨⟨by decide +kernel, by decide +kernel⟩, List.mem_of_getElem? (i := 675) (by decide +kernel), List.mem_of_getElem? (i := 913) (by decide +kernel), List.mem_of_getElem? (i := 914) (by decide +kernel)⟩
theorem lw_p44 : lw_okq (⟨"ObjectTextsModel", "later", "(I)V"⟩, 39) := ⟨⟨by decide +kernel, by decide +kernel⟩, List.mem_of_getElem? (i := 675) (by decide +kernel), List.mem_of_getElem? (i := 917) (by decide +kernel), List.mem_of_getElem? (i := 918) (by decide +kernel)⟩
theorem lw_p45 : lw_okq (⟨"ObjectTextsModel", "isFull", "()Z"⟩, 39) := ⟨⟨by decide +kernel, by decide +kernel⟩, List.mem_of_getElem? (i := 675) (by decide +kernel), List.mem_of_getElem? (i := 921) (by decide +kernel), List.mem_of_getElem? (i := 922) (by decide +kernel)⟩
theorem lw_p46 : lw_okq (⟨"ObjectTextsModel", "isPair", "(I)Z"⟩, 39) := ⟨⟨by decide +kernel, by decide +kernel⟩, List.mem_of_getElem? (i := 675) (by decide +kernel), List.mem_of_getElem? (i := 925) (by decide +kernel), List.mem_of_getElem? (i := 926) (by decide +kernel)⟩
theorem lw_p47 : lw_okq (⟨"ObjectTextsModel", "tellAtom", "(I)V"⟩, 39) := ⟨⟨by decide +kernel, by decide +kernel⟩, List.mem_of_getElem? (i := 675) (by decide +kernel), List.mem_of_getElem? (i := 929) (by decide +kernel), List.mem_of_getElem? (i := 930) (by decide +kernel)⟩
def lw_privs_3 : List (MethodName × Nat) := [(⟨"ObjectTextsModel", "readWord", "(I)V"⟩, 39), (⟨"ObjectTextsModel", "mayBegin", "()Z"⟩, 39), (⟨"ObjectTextsModel", "bad", "(II)V"⟩, 39), (⟨"ObjectTextsModel", "begin", "(I)V"⟩, 39), (⟨"ObjectTextsModel", "isInList", "()Z"⟩, 39), (⟨"ObjectTextsModel", "close", "()V"⟩, 39), (⟨"ObjectTextsModel", "pair", "(II)I"⟩, 39), (⟨"ObjectTextsModel", "deliver", "(I)V"⟩, 39), (⟨"ObjectTextsModel", "list2", "(II)I"⟩, 39), (⟨"ObjectTextsModel", "atom", "(II)I"⟩, 39), (⟨"ObjectTextsModel", "natural", "(J)I"⟩, 39), (⟨"ObjectTextsModel", "tellObject", "(I)V"⟩, 39), (⟨"ObjectTextsModel", "later", "(I)V"⟩, 39), (⟨"ObjectTextsModel", "isFull", "()Z"⟩, 39), (⟨"ObjectTextsModel", "isPair", "(I)Z"⟩, 39), (⟨"ObjectTextsModel", "tellAtom", "(I)V"⟩, 39)]
theorem lw_r3 : ∀ q ∈ lw_privs_3, lw_okq q := List.forall_mem_cons.mpr ⟨lw_p32, List.forall_mem_cons.mpr ⟨lw_p33, List.forall_mem_cons.mpr ⟨lw_p34, List.forall_mem_cons.mpr ⟨lw_p35, List.forall_mem_cons.mpr ⟨lw_p36, List.forall_mem_cons.mpr ⟨lw_p37, List.forall_mem_cons.mpr ⟨lw_p38, List.forall_mem_cons.mpr ⟨lw_p39, List.forall_mem_cons.mpr ⟨lw_p40, List.forall_mem_cons.mpr ⟨lw_p41, List.forall_mem_cons.mpr ⟨lw_p42, List.forall_mem_cons.mpr ⟨lw_p43, List.forall_mem_cons.mpr ⟨lw_p44, List.forall_mem_cons.mpr ⟨lw_p45, List.forall_mem_cons.mpr ⟨lw_p46, List.forall_mem_cons.mpr ⟨lw_p47, fun _ h => absurd h List.not_mem_nil⟩⟩⟩⟩⟩⟩⟩⟩⟩⟩⟩⟩⟩⟩⟩⟩
theorem lw_p48 : lw_okq (⟨"ObjectTextsModel", "isSymbol", "(I)Z"⟩, 39) := ⟨⟨by decide +kernel, by decide +kernel⟩, List.mem_of_getElem? (i := 675) (by decide +kernel), List.mem_of_getElem? (i := 933) (by decide +kernel), List.mem_of_getElem? (i := 934) (by decide +kernel)⟩
theorem lw_p49 : lw_okq (⟨"ObjectTextsModel", "tellLetter", "(I)V"⟩, 39) := ⟨⟨by decide +kernel, by decide +kernel⟩, List.mem_of_getElem? (i := 675) (by decide +kernel), List.mem_of_getElem? (i := 937) (by decide +kernel), List.mem_of_getElem? (i := 938) (by decide +kernel)⟩
theorem lw_p50 : lw_okq (⟨"ObjectTextsModel", "isQuoted", "(I)Z"⟩, 39) := ⟨⟨by decide +kernel, by decide +kernel⟩, List.mem_of_getElem? (i := 675) (by decide +kernel), List.mem_of_getElem? (i := 941) (by decide +kernel), List.mem_of_getElem? (i := 942) (by decide +kernel)⟩
theorem lw_p51 : lw_okq (⟨"ObjectTextsModel", "isNatural", "(I)Z"⟩, 39) := ⟨⟨by decide +kernel, by decide +kernel⟩, List.mem_of_getElem? (i := 675) (by decide +kernel), List.mem_of_getElem? (i := 965) (by decide +kernel), List.mem_of_getElem? (i := 966) (by decide +kernel)⟩
theorem lw_p52 : lw_okq (⟨"ObjectTextsModel", "lengthOf", "(I)I"⟩, 39) := ⟨⟨by decide +kernel, by decide +kernel⟩, List.mem_of_getElem? (i := 675) (by decide +kernel), List.mem_of_getElem? (i := 974) (by decide +kernel), List.mem_of_getElem? (i := 975) (by decide +kernel)⟩
theorem lw_p53 : lw_okq (⟨"ObjectTextsModel", "different", "(IZ)I"⟩, 39) := ⟨⟨by decide +kernel, by decide +kernel⟩, List.mem_of_getElem? (i := 675) (by decide +kernel), List.mem_of_getElem? (i := 978) (by decide +kernel), List.mem_of_getElem? (i := 979) (by decide +kernel)⟩
theorem lw_p54 : lw_okq (⟨"ObjectTextsModel", "isSmaller", "(II)Z"⟩, 39) := ⟨⟨by decide +kernel, by decide +kernel⟩, List.mem_of_getElem? (i := 675) (by decide +kernel), List.mem_of_getElem? (i := 990) (by decide +kernel), List.mem_of_getElem? (i := 991) (by decide +kernel)⟩
def lw_privs_4 : List (MethodName × Nat) := [(⟨"ObjectTextsModel", "isSymbol", "(I)Z"⟩, 39), (⟨"ObjectTextsModel", "tellLetter", "(I)V"⟩, 39), (⟨"ObjectTextsModel", "isQuoted", "(I)Z"⟩, 39), (⟨"ObjectTextsModel", "isNatural", "(I)Z"⟩, 39), (⟨"ObjectTextsModel", "lengthOf", "(I)I"⟩, 39), (⟨"ObjectTextsModel", "different", "(IZ)I"⟩, 39), (⟨"ObjectTextsModel", "isSmaller", "(II)Z"⟩, 39)]
theorem lw_r4 : ∀ q ∈ lw_privs_4, lw_okq q := List.forall_mem_cons.mpr ⟨lw_p48, List.forall_mem_cons.mpr ⟨lw_p49, List.forall_mem_cons.mpr ⟨lw_p50, List.forall_mem_cons.mpr ⟨lw_p51, List.forall_mem_cons.mpr ⟨lw_p52, List.forall_mem_cons.mpr ⟨lw_p53, List.forall_mem_cons.mpr ⟨lw_p54, fun _ h => absurd h List.not_mem_nil⟩⟩⟩⟩⟩⟩⟩
def lw_privs : List (MethodName × Nat) := lw_privs_1 ++ (lw_privs_2 ++ (lw_privs_3 ++ (lw_privs_4)))
def lw_tbl : List Cond := k2_sels lw_privs ++ tables_1
theorem lw_privs_ok : ∀ q ∈ lw_privs, lw_okq q := by
  show ∀ q ∈ lw_privs_1 ++ (lw_privs_2 ++ (lw_privs_3 ++ (lw_privs_4))), lw_okq q
  exact List.forall_mem_append.mpr ⟨lw_r1, List.forall_mem_append.mpr ⟨lw_r2, List.forall_mem_append.mpr ⟨lw_r3, lw_r4⟩⟩⟩
/-! names, by program out of the listing -/
def R_X : String := "ObjectTexts"
def T_X : u_T := fun k => match k with
  | 0 => ("ObjectTexts", "store", "LObjectTexts$Store;", true)
  | 1 => ("ObjectTexts", "text", "LObjectTexts$Text;", true)
  | 2 => ("ObjectTexts", "reader", "LObjectTexts$Reader;", true)
  | 3 => ("ObjectTexts", "teller", "LObjectTexts$Teller;", true)
  | 4 => ("ObjectTexts", "out", "LObjectTexts$Sheet;", true)
  | 5 => ("ObjectTexts", "left", "LObjectTexts$Sheet;", true)
  | 6 => ("ObjectTexts", "right", "LObjectTexts$Sheet;", true)
  | _ => ("ObjectTexts", "places", "[I", true)
def R_Rd : String := "ObjectTexts$Reader"
def T_Rd : u_T := fun k => match k with
  | 0 => ("ObjectTexts$Reader", "text", "LObjectTexts$Text;", true)
  | 1 => ("ObjectTexts$Reader", "store", "LObjectTexts$Store;", true)
  | 2 => ("ObjectTexts$Reader", "words", "LObjectTexts$Words;", true)
  | 3 => ("ObjectTexts$Reader", "stages", "[I", true)
  | 4 => ("ObjectTexts$Reader", "bases", "[I", true)
  | 5 => ("ObjectTexts$Reader", "objects", "[I", true)
  | 6 => ("ObjectTexts$Reader", "level", "I", false)
  | 7 => ("ObjectTexts$Reader", "held", "I", false)
  | 8 => ("ObjectTexts$Reader", "result", "I", false)
  | 9 => ("ObjectTexts$Reader", "latestFault", "I", false)
  | _ => ("ObjectTexts$Reader", "latestFaultPlace", "I", false)
def R_Sh : String := "ObjectTexts$Sheet"
def T_Sh : u_T := fun k => match k with
  | 0 => ("ObjectTexts$Sheet", "signs", "[C", true)
  | _ => ("ObjectTexts$Sheet", "length", "I", false)
def R_St : String := "ObjectTexts$Store"
def T_St : u_T := fun k => match k with
  | 0 => ("ObjectTexts$Store", "keys", "[J", false)
  | 1 => ("ObjectTexts$Store", "depths", "[I", false)
  | 2 => ("ObjectTexts$Store", "lengths", "[I", false)
  | 3 => ("ObjectTexts$Store", "marks", "[I", false)
  | 4 => ("ObjectTexts$Store", "parts", "[I", false)
  | 5 => ("ObjectTexts$Store", "slots", "[I", false)
  | 6 => ("ObjectTexts$Store", "count", "I", false)
  | _ => ("ObjectTexts$Store", "mark", "I", false)
def R_Te : String := "ObjectTexts$Teller"
def T_Te : u_T := fun k => match k with
  | 0 => ("ObjectTexts$Teller", "store", "LObjectTexts$Store;", true)
  | 1 => ("ObjectTexts$Teller", "rests", "[I", true)
  | _ => ("ObjectTexts$Teller", "open", "I", false)
def R_Tx : String := "ObjectTexts$Text"
def T_Tx : u_T := fun k => match k with
  | 0 => ("ObjectTexts$Text", "signs", "[C", true)
  | 1 => ("ObjectTexts$Text", "waiting", "[I", true)
  | _ => ("ObjectTexts$Text", "length", "I", false)
def R_Wd : String := "ObjectTexts$Words"
def T_Wd : u_T := fun k => match k with
  | 0 => ("ObjectTexts$Words", "text", "LObjectTexts$Text;", true)
  | 1 => ("ObjectTexts$Words", "next", "I", false)
  | 2 => ("ObjectTexts$Words", "start", "I", false)
  | 3 => ("ObjectTexts$Words", "kind", "I", false)
  | _ => ("ObjectTexts$Words", "value", "J", false)
def R_Mo : String := "ObjectTextsModel"
def T_Mo : u_T := fun k => match k with
  | 0 => ("ObjectTextsModel", "left", "[I", true)
  | 1 => ("ObjectTextsModel", "right", "[I", true)
  | 2 => ("ObjectTextsModel", "next", "[I", true)
  | 3 => ("ObjectTextsModel", "sizes", "[I", true)
  | 4 => ("ObjectTextsModel", "heights", "[I", true)
  | 5 => ("ObjectTextsModel", "number", "[J", true)
  | 6 => ("ObjectTextsModel", "heads", "[I", true)
  | 7 => ("ObjectTextsModel", "objects", "I", false)
  | 8 => ("ObjectTextsModel", "names", "[I", true)
  | 9 => ("ObjectTextsModel", "lengths", "[I", true)
  | 10 => ("ObjectTextsModel", "symbols", "I", false)
  | 11 => ("ObjectTextsModel", "place", "[I", true)
  | 12 => ("ObjectTextsModel", "waiting", "[I", true)
  | 13 => ("ObjectTextsModel", "text", "[I", true)
  | 14 => ("ObjectTextsModel", "textSize", "I", false)
  | 15 => ("ObjectTextsModel", "out", "[I", true)
  | 16 => ("ObjectTextsModel", "outSize", "I", false)
  | 17 => ("ObjectTextsModel", "word", "[I", true)
  | 18 => ("ObjectTextsModel", "wordSize", "I", false)
  | 19 => ("ObjectTextsModel", "tellWhat", "[I", true)
  | 20 => ("ObjectTextsModel", "telling", "I", false)
  | 21 => ("ObjectTextsModel", "one", "[I", true)
  | 22 => ("ObjectTextsModel", "oneSize", "I", false)
  | 23 => ("ObjectTextsModel", "at", "I", false)
  | 24 => ("ObjectTextsModel", "readFault", "I", false)
  | 25 => ("ObjectTextsModel", "readPlace", "I", false)
  | 26 => ("ObjectTextsModel", "openSort", "[I", true)
  | 27 => ("ObjectTextsModel", "openFrom", "[I", true)
  | 28 => ("ObjectTextsModel", "openState", "[I", true)
  | 29 => ("ObjectTextsModel", "openLast", "[I", true)
  | 30 => ("ObjectTextsModel", "open", "I", false)
  | 31 => ("ObjectTextsModel", "items", "[I", true)
  | 32 => ("ObjectTextsModel", "itemSize", "I", false)
  | 33 => ("ObjectTextsModel", "whole", "I", false)
  | 34 => ("ObjectTextsModel", "done", "Z", false)
  | 35 => ("ObjectTextsModel", "walk", "[I", true)
  | 36 => ("ObjectTextsModel", "met", "[Z", true)
  | 37 => ("ObjectTextsModel", "short0", "Z", false)
  | _ => ("ObjectTextsModel", "other", "[I", true)
def vwCl : List vw_C := [(R_X, T_X, 8), (R_Rd, T_Rd, 11), (R_Sh, T_Sh, 2), (R_St, T_St, 8), (R_Te, T_Te, 3), (R_Tx, T_Tx, 3), (R_Wd, T_Wd, 5), (R_Mo, T_Mo, 39)]

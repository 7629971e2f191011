section
-- ===== PART A: goes FIRST, ahead of the names: the tables' words, and 'selects' of the private methods out of them =====
/-- a private method of a class that the tables say can be made, by its rows of tables_1 -/
def lw_okq (q : MethodName × Nat) : Prop := (q.1.cls ≠ "java/lang/invoke/MethodHandle" ∧ q.1.cls ≠ "java/lang/invoke/VarHandle") ∧ Cond.instantiable q.1.cls q.2 ∈ tables_1 ∧ Cond.privateMethod q.1 ∈ tables_1 ∧ Cond.instanceMethod q.1 ∈ tables_1
theorem lw_p0 : lw_okq (⟨"AxiomBook", "append", "(J)V"⟩, 11) := ⟨⟨by decide +kernel, by decide +kernel⟩, List.mem_of_getElem? (i := 17) (by decide +kernel), List.mem_of_getElem? (i := 502) (by decide +kernel), List.mem_of_getElem? (i := 503) (by decide +kernel)⟩
theorem lw_p1 : lw_okq (⟨"AxiomBook", "forgetAnswers", "()V"⟩, 11) := ⟨⟨by decide +kernel, by decide +kernel⟩, List.mem_of_getElem? (i := 17) (by decide +kernel), List.mem_of_getElem? (i := 510) (by decide +kernel), List.mem_of_getElem? (i := 511) (by decide +kernel)⟩
theorem lw_p2 : lw_okq (⟨"AxiomBook$Scanner", "cut", "()V"⟩, 5) := ⟨⟨by decide +kernel, by decide +kernel⟩, List.mem_of_getElem? (i := 236) (by decide +kernel), List.mem_of_getElem? (i := 547) (by decide +kernel), List.mem_of_getElem? (i := 548) (by decide +kernel)⟩
theorem lw_p3 : lw_okq (⟨"AxiomBook$Scanner", "hasWrongByte", "()Z"⟩, 5) := ⟨⟨by decide +kernel, by decide +kernel⟩, List.mem_of_getElem? (i := 236) (by decide +kernel), List.mem_of_getElem? (i := 554) (by decide +kernel), List.mem_of_getElem? (i := 555) (by decide +kernel)⟩
theorem lw_p4 : lw_okq (⟨"AxiomBook$Scanner", "isDollarAnd", "(I)Z"⟩, 5) := ⟨⟨by decide +kernel, by decide +kernel⟩, List.mem_of_getElem? (i := 236) (by decide +kernel), List.mem_of_getElem? (i := 558) (by decide +kernel), List.mem_of_getElem? (i := 559) (by decide +kernel)⟩
theorem lw_p5 : lw_okq (⟨"AxiomBook$Scanner", "hasCommentMark", "()Z"⟩, 5) := ⟨⟨by decide +kernel, by decide +kernel⟩, List.mem_of_getElem? (i := 236) (by decide +kernel), List.mem_of_getElem? (i := 562) (by decide +kernel), List.mem_of_getElem? (i := 563) (by decide +kernel)⟩
theorem lw_p6 : lw_okq (⟨"AxiomBook$Scanner", "keyword", "()I"⟩, 5) := ⟨⟨by decide +kernel, by decide +kernel⟩, List.mem_of_getElem? (i := 236) (by decide +kernel), List.mem_of_getElem? (i := 570) (by decide +kernel), List.mem_of_getElem? (i := 571) (by decide +kernel)⟩
theorem lw_p7 : lw_okq (⟨"AxiomBook$Reader", "takeLabel", "()I"⟩, 11) := ⟨⟨by decide +kernel, by decide +kernel⟩, List.mem_of_getElem? (i := 183) (by decide +kernel), List.mem_of_getElem? (i := 574) (by decide +kernel), List.mem_of_getElem? (i := 575) (by decide +kernel)⟩
theorem lw_p8 : lw_okq (⟨"AxiomBook$Reader", "namedByToken", "()I"⟩, 11) := ⟨⟨by decide +kernel, by decide +kernel⟩, List.mem_of_getElem? (i := 183) (by decide +kernel), List.mem_of_getElem? (i := 582) (by decide +kernel), List.mem_of_getElem? (i := 583) (by decide +kernel)⟩
theorem lw_p9 : lw_okq (⟨"AxiomBook$Names", "isSame", "(I[BI)Z"⟩, 5) := ⟨⟨by decide +kernel, by decide +kernel⟩, List.mem_of_getElem? (i := 31) (by decide +kernel), List.mem_of_getElem? (i := 593) (by decide +kernel), List.mem_of_getElem? (i := 594) (by decide +kernel)⟩
theorem lw_p10 : lw_okq (⟨"AxiomBook$Reader", "takeOutside", "(I)I"⟩, 11) := ⟨⟨by decide +kernel, by decide +kernel⟩, List.mem_of_getElem? (i := 183) (by decide +kernel), List.mem_of_getElem? (i := 597) (by decide +kernel), List.mem_of_getElem? (i := 598) (by decide +kernel)⟩
theorem lw_p11 : lw_okq (⟨"AxiomBook$Reader", "begin", "(I)I"⟩, 11) := ⟨⟨by decide +kernel, by decide +kernel⟩, List.mem_of_getElem? (i := 183) (by decide +kernel), List.mem_of_getElem? (i := 601) (by decide +kernel), List.mem_of_getElem? (i := 602) (by decide +kernel)⟩
theorem lw_p12 : lw_okq (⟨"AxiomBook$Scope", "dropPairs", "()V"⟩, 13) := ⟨⟨by decide +kernel, by decide +kernel⟩, List.mem_of_getElem? (i := 189) (by decide +kernel), List.mem_of_getElem? (i := 613) (by decide +kernel), List.mem_of_getElem? (i := 614) (by decide +kernel)⟩
theorem lw_p13 : lw_okq (⟨"AxiomBook$Scope", "dropHypothesis", "(LAxiomBook$Book;I)V"⟩, 13) := ⟨⟨by decide +kernel, by decide +kernel⟩, List.mem_of_getElem? (i := 189) (by decide +kernel), List.mem_of_getElem? (i := 617) (by decide +kernel), List.mem_of_getElem? (i := 618) (by decide +kernel)⟩
theorem lw_p14 : lw_okq (⟨"AxiomBook$Scope", "addNeeds", "(LAxiomBook$Book;II)V"⟩, 13) := ⟨⟨by decide +kernel, by decide +kernel⟩, List.mem_of_getElem? (i := 189) (by decide +kernel), List.mem_of_getElem? (i := 625) (by decide +kernel), List.mem_of_getElem? (i := 626) (by decide +kernel)⟩
theorem lw_p15 : lw_okq (⟨"AxiomBook$Reader", "takeKind", "(I)I"⟩, 11) := ⟨⟨by decide +kernel, by decide +kernel⟩, List.mem_of_getElem? (i := 183) (by decide +kernel), List.mem_of_getElem? (i := 633) (by decide +kernel), List.mem_of_getElem? (i := 634) (by decide +kernel)⟩
def lw_privs_1 : List (MethodName × Nat) := [(⟨"AxiomBook", "append", "(J)V"⟩, 11), (⟨"AxiomBook", "forgetAnswers", "()V"⟩, 11), (⟨"AxiomBook$Scanner", "cut", "()V"⟩, 5), (⟨"AxiomBook$Scanner", "hasWrongByte", "()Z"⟩, 5), (⟨"AxiomBook$Scanner", "isDollarAnd", "(I)Z"⟩, 5), (⟨"AxiomBook$Scanner", "hasCommentMark", "()Z"⟩, 5), (⟨"AxiomBook$Scanner", "keyword", "()I"⟩, 5), (⟨"AxiomBook$Reader", "takeLabel", "()I"⟩, 11), (⟨"AxiomBook$Reader", "namedByToken", "()I"⟩, 11), (⟨"AxiomBook$Names", "isSame", "(I[BI)Z"⟩, 5), (⟨"AxiomBook$Reader", "takeOutside", "(I)I"⟩, 11), (⟨"AxiomBook$Reader", "begin", "(I)I"⟩, 11), (⟨"AxiomBook$Scope", "dropPairs", "()V"⟩, 13), (⟨"AxiomBook$Scope", "dropHypothesis", "(LAxiomBook$Book;I)V"⟩, 13), (⟨"AxiomBook$Scope", "addNeeds", "(LAxiomBook$Book;II)V"⟩, 13), (⟨"AxiomBook$Reader", "takeKind", "(I)I"⟩, 11)]
theorem lw_r1 : ∀ q ∈ lw_privs_1, lw_okq q := List.forall_mem_cons.mpr ⟨lw_p0, List.forall_mem_cons.mpr ⟨lw_p1, List.forall_mem_cons.mpr ⟨lw_p2, List.forall_mem_cons.mpr ⟨lw_p3, List.forall_mem_cons.mpr ⟨lw_p4, List.forall_mem_cons.mpr ⟨lw_p5, List.forall_mem_cons.mpr ⟨lw_p6, List.forall_mem_cons.mpr ⟨lw_p7, List.forall_mem_cons.mpr ⟨lw_p8, List.forall_mem_cons.mpr ⟨lw_p9, List.forall_mem_cons.mpr ⟨lw_p10, List.forall_mem_cons.mpr ⟨lw_p11, List.forall_mem_cons.mpr ⟨lw_p12, List.forall_mem_cons.mpr ⟨lw_p13, List.forall_mem_cons.mpr ⟨lw_p14, List.forall_mem_cons.mpr ⟨lw_p15, fun _ h => absurd h List.not_mem_nil⟩⟩⟩⟩⟩⟩⟩⟩⟩⟩⟩⟩⟩⟩⟩⟩
theorem lw_p16 : lw_okq (⟨"AxiomBook$Reader", "takeDeclared", "(I)I"⟩, 11) := ⟨⟨by decide +kernel, by decide +kernel⟩, List.mem_of_getElem? (i := 183) (by decide +kernel), List.mem_of_getElem? (i := 637) (by decide +kernel), List.mem_of_getElem? (i := 638) (by decide +kernel)⟩
theorem lw_p17 : lw_okq (⟨"AxiomBook$Reader", "takeSeparated", "(I)I"⟩, 11) := ⟨⟨by decide +kernel, by decide +kernel⟩, List.mem_of_getElem? (i := 183) (by decide +kernel), List.mem_of_getElem? (i := 661) (by decide +kernel), List.mem_of_getElem? (i := 662) (by decide +kernel)⟩
theorem lw_p18 : lw_okq (⟨"AxiomBook$Reader", "takeSymbol", "()I"⟩, 11) := ⟨⟨by decide +kernel, by decide +kernel⟩, List.mem_of_getElem? (i := 183) (by decide +kernel), List.mem_of_getElem? (i := 678) (by decide +kernel), List.mem_of_getElem? (i := 679) (by decide +kernel)⟩
theorem lw_p19 : lw_okq (⟨"AxiomBook$Reader", "mayStand", "(I)Z"⟩, 11) := ⟨⟨by decide +kernel, by decide +kernel⟩, List.mem_of_getElem? (i := 183) (by decide +kernel), List.mem_of_getElem? (i := 682) (by decide +kernel), List.mem_of_getElem? (i := 683) (by decide +kernel)⟩
theorem lw_p20 : lw_okq (⟨"AxiomBook$Reader", "takeEnd", "(I)I"⟩, 11) := ⟨⟨by decide +kernel, by decide +kernel⟩, List.mem_of_getElem? (i := 183) (by decide +kernel), List.mem_of_getElem? (i := 710) (by decide +kernel), List.mem_of_getElem? (i := 711) (by decide +kernel)⟩
theorem lw_p21 : lw_okq (⟨"AxiomBook$Reader", "takeProofToken", "(I)I"⟩, 11) := ⟨⟨by decide +kernel, by decide +kernel⟩, List.mem_of_getElem? (i := 183) (by decide +kernel), List.mem_of_getElem? (i := 714) (by decide +kernel), List.mem_of_getElem? (i := 715) (by decide +kernel)⟩
theorem lw_p22 : lw_okq (⟨"AxiomBook$Reader", "endStatement", "()V"⟩, 11) := ⟨⟨by decide +kernel, by decide +kernel⟩, List.mem_of_getElem? (i := 183) (by decide +kernel), List.mem_of_getElem? (i := 718) (by decide +kernel), List.mem_of_getElem? (i := 719) (by decide +kernel)⟩
theorem lw_p23 : lw_okq (⟨"AxiomBook", "examine", "(I)I"⟩, 11) := ⟨⟨by decide +kernel, by decide +kernel⟩, List.mem_of_getElem? (i := 17) (by decide +kernel), List.mem_of_getElem? (i := 801) (by decide +kernel), List.mem_of_getElem? (i := 802) (by decide +kernel)⟩
theorem lw_p24 : lw_okq (⟨"AxiomBook$Proof", "isOpen", "()Z"⟩, 13) := ⟨⟨by decide +kernel, by decide +kernel⟩, List.mem_of_getElem? (i := 296) (by decide +kernel), List.mem_of_getElem? (i := 809) (by decide +kernel), List.mem_of_getElem? (i := 810) (by decide +kernel)⟩
theorem lw_p25 : lw_okq (⟨"AxiomBook$Proof", "decodeList", "()I"⟩, 13) := ⟨⟨by decide +kernel, by decide +kernel⟩, List.mem_of_getElem? (i := 296) (by decide +kernel), List.mem_of_getElem? (i := 817) (by decide +kernel), List.mem_of_getElem? (i := 818) (by decide +kernel)⟩
theorem lw_p26 : lw_okq (⟨"AxiomBook$Proof", "knowHypotheses", "()V"⟩, 13) := ⟨⟨by decide +kernel, by decide +kernel⟩, List.mem_of_getElem? (i := 296) (by decide +kernel), List.mem_of_getElem? (i := 821) (by decide +kernel), List.mem_of_getElem? (i := 822) (by decide +kernel)⟩
theorem lw_p27 : lw_okq (⟨"AxiomBook$Proof", "know", "(I)V"⟩, 13) := ⟨⟨by decide +kernel, by decide +kernel⟩, List.mem_of_getElem? (i := 296) (by decide +kernel), List.mem_of_getElem? (i := 826) (by decide +kernel), List.mem_of_getElem? (i := 827) (by decide +kernel)⟩
theorem lw_p28 : lw_okq (⟨"AxiomBook$Proof", "mayName", "(I)Z"⟩, 13) := ⟨⟨by decide +kernel, by decide +kernel⟩, List.mem_of_getElem? (i := 296) (by decide +kernel), List.mem_of_getElem? (i := 830) (by decide +kernel), List.mem_of_getElem? (i := 831) (by decide +kernel)⟩
theorem lw_p29 : lw_okq (⟨"AxiomBook$Proof", "fail", "(II)I"⟩, 13) := ⟨⟨by decide +kernel, by decide +kernel⟩, List.mem_of_getElem? (i := 296) (by decide +kernel), List.mem_of_getElem? (i := 834) (by decide +kernel), List.mem_of_getElem? (i := 835) (by decide +kernel)⟩
theorem lw_p30 : lw_okq (⟨"AxiomBook$Proof", "decodeLabels", "()I"⟩, 13) := ⟨⟨by decide +kernel, by decide +kernel⟩, List.mem_of_getElem? (i := 296) (by decide +kernel), List.mem_of_getElem? (i := 838) (by decide +kernel), List.mem_of_getElem? (i := 839) (by decide +kernel)⟩
theorem lw_p31 : lw_okq (⟨"AxiomBook$Proof", "addStep", "(I)V"⟩, 13) := ⟨⟨by decide +kernel, by decide +kernel⟩, List.mem_of_getElem? (i := 296) (by decide +kernel), List.mem_of_getElem? (i := 842) (by decide +kernel), List.mem_of_getElem? (i := 843) (by decide +kernel)⟩
def lw_privs_2 : List (MethodName × Nat) := [(⟨"AxiomBook$Reader", "takeDeclared", "(I)I"⟩, 11), (⟨"AxiomBook$Reader", "takeSeparated", "(I)I"⟩, 11), (⟨"AxiomBook$Reader", "takeSymbol", "()I"⟩, 11), (⟨"AxiomBook$Reader", "mayStand", "(I)Z"⟩, 11), (⟨"AxiomBook$Reader", "takeEnd", "(I)I"⟩, 11), (⟨"AxiomBook$Reader", "takeProofToken", "(I)I"⟩, 11), (⟨"AxiomBook$Reader", "endStatement", "()V"⟩, 11), (⟨"AxiomBook", "examine", "(I)I"⟩, 11), (⟨"AxiomBook$Proof", "isOpen", "()Z"⟩, 13), (⟨"AxiomBook$Proof", "decodeList", "()I"⟩, 13), (⟨"AxiomBook$Proof", "knowHypotheses", "()V"⟩, 13), (⟨"AxiomBook$Proof", "know", "(I)V"⟩, 13), (⟨"AxiomBook$Proof", "mayName", "(I)Z"⟩, 13), (⟨"AxiomBook$Proof", "fail", "(II)I"⟩, 13), (⟨"AxiomBook$Proof", "decodeLabels", "()I"⟩, 13), (⟨"AxiomBook$Proof", "addStep", "(I)V"⟩, 13)]
theorem lw_r2 : ∀ q ∈ lw_privs_2, lw_okq q := List.forall_mem_cons.mpr ⟨lw_p16, List.forall_mem_cons.mpr ⟨lw_p17, List.forall_mem_cons.mpr ⟨lw_p18, List.forall_mem_cons.mpr ⟨lw_p19, List.forall_mem_cons.mpr ⟨lw_p20, List.forall_mem_cons.mpr ⟨lw_p21, List.forall_mem_cons.mpr ⟨lw_p22, List.forall_mem_cons.mpr ⟨lw_p23, List.forall_mem_cons.mpr ⟨lw_p24, List.forall_mem_cons.mpr ⟨lw_p25, List.forall_mem_cons.mpr ⟨lw_p26, List.forall_mem_cons.mpr ⟨lw_p27, List.forall_mem_cons.mpr ⟨lw_p28, List.forall_mem_cons.mpr ⟨lw_p29, List.forall_mem_cons.mpr ⟨lw_p30, List.forall_mem_cons.mpr ⟨lw_p31, fun _ h => absurd h List.not_mem_nil⟩⟩⟩⟩⟩⟩⟩⟩⟩⟩⟩⟩⟩⟩⟩⟩
theorem lw_p32 : lw_okq (⟨"AxiomBook$Proof", "decodeLetters", "()I"⟩, 13) := ⟨⟨by decide +kernel, by decide +kernel⟩, List.mem_of_getElem? (i := 296) (by decide +kernel), List.mem_of_getElem? (i := 846) (by decide +kernel), List.mem_of_getElem? (i := 847) (by decide +kernel)⟩
theorem lw_p33 : lw_okq (⟨"AxiomBook$Proof", "takeLetter", "(I)I"⟩, 13) := ⟨⟨by decide +kernel, by decide +kernel⟩, List.mem_of_getElem? (i := 296) (by decide +kernel), List.mem_of_getElem? (i := 850) (by decide +kernel), List.mem_of_getElem? (i := 851) (by decide +kernel)⟩
theorem lw_p34 : lw_okq (⟨"AxiomBook$Proof", "mark", "()I"⟩, 13) := ⟨⟨by decide +kernel, by decide +kernel⟩, List.mem_of_getElem? (i := 296) (by decide +kernel), List.mem_of_getElem? (i := 854) (by decide +kernel), List.mem_of_getElem? (i := 855) (by decide +kernel)⟩
theorem lw_p35 : lw_okq (⟨"AxiomBook$Proof", "takeNumber", "(I)I"⟩, 13) := ⟨⟨by decide +kernel, by decide +kernel⟩, List.mem_of_getElem? (i := 296) (by decide +kernel), List.mem_of_getElem? (i := 860) (by decide +kernel), List.mem_of_getElem? (i := 861) (by decide +kernel)⟩
theorem lw_p36 : lw_okq (⟨"AxiomBook$Machine", "notePartners", "(I)V"⟩, 6) := ⟨⟨by decide +kernel, by decide +kernel⟩, List.mem_of_getElem? (i := 353) (by decide +kernel), List.mem_of_getElem? (i := 869) (by decide +kernel), List.mem_of_getElem? (i := 870) (by decide +kernel)⟩
theorem lw_p37 : lw_okq (⟨"AxiomBook$Machine", "addPartner", "(II)V"⟩, 6) := ⟨⟨by decide +kernel, by decide +kernel⟩, List.mem_of_getElem? (i := 353) (by decide +kernel), List.mem_of_getElem? (i := 878) (by decide +kernel), List.mem_of_getElem? (i := 879) (by decide +kernel)⟩
theorem lw_p38 : lw_okq (⟨"AxiomBook$Machine", "apply", "(I)I"⟩, 6) := ⟨⟨by decide +kernel, by decide +kernel⟩, List.mem_of_getElem? (i := 353) (by decide +kernel), List.mem_of_getElem? (i := 883) (by decide +kernel), List.mem_of_getElem? (i := 884) (by decide +kernel)⟩
theorem lw_p39 : lw_okq (⟨"AxiomBook$Machine", "fit", "(II)I"⟩, 6) := ⟨⟨by decide +kernel, by decide +kernel⟩, List.mem_of_getElem? (i := 353) (by decide +kernel), List.mem_of_getElem? (i := 887) (by decide +kernel), List.mem_of_getElem? (i := 888) (by decide +kernel)⟩
theorem lw_p40 : lw_okq (⟨"AxiomBook$Machine", "isInstance", "(II)Z"⟩, 6) := ⟨⟨by decide +kernel, by decide +kernel⟩, List.mem_of_getElem? (i := 353) (by decide +kernel), List.mem_of_getElem? (i := 891) (by decide +kernel), List.mem_of_getElem? (i := 892) (by decide +kernel)⟩
theorem lw_p41 : lw_okq (⟨"AxiomBook$Machine", "keepsApart", "(I)Z"⟩, 6) := ⟨⟨by decide +kernel, by decide +kernel⟩, List.mem_of_getElem? (i := 353) (by decide +kernel), List.mem_of_getElem? (i := 896) (by decide +kernel), List.mem_of_getElem? (i := 897) (by decide +kernel)⟩
theorem lw_p42 : lw_okq (⟨"AxiomBook$Machine", "areApart", "(II)Z"⟩, 6) := ⟨⟨by decide +kernel, by decide +kernel⟩, List.mem_of_getElem? (i := 353) (by decide +kernel), List.mem_of_getElem? (i := 900) (by decide +kernel), List.mem_of_getElem? (i := 901) (by decide +kernel)⟩
theorem lw_p43 : lw_okq (⟨"AxiomBook$Machine", "isPartnerOfOthers", "(I)Z"⟩, 6) := ⟨⟨by decide +kernel, by decide +kernel⟩, List.mem_of_getElem? (i := 353) (by decide +kernel), List.mem_of_getElem? (i := 904) (by decide +kernel), List.mem_of_getElem? (i := 905) (by decide +kernel)⟩
theorem lw_p44 : lw_okq (⟨"AxiomBook$Machine", "sizeOf", "(I)I"⟩, 6) := ⟨⟨by decide +kernel, by decide +kernel⟩, List.mem_of_getElem? (i := 353) (by decide +kernel), List.mem_of_getElem? (i := 909) (by decide +kernel), List.mem_of_getElem? (i := 910) (by decide +kernel)⟩
theorem lw_p45 : lw_okq (⟨"AxiomBook$Machine", "pushInstance", "(I)V"⟩, 6) := ⟨⟨by decide +kernel, by decide +kernel⟩, List.mem_of_getElem? (i := 353) (by decide +kernel), List.mem_of_getElem? (i := 913) (by decide +kernel), List.mem_of_getElem? (i := 914) (by decide +kernel)⟩
theorem lw_p46 : lw_okq (⟨"AxiomBook$Machine", "push", "(I)I"⟩, 6) := ⟨⟨by decide +kernel, by decide +kernel⟩, List.mem_of_getElem? (i := 353) (by decide +kernel), List.mem_of_getElem? (i := 931) (by decide +kernel), List.mem_of_getElem? (i := 932) (by decide +kernel)⟩
theorem lw_p47 : lw_okq (⟨"AxiomBook$Teller", "nodeOf", "(III)I"⟩, 17) := ⟨⟨by decide +kernel, by decide +kernel⟩, List.mem_of_getElem? (i := 381) (by decide +kernel), List.mem_of_getElem? (i := 971) (by decide +kernel), List.mem_of_getElem? (i := 972) (by decide +kernel)⟩
def lw_privs_3 : List (MethodName × Nat) := [(⟨"AxiomBook$Proof", "decodeLetters", "()I"⟩, 13), (⟨"AxiomBook$Proof", "takeLetter", "(I)I"⟩, 13), (⟨"AxiomBook$Proof", "mark", "()I"⟩, 13), (⟨"AxiomBook$Proof", "takeNumber", "(I)I"⟩, 13), (⟨"AxiomBook$Machine", "notePartners", "(I)V"⟩, 6), (⟨"AxiomBook$Machine", "addPartner", "(II)V"⟩, 6), (⟨"AxiomBook$Machine", "apply", "(I)I"⟩, 6), (⟨"AxiomBook$Machine", "fit", "(II)I"⟩, 6), (⟨"AxiomBook$Machine", "isInstance", "(II)Z"⟩, 6), (⟨"AxiomBook$Machine", "keepsApart", "(I)Z"⟩, 6), (⟨"AxiomBook$Machine", "areApart", "(II)Z"⟩, 6), (⟨"AxiomBook$Machine", "isPartnerOfOthers", "(I)Z"⟩, 6), (⟨"AxiomBook$Machine", "sizeOf", "(I)I"⟩, 6), (⟨"AxiomBook$Machine", "pushInstance", "(I)V"⟩, 6), (⟨"AxiomBook$Machine", "push", "(I)I"⟩, 6), (⟨"AxiomBook$Teller", "nodeOf", "(III)I"⟩, 17)]
theorem lw_r3 : ∀ q ∈ lw_privs_3, lw_okq q := List.forall_mem_cons.mpr ⟨lw_p32, List.forall_mem_cons.mpr ⟨lw_p33, List.forall_mem_cons.mpr ⟨lw_p34, List.forall_mem_cons.mpr ⟨lw_p35, List.forall_mem_cons.mpr ⟨lw_p36, List.forall_mem_cons.mpr ⟨lw_p37, List.forall_mem_cons.mpr ⟨lw_p38, List.forall_mem_cons.mpr ⟨lw_p39, List.forall_mem_cons.mpr ⟨lw_p40, List.forall_mem_cons.mpr ⟨lw_p41, List.forall_mem_cons.mpr ⟨lw_p42, List.forall_mem_cons.mpr ⟨lw_p43, List.forall_mem_cons.mpr ⟨lw_p44, List.forall_mem_cons.mpr ⟨lw_p45, List.forall_mem_cons.mpr ⟨lw_p46, List.forall_mem_cons.mpr ⟨lw_p47, fun _ h => absurd h List.not_mem_nil⟩⟩⟩⟩⟩⟩⟩⟩⟩⟩⟩⟩⟩⟩⟩⟩
theorem lw_p48 : lw_okq (⟨"AxiomBook$Teller", "takesStack", "(II)Z"⟩, 17) := ⟨⟨by decide +kernel, by decide +kernel⟩, List.mem_of_getElem? (i := 381) (by decide +kernel), List.mem_of_getElem? (i := 975) (by decide +kernel), List.mem_of_getElem? (i := 976) (by decide +kernel)⟩
theorem lw_p49 : lw_okq (⟨"AxiomBook$Teller", "addNode", "(IIII)I"⟩, 17) := ⟨⟨by decide +kernel, by decide +kernel⟩, List.mem_of_getElem? (i := 381) (by decide +kernel), List.mem_of_getElem? (i := 980) (by decide +kernel), List.mem_of_getElem? (i := 981) (by decide +kernel)⟩
theorem lw_p50 : lw_okq (⟨"AxiomBook$Teller", "numberLabels", "(LAxiomBook$Sheet;)V"⟩, 17) := ⟨⟨by decide +kernel, by decide +kernel⟩, List.mem_of_getElem? (i := 381) (by decide +kernel), List.mem_of_getElem? (i := 990) (by decide +kernel), List.mem_of_getElem? (i := 991) (by decide +kernel)⟩
theorem lw_p51 : lw_okq (⟨"AxiomBook$Teller", "enterRoot", "()V"⟩, 17) := ⟨⟨by decide +kernel, by decide +kernel⟩, List.mem_of_getElem? (i := 381) (by decide +kernel), List.mem_of_getElem? (i := 1008) (by decide +kernel), List.mem_of_getElem? (i := 1009) (by decide +kernel)⟩
theorem lw_p52 : lw_okq (⟨"AxiomBook$Teller", "enter", "(I)V"⟩, 17) := ⟨⟨by decide +kernel, by decide +kernel⟩, List.mem_of_getElem? (i := 381) (by decide +kernel), List.mem_of_getElem? (i := 1012) (by decide +kernel), List.mem_of_getElem? (i := 1013) (by decide +kernel)⟩
theorem lw_p53 : lw_okq (⟨"AxiomBook$Teller", "nextTaken", "()I"⟩, 17) := ⟨⟨by decide +kernel, by decide +kernel⟩, List.mem_of_getElem? (i := 381) (by decide +kernel), List.mem_of_getElem? (i := 1016) (by decide +kernel), List.mem_of_getElem? (i := 1017) (by decide +kernel)⟩
theorem lw_p54 : lw_okq (⟨"AxiomBook$Teller", "leave", "(LAxiomBook$Sheet;)V"⟩, 17) := ⟨⟨by decide +kernel, by decide +kernel⟩, List.mem_of_getElem? (i := 381) (by decide +kernel), List.mem_of_getElem? (i := 1020) (by decide +kernel), List.mem_of_getElem? (i := 1021) (by decide +kernel)⟩
theorem lw_p55 : lw_okq (⟨"AxiomBook$Teller", "putNumber", "(LAxiomBook$Sheet;I)V"⟩, 17) := ⟨⟨by decide +kernel, by decide +kernel⟩, List.mem_of_getElem? (i := 381) (by decide +kernel), List.mem_of_getElem? (i := 1024) (by decide +kernel), List.mem_of_getElem? (i := 1025) (by decide +kernel)⟩
theorem lw_p56 : lw_okq (⟨"AxiomBook", "publish", "()I"⟩, 11) := ⟨⟨by decide +kernel, by decide +kernel⟩, List.mem_of_getElem? (i := 17) (by decide +kernel), List.mem_of_getElem? (i := 1028) (by decide +kernel), List.mem_of_getElem? (i := 1029) (by decide +kernel)⟩
theorem lw_p57 : lw_okq (⟨"AxiomBook", "writeStatement", "(LAxiomBook$Sheet;I)V"⟩, 11) := ⟨⟨by decide +kernel, by decide +kernel⟩, List.mem_of_getElem? (i := 17) (by decide +kernel), List.mem_of_getElem? (i := 1040) (by decide +kernel), List.mem_of_getElem? (i := 1041) (by decide +kernel)⟩
theorem lw_p58 : lw_okq (⟨"AxiomBookModel", "readBook", "()I"⟩, 86) := ⟨⟨by decide +kernel, by decide +kernel⟩, List.mem_of_getElem? (i := 1066) (by decide +kernel), List.mem_of_getElem? (i := 1345) (by decide +kernel), List.mem_of_getElem? (i := 1346) (by decide +kernel)⟩
theorem lw_p59 : lw_okq (⟨"AxiomBookModel", "beginBook", "()V"⟩, 86) := ⟨⟨by decide +kernel, by decide +kernel⟩, List.mem_of_getElem? (i := 1066) (by decide +kernel), List.mem_of_getElem? (i := 1349) (by decide +kernel), List.mem_of_getElem? (i := 1350) (by decide +kernel)⟩
theorem lw_p60 : lw_okq (⟨"AxiomBookModel", "nextToken", "()Z"⟩, 86) := ⟨⟨by decide +kernel, by decide +kernel⟩, List.mem_of_getElem? (i := 1066) (by decide +kernel), List.mem_of_getElem? (i := 1353) (by decide +kernel), List.mem_of_getElem? (i := 1354) (by decide +kernel)⟩
theorem lw_p61 : lw_okq (⟨"AxiomBookModel", "hasBad", "()Z"⟩, 86) := ⟨⟨by decide +kernel, by decide +kernel⟩, List.mem_of_getElem? (i := 1066) (by decide +kernel), List.mem_of_getElem? (i := 1360) (by decide +kernel), List.mem_of_getElem? (i := 1361) (by decide +kernel)⟩
theorem lw_p62 : lw_okq (⟨"AxiomBookModel", "isWord", "(I)Z"⟩, 86) := ⟨⟨by decide +kernel, by decide +kernel⟩, List.mem_of_getElem? (i := 1066) (by decide +kernel), List.mem_of_getElem? (i := 1364) (by decide +kernel), List.mem_of_getElem? (i := 1365) (by decide +kernel)⟩
theorem lw_p63 : lw_okq (⟨"AxiomBookModel", "hasPart", "(I)Z"⟩, 86) := ⟨⟨by decide +kernel, by decide +kernel⟩, List.mem_of_getElem? (i := 1066) (by decide +kernel), List.mem_of_getElem? (i := 1368) (by decide +kernel), List.mem_of_getElem? (i := 1369) (by decide +kernel)⟩
def lw_privs_4 : List (MethodName × Nat) := [(⟨"AxiomBook$Teller", "takesStack", "(II)Z"⟩, 17), (⟨"AxiomBook$Teller", "addNode", "(IIII)I"⟩, 17), (⟨"AxiomBook$Teller", "numberLabels", "(LAxiomBook$Sheet;)V"⟩, 17), (⟨"AxiomBook$Teller", "enterRoot", "()V"⟩, 17), (⟨"AxiomBook$Teller", "enter", "(I)V"⟩, 17), (⟨"AxiomBook$Teller", "nextTaken", "()I"⟩, 17), (⟨"AxiomBook$Teller", "leave", "(LAxiomBook$Sheet;)V"⟩, 17), (⟨"AxiomBook$Teller", "putNumber", "(LAxiomBook$Sheet;I)V"⟩, 17), (⟨"AxiomBook", "publish", "()I"⟩, 11), (⟨"AxiomBook", "writeStatement", "(LAxiomBook$Sheet;I)V"⟩, 11), (⟨"AxiomBookModel", "readBook", "()I"⟩, 86), (⟨"AxiomBookModel", "beginBook", "()V"⟩, 86), (⟨"AxiomBookModel", "nextToken", "()Z"⟩, 86), (⟨"AxiomBookModel", "hasBad", "()Z"⟩, 86), (⟨"AxiomBookModel", "isWord", "(I)Z"⟩, 86), (⟨"AxiomBookModel", "hasPart", "(I)Z"⟩, 86)]
theorem lw_r4 : ∀ q ∈ lw_privs_4, lw_okq q := List.forall_mem_cons.mpr ⟨lw_p48, List.forall_mem_cons.mpr ⟨lw_p49, List.forall_mem_cons.mpr ⟨lw_p50, List.forall_mem_cons.mpr ⟨lw_p51, List.forall_mem_cons.mpr ⟨lw_p52, List.forall_mem_cons.mpr ⟨lw_p53, List.forall_mem_cons.mpr ⟨lw_p54, List.forall_mem_cons.mpr ⟨lw_p55, List.forall_mem_cons.mpr ⟨lw_p56, List.forall_mem_cons.mpr ⟨lw_p57, List.forall_mem_cons.mpr ⟨lw_p58, List.forall_mem_cons.mpr ⟨lw_p59, List.forall_mem_cons.mpr ⟨lw_p60, List.forall_mem_cons.mpr ⟨lw_p61, List.forall_mem_cons.mpr ⟨lw_p62, List.forall_mem_cons.mpr ⟨lw_p63, fun _ h => absurd h List.not_mem_nil⟩⟩⟩⟩⟩⟩⟩⟩⟩⟩⟩⟩⟩⟩⟩⟩
theorem lw_p64 : lw_okq (⟨"AxiomBookModel", "hasDollar", "()Z"⟩, 86) := ⟨⟨by decide +kernel, by decide +kernel⟩, List.mem_of_getElem? (i := 1066) (by decide +kernel), List.mem_of_getElem? (i := 1372) (by decide +kernel), List.mem_of_getElem? (i := 1373) (by decide +kernel)⟩
theorem lw_p65 : lw_okq (⟨"AxiomBookModel", "isKeyword", "()Z"⟩, 86) := ⟨⟨by decide +kernel, by decide +kernel⟩, List.mem_of_getElem? (i := 1066) (by decide +kernel), List.mem_of_getElem? (i := 1376) (by decide +kernel), List.mem_of_getElem? (i := 1377) (by decide +kernel)⟩
theorem lw_p66 : lw_okq (⟨"AxiomBookModel", "token", "()I"⟩, 86) := ⟨⟨by decide +kernel, by decide +kernel⟩, List.mem_of_getElem? (i := 1066) (by decide +kernel), List.mem_of_getElem? (i := 1380) (by decide +kernel), List.mem_of_getElem? (i := 1381) (by decide +kernel)⟩
theorem lw_p67 : lw_okq (⟨"AxiomBookModel", "outside", "()I"⟩, 86) := ⟨⟨by decide +kernel, by decide +kernel⟩, List.mem_of_getElem? (i := 1066) (by decide +kernel), List.mem_of_getElem? (i := 1384) (by decide +kernel), List.mem_of_getElem? (i := 1385) (by decide +kernel)⟩
theorem lw_p68 : lw_okq (⟨"AxiomBookModel", "closeBlock", "()V"⟩, 86) := ⟨⟨by decide +kernel, by decide +kernel⟩, List.mem_of_getElem? (i := 1066) (by decide +kernel), List.mem_of_getElem? (i := 1388) (by decide +kernel), List.mem_of_getElem? (i := 1389) (by decide +kernel)⟩
theorem lw_p69 : lw_okq (⟨"AxiomBookModel", "isLabel", "()Z"⟩, 86) := ⟨⟨by decide +kernel, by decide +kernel⟩, List.mem_of_getElem? (i := 1066) (by decide +kernel), List.mem_of_getElem? (i := 1392) (by decide +kernel), List.mem_of_getElem? (i := 1393) (by decide +kernel)⟩
theorem lw_p70 : lw_okq (⟨"AxiomBookModel", "labelHere", "()I"⟩, 86) := ⟨⟨by decide +kernel, by decide +kernel⟩, List.mem_of_getElem? (i := 1066) (by decide +kernel), List.mem_of_getElem? (i := 1396) (by decide +kernel), List.mem_of_getElem? (i := 1397) (by decide +kernel)⟩
theorem lw_p71 : lw_okq (⟨"AxiomBookModel", "same", "(II)Z"⟩, 86) := ⟨⟨by decide +kernel, by decide +kernel⟩, List.mem_of_getElem? (i := 1066) (by decide +kernel), List.mem_of_getElem? (i := 1400) (by decide +kernel), List.mem_of_getElem? (i := 1401) (by decide +kernel)⟩
theorem lw_p72 : lw_okq (⟨"AxiomBookModel", "symbolHere", "()I"⟩, 86) := ⟨⟨by decide +kernel, by decide +kernel⟩, List.mem_of_getElem? (i := 1066) (by decide +kernel), List.mem_of_getElem? (i := 1404) (by decide +kernel), List.mem_of_getElem? (i := 1405) (by decide +kernel)⟩
theorem lw_p73 : lw_okq (⟨"AxiomBookModel", "kindOf", "()I"⟩, 86) := ⟨⟨by decide +kernel, by decide +kernel⟩, List.mem_of_getElem? (i := 1066) (by decide +kernel), List.mem_of_getElem? (i := 1408) (by decide +kernel), List.mem_of_getElem? (i := 1409) (by decide +kernel)⟩
theorem lw_p74 : lw_okq (⟨"AxiomBookModel", "declared", "()I"⟩, 86) := ⟨⟨by decide +kernel, by decide +kernel⟩, List.mem_of_getElem? (i := 1066) (by decide +kernel), List.mem_of_getElem? (i := 1412) (by decide +kernel), List.mem_of_getElem? (i := 1413) (by decide +kernel)⟩
theorem lw_p75 : lw_okq (⟨"AxiomBookModel", "distinct", "()I"⟩, 86) := ⟨⟨by decide +kernel, by decide +kernel⟩, List.mem_of_getElem? (i := 1066) (by decide +kernel), List.mem_of_getElem? (i := 1416) (by decide +kernel), List.mem_of_getElem? (i := 1417) (by decide +kernel)⟩
theorem lw_p76 : lw_okq (⟨"AxiomBookModel", "isOpenPair", "(II)Z"⟩, 86) := ⟨⟨by decide +kernel, by decide +kernel⟩, List.mem_of_getElem? (i := 1066) (by decide +kernel), List.mem_of_getElem? (i := 1420) (by decide +kernel), List.mem_of_getElem? (i := 1421) (by decide +kernel)⟩
theorem lw_p77 : lw_okq (⟨"AxiomBookModel", "openPair", "(II)V"⟩, 86) := ⟨⟨by decide +kernel, by decide +kernel⟩, List.mem_of_getElem? (i := 1066) (by decide +kernel), List.mem_of_getElem? (i := 1424) (by decide +kernel), List.mem_of_getElem? (i := 1425) (by decide +kernel)⟩
theorem lw_p78 : lw_okq (⟨"AxiomBookModel", "typed", "()I"⟩, 86) := ⟨⟨by decide +kernel, by decide +kernel⟩, List.mem_of_getElem? (i := 1066) (by decide +kernel), List.mem_of_getElem? (i := 1428) (by decide +kernel), List.mem_of_getElem? (i := 1429) (by decide +kernel)⟩
theorem lw_p79 : lw_okq (⟨"AxiomBookModel", "endStatement", "()V"⟩, 86) := ⟨⟨by decide +kernel, by decide +kernel⟩, List.mem_of_getElem? (i := 1066) (by decide +kernel), List.mem_of_getElem? (i := 1432) (by decide +kernel), List.mem_of_getElem? (i := 1433) (by decide +kernel)⟩
def lw_privs_5 : List (MethodName × Nat) := [(⟨"AxiomBookModel", "hasDollar", "()Z"⟩, 86), (⟨"AxiomBookModel", "isKeyword", "()Z"⟩, 86), (⟨"AxiomBookModel", "token", "()I"⟩, 86), (⟨"AxiomBookModel", "outside", "()I"⟩, 86), (⟨"AxiomBookModel", "closeBlock", "()V"⟩, 86), (⟨"AxiomBookModel", "isLabel", "()Z"⟩, 86), (⟨"AxiomBookModel", "labelHere", "()I"⟩, 86), (⟨"AxiomBookModel", "same", "(II)Z"⟩, 86), (⟨"AxiomBookModel", "symbolHere", "()I"⟩, 86), (⟨"AxiomBookModel", "kindOf", "()I"⟩, 86), (⟨"AxiomBookModel", "declared", "()I"⟩, 86), (⟨"AxiomBookModel", "distinct", "()I"⟩, 86), (⟨"AxiomBookModel", "isOpenPair", "(II)Z"⟩, 86), (⟨"AxiomBookModel", "openPair", "(II)V"⟩, 86), (⟨"AxiomBookModel", "typed", "()I"⟩, 86), (⟨"AxiomBookModel", "endStatement", "()V"⟩, 86)]
theorem lw_r5 : ∀ q ∈ lw_privs_5, lw_okq q := List.forall_mem_cons.mpr ⟨lw_p64, List.forall_mem_cons.mpr ⟨lw_p65, List.forall_mem_cons.mpr ⟨lw_p66, List.forall_mem_cons.mpr ⟨lw_p67, List.forall_mem_cons.mpr ⟨lw_p68, List.forall_mem_cons.mpr ⟨lw_p69, List.forall_mem_cons.mpr ⟨lw_p70, List.forall_mem_cons.mpr ⟨lw_p71, List.forall_mem_cons.mpr ⟨lw_p72, List.forall_mem_cons.mpr ⟨lw_p73, List.forall_mem_cons.mpr ⟨lw_p74, List.forall_mem_cons.mpr ⟨lw_p75, List.forall_mem_cons.mpr ⟨lw_p76, List.forall_mem_cons.mpr ⟨lw_p77, List.forall_mem_cons.mpr ⟨lw_p78, List.forall_mem_cons.mpr ⟨lw_p79, fun _ h => absurd h List.not_mem_nil⟩⟩⟩⟩⟩⟩⟩⟩⟩⟩⟩⟩⟩⟩⟩⟩
theorem lw_p80 : lw_okq (⟨"AxiomBookModel", "frameOf", "(I)V"⟩, 86) := ⟨⟨by decide +kernel, by decide +kernel⟩, List.mem_of_getElem? (i := 1066) (by decide +kernel), List.mem_of_getElem? (i := 1436) (by decide +kernel), List.mem_of_getElem? (i := 1437) (by decide +kernel)⟩
theorem lw_p81 : lw_okq (⟨"AxiomBookModel", "needs", "(II)V"⟩, 86) := ⟨⟨by decide +kernel, by decide +kernel⟩, List.mem_of_getElem? (i := 1066) (by decide +kernel), List.mem_of_getElem? (i := 1440) (by decide +kernel), List.mem_of_getElem? (i := 1441) (by decide +kernel)⟩
theorem lw_p82 : lw_okq (⟨"AxiomBookModel", "isConstant", "(I)Z"⟩, 86) := ⟨⟨by decide +kernel, by decide +kernel⟩, List.mem_of_getElem? (i := 1066) (by decide +kernel), List.mem_of_getElem? (i := 1444) (by decide +kernel), List.mem_of_getElem? (i := 1445) (by decide +kernel)⟩
theorem lw_p83 : lw_okq (⟨"AxiomBookModel", "takeSymbol", "(I)V"⟩, 86) := ⟨⟨by decide +kernel, by decide +kernel⟩, List.mem_of_getElem? (i := 1066) (by decide +kernel), List.mem_of_getElem? (i := 1448) (by decide +kernel), List.mem_of_getElem? (i := 1449) (by decide +kernel)⟩
theorem lw_p84 : lw_okq (⟨"AxiomBookModel", "formula", "()I"⟩, 86) := ⟨⟨by decide +kernel, by decide +kernel⟩, List.mem_of_getElem? (i := 1066) (by decide +kernel), List.mem_of_getElem? (i := 1452) (by decide +kernel), List.mem_of_getElem? (i := 1453) (by decide +kernel)⟩
theorem lw_p85 : lw_okq (⟨"AxiomBookModel", "proof", "()I"⟩, 86) := ⟨⟨by decide +kernel, by decide +kernel⟩, List.mem_of_getElem? (i := 1066) (by decide +kernel), List.mem_of_getElem? (i := 1456) (by decide +kernel), List.mem_of_getElem? (i := 1457) (by decide +kernel)⟩
theorem lw_p86 : lw_okq (⟨"AxiomBookModel", "forgetWork", "()V"⟩, 86) := ⟨⟨by decide +kernel, by decide +kernel⟩, List.mem_of_getElem? (i := 1066) (by decide +kernel), List.mem_of_getElem? (i := 1460) (by decide +kernel), List.mem_of_getElem? (i := 1461) (by decide +kernel)⟩
theorem lw_p87 : lw_okq (⟨"AxiomBookModel", "isStatement", "(I)Z"⟩, 86) := ⟨⟨by decide +kernel, by decide +kernel⟩, List.mem_of_getElem? (i := 1066) (by decide +kernel), List.mem_of_getElem? (i := 1476) (by decide +kernel), List.mem_of_getElem? (i := 1477) (by decide +kernel)⟩
theorem lw_p88 : lw_okq (⟨"AxiomBookModel", "at", "(I)I"⟩, 86) := ⟨⟨by decide +kernel, by decide +kernel⟩, List.mem_of_getElem? (i := 1066) (by decide +kernel), List.mem_of_getElem? (i := 1480) (by decide +kernel), List.mem_of_getElem? (i := 1481) (by decide +kernel)⟩
theorem lw_p89 : lw_okq (⟨"AxiomBookModel", "hypotheses", "(I)I"⟩, 86) := ⟨⟨by decide +kernel, by decide +kernel⟩, List.mem_of_getElem? (i := 1066) (by decide +kernel), List.mem_of_getElem? (i := 1484) (by decide +kernel), List.mem_of_getElem? (i := 1485) (by decide +kernel)⟩
theorem lw_p90 : lw_okq (⟨"AxiomBookModel", "isBit", "([JII)Z"⟩, 86) := ⟨⟨by decide +kernel, by decide +kernel⟩, List.mem_of_getElem? (i := 1066) (by decide +kernel), List.mem_of_getElem? (i := 1488) (by decide +kernel), List.mem_of_getElem? (i := 1489) (by decide +kernel)⟩
theorem lw_p91 : lw_okq (⟨"AxiomBookModel", "framePair", "(II)I"⟩, 86) := ⟨⟨by decide +kernel, by decide +kernel⟩, List.mem_of_getElem? (i := 1066) (by decide +kernel), List.mem_of_getElem? (i := 1492) (by decide +kernel), List.mem_of_getElem? (i := 1493) (by decide +kernel)⟩
theorem lw_p92 : lw_okq (⟨"AxiomBookModel", "isMandatory", "(II)Z"⟩, 86) := ⟨⟨by decide +kernel, by decide +kernel⟩, List.mem_of_getElem? (i := 1066) (by decide +kernel), List.mem_of_getElem? (i := 1496) (by decide +kernel), List.mem_of_getElem? (i := 1497) (by decide +kernel)⟩
theorem lw_p93 : lw_okq (⟨"AxiomBookModel", "apart", "(III)Z"⟩, 86) := ⟨⟨by decide +kernel, by decide +kernel⟩, List.mem_of_getElem? (i := 1066) (by decide +kernel), List.mem_of_getElem? (i := 1500) (by decide +kernel), List.mem_of_getElem? (i := 1501) (by decide +kernel)⟩
theorem lw_p94 : lw_okq (⟨"AxiomBookModel", "isPairAt", "(II)Z"⟩, 86) := ⟨⟨by decide +kernel, by decide +kernel⟩, List.mem_of_getElem? (i := 1066) (by decide +kernel), List.mem_of_getElem? (i := 1504) (by decide +kernel), List.mem_of_getElem? (i := 1505) (by decide +kernel)⟩
theorem lw_p95 : lw_okq (⟨"AxiomBookModel", "isKind", "(II)Z"⟩, 86) := ⟨⟨by decide +kernel, by decide +kernel⟩, List.mem_of_getElem? (i := 1066) (by decide +kernel), List.mem_of_getElem? (i := 1520) (by decide +kernel), List.mem_of_getElem? (i := 1521) (by decide +kernel)⟩
def lw_privs_6 : List (MethodName × Nat) := [(⟨"AxiomBookModel", "frameOf", "(I)V"⟩, 86), (⟨"AxiomBookModel", "needs", "(II)V"⟩, 86), (⟨"AxiomBookModel", "isConstant", "(I)Z"⟩, 86), (⟨"AxiomBookModel", "takeSymbol", "(I)V"⟩, 86), (⟨"AxiomBookModel", "formula", "()I"⟩, 86), (⟨"AxiomBookModel", "proof", "()I"⟩, 86), (⟨"AxiomBookModel", "forgetWork", "()V"⟩, 86), (⟨"AxiomBookModel", "isStatement", "(I)Z"⟩, 86), (⟨"AxiomBookModel", "at", "(I)I"⟩, 86), (⟨"AxiomBookModel", "hypotheses", "(I)I"⟩, 86), (⟨"AxiomBookModel", "isBit", "([JII)Z"⟩, 86), (⟨"AxiomBookModel", "framePair", "(II)I"⟩, 86), (⟨"AxiomBookModel", "isMandatory", "(II)Z"⟩, 86), (⟨"AxiomBookModel", "apart", "(III)Z"⟩, 86), (⟨"AxiomBookModel", "isPairAt", "(II)Z"⟩, 86), (⟨"AxiomBookModel", "isKind", "(II)Z"⟩, 86)]
theorem lw_r6 : ∀ q ∈ lw_privs_6, lw_okq q := List.forall_mem_cons.mpr ⟨lw_p80, List.forall_mem_cons.mpr ⟨lw_p81, List.forall_mem_cons.mpr ⟨lw_p82, List.forall_mem_cons.mpr ⟨lw_p83, List.forall_mem_cons.mpr ⟨lw_p84, List.forall_mem_cons.mpr ⟨lw_p85, List.forall_mem_cons.mpr ⟨lw_p86, List.forall_mem_cons.mpr ⟨lw_p87, List.forall_mem_cons.mpr ⟨lw_p88, List.forall_mem_cons.mpr ⟨lw_p89, List.forall_mem_cons.mpr ⟨lw_p90, List.forall_mem_cons.mpr ⟨lw_p91, List.forall_mem_cons.mpr ⟨lw_p92, List.forall_mem_cons.mpr ⟨lw_p93, List.forall_mem_cons.mpr ⟨lw_p94, List.forall_mem_cons.mpr ⟨lw_p95, fun _ h => absurd h List.not_mem_nil⟩⟩⟩⟩⟩⟩⟩⟩⟩⟩⟩⟩⟩⟩⟩⟩
theorem lw_p96 : lw_okq (⟨"AxiomBookModel", "hypothesis", "(II)I"⟩, 86) := ⟨⟨by decide +kernel, by decide +kernel⟩, List.mem_of_getElem? (i := 1066) (by decide +kernel), List.mem_of_getElem? (i := 1524) (by decide +kernel), List.mem_of_getElem? (i := 1525) (by decide +kernel)⟩
theorem lw_p97 : lw_okq (⟨"AxiomBookModel", "judge", "(I)I"⟩, 86) := ⟨⟨by decide +kernel, by decide +kernel⟩, List.mem_of_getElem? (i := 1066) (by decide +kernel), List.mem_of_getElem? (i := 1532) (by decide +kernel), List.mem_of_getElem? (i := 1533) (by decide +kernel)⟩
theorem lw_p98 : lw_okq (⟨"AxiomBookModel", "isOpen", "(I)Z"⟩, 86) := ⟨⟨by decide +kernel, by decide +kernel⟩, List.mem_of_getElem? (i := 1066) (by decide +kernel), List.mem_of_getElem? (i := 1536) (by decide +kernel), List.mem_of_getElem? (i := 1537) (by decide +kernel)⟩
theorem lw_p99 : lw_okq (⟨"AxiomBookModel", "isOne", "(III)Z"⟩, 86) := ⟨⟨by decide +kernel, by decide +kernel⟩, List.mem_of_getElem? (i := 1066) (by decide +kernel), List.mem_of_getElem? (i := 1540) (by decide +kernel), List.mem_of_getElem? (i := 1541) (by decide +kernel)⟩
theorem lw_p100 : lw_okq (⟨"AxiomBookModel", "proofToken", "(II)I"⟩, 86) := ⟨⟨by decide +kernel, by decide +kernel⟩, List.mem_of_getElem? (i := 1066) (by decide +kernel), List.mem_of_getElem? (i := 1544) (by decide +kernel), List.mem_of_getElem? (i := 1545) (by decide +kernel)⟩
theorem lw_p101 : lw_okq (⟨"AxiomBookModel", "isCompressed", "(I)Z"⟩, 86) := ⟨⟨by decide +kernel, by decide +kernel⟩, List.mem_of_getElem? (i := 1066) (by decide +kernel), List.mem_of_getElem? (i := 1548) (by decide +kernel), List.mem_of_getElem? (i := 1549) (by decide +kernel)⟩
theorem lw_p102 : lw_okq (⟨"AxiomBookModel", "takeLetters", "(I)V"⟩, 86) := ⟨⟨by decide +kernel, by decide +kernel⟩, List.mem_of_getElem? (i := 1066) (by decide +kernel), List.mem_of_getElem? (i := 1552) (by decide +kernel), List.mem_of_getElem? (i := 1553) (by decide +kernel)⟩
theorem lw_p103 : lw_okq (⟨"AxiomBookModel", "listEnd", "(I)I"⟩, 86) := ⟨⟨by decide +kernel, by decide +kernel⟩, List.mem_of_getElem? (i := 1066) (by decide +kernel), List.mem_of_getElem? (i := 1556) (by decide +kernel), List.mem_of_getElem? (i := 1557) (by decide +kernel)⟩
theorem lw_p104 : lw_okq (⟨"AxiomBookModel", "readProof", "(I)Z"⟩, 86) := ⟨⟨by decide +kernel, by decide +kernel⟩, List.mem_of_getElem? (i := 1066) (by decide +kernel), List.mem_of_getElem? (i := 1560) (by decide +kernel), List.mem_of_getElem? (i := 1561) (by decide +kernel)⟩
theorem lw_p105 : lw_okq (⟨"AxiomBookModel", "fails", "(II)Z"⟩, 86) := ⟨⟨by decide +kernel, by decide +kernel⟩, List.mem_of_getElem? (i := 1066) (by decide +kernel), List.mem_of_getElem? (i := 1564) (by decide +kernel), List.mem_of_getElem? (i := 1565) (by decide +kernel)⟩
theorem lw_p106 : lw_okq (⟨"AxiomBookModel", "readList", "(I)Z"⟩, 86) := ⟨⟨by decide +kernel, by decide +kernel⟩, List.mem_of_getElem? (i := 1066) (by decide +kernel), List.mem_of_getElem? (i := 1568) (by decide +kernel), List.mem_of_getElem? (i := 1569) (by decide +kernel)⟩
theorem lw_p107 : lw_okq (⟨"AxiomBookModel", "namedBy", "(II)I"⟩, 86) := ⟨⟨by decide +kernel, by decide +kernel⟩, List.mem_of_getElem? (i := 1066) (by decide +kernel), List.mem_of_getElem? (i := 1572) (by decide +kernel), List.mem_of_getElem? (i := 1573) (by decide +kernel)⟩
theorem lw_p108 : lw_okq (⟨"AxiomBookModel", "mayName", "(II)Z"⟩, 86) := ⟨⟨by decide +kernel, by decide +kernel⟩, List.mem_of_getElem? (i := 1066) (by decide +kernel), List.mem_of_getElem? (i := 1576) (by decide +kernel), List.mem_of_getElem? (i := 1577) (by decide +kernel)⟩
theorem lw_p109 : lw_okq (⟨"AxiomBookModel", "readLetters", "(I)Z"⟩, 86) := ⟨⟨by decide +kernel, by decide +kernel⟩, List.mem_of_getElem? (i := 1066) (by decide +kernel), List.mem_of_getElem? (i := 1580) (by decide +kernel), List.mem_of_getElem? (i := 1581) (by decide +kernel)⟩
theorem lw_p110 : lw_okq (⟨"AxiomBookModel", "runSteps", "(II)Z"⟩, 86) := ⟨⟨by decide +kernel, by decide +kernel⟩, List.mem_of_getElem? (i := 1066) (by decide +kernel), List.mem_of_getElem? (i := 1585) (by decide +kernel), List.mem_of_getElem? (i := 1586) (by decide +kernel)⟩
theorem lw_p111 : lw_okq (⟨"AxiomBookModel", "pushMarked", "(II)Z"⟩, 86) := ⟨⟨by decide +kernel, by decide +kernel⟩, List.mem_of_getElem? (i := 1066) (by decide +kernel), List.mem_of_getElem? (i := 1589) (by decide +kernel), List.mem_of_getElem? (i := 1590) (by decide +kernel)⟩
def lw_privs_7 : List (MethodName × Nat) := [(⟨"AxiomBookModel", "hypothesis", "(II)I"⟩, 86), (⟨"AxiomBookModel", "judge", "(I)I"⟩, 86), (⟨"AxiomBookModel", "isOpen", "(I)Z"⟩, 86), (⟨"AxiomBookModel", "isOne", "(III)Z"⟩, 86), (⟨"AxiomBookModel", "proofToken", "(II)I"⟩, 86), (⟨"AxiomBookModel", "isCompressed", "(I)Z"⟩, 86), (⟨"AxiomBookModel", "takeLetters", "(I)V"⟩, 86), (⟨"AxiomBookModel", "listEnd", "(I)I"⟩, 86), (⟨"AxiomBookModel", "readProof", "(I)Z"⟩, 86), (⟨"AxiomBookModel", "fails", "(II)Z"⟩, 86), (⟨"AxiomBookModel", "readList", "(I)Z"⟩, 86), (⟨"AxiomBookModel", "namedBy", "(II)I"⟩, 86), (⟨"AxiomBookModel", "mayName", "(II)Z"⟩, 86), (⟨"AxiomBookModel", "readLetters", "(I)Z"⟩, 86), (⟨"AxiomBookModel", "runSteps", "(II)Z"⟩, 86), (⟨"AxiomBookModel", "pushMarked", "(II)Z"⟩, 86)]
theorem lw_r7 : ∀ q ∈ lw_privs_7, lw_okq q := List.forall_mem_cons.mpr ⟨lw_p96, List.forall_mem_cons.mpr ⟨lw_p97, List.forall_mem_cons.mpr ⟨lw_p98, List.forall_mem_cons.mpr ⟨lw_p99, List.forall_mem_cons.mpr ⟨lw_p100, List.forall_mem_cons.mpr ⟨lw_p101, List.forall_mem_cons.mpr ⟨lw_p102, List.forall_mem_cons.mpr ⟨lw_p103, List.forall_mem_cons.mpr ⟨lw_p104, List.forall_mem_cons.mpr ⟨lw_p105, List.forall_mem_cons.mpr ⟨lw_p106, List.forall_mem_cons.mpr ⟨lw_p107, List.forall_mem_cons.mpr ⟨lw_p108, List.forall_mem_cons.mpr ⟨lw_p109, List.forall_mem_cons.mpr ⟨lw_p110, List.forall_mem_cons.mpr ⟨lw_p111, fun _ h => absurd h List.not_mem_nil⟩⟩⟩⟩⟩⟩⟩⟩⟩⟩⟩⟩⟩⟩⟩⟩
theorem lw_p112 : lw_okq (⟨"AxiomBookModel", "thing", "(I)I"⟩, 86) := ⟨⟨by decide +kernel, by decide +kernel⟩, List.mem_of_getElem? (i := 1066) (by decide +kernel), List.mem_of_getElem? (i := 1593) (by decide +kernel), List.mem_of_getElem? (i := 1594) (by decide +kernel)⟩
theorem lw_p113 : lw_okq (⟨"AxiomBookModel", "endThing", "(II)V"⟩, 86) := ⟨⟨by decide +kernel, by decide +kernel⟩, List.mem_of_getElem? (i := 1066) (by decide +kernel), List.mem_of_getElem? (i := 1597) (by decide +kernel), List.mem_of_getElem? (i := 1598) (by decide +kernel)⟩
theorem lw_p114 : lw_okq (⟨"AxiomBookModel", "pushHypothesis", "(II)Z"⟩, 86) := ⟨⟨by decide +kernel, by decide +kernel⟩, List.mem_of_getElem? (i := 1066) (by decide +kernel), List.mem_of_getElem? (i := 1601) (by decide +kernel), List.mem_of_getElem? (i := 1602) (by decide +kernel)⟩
theorem lw_p115 : lw_okq (⟨"AxiomBookModel", "pushAssertion", "(III)Z"⟩, 86) := ⟨⟨by decide +kernel, by decide +kernel⟩, List.mem_of_getElem? (i := 1066) (by decide +kernel), List.mem_of_getElem? (i := 1605) (by decide +kernel), List.mem_of_getElem? (i := 1606) (by decide +kernel)⟩
theorem lw_p116 : lw_okq (⟨"AxiomBookModel", "meets", "(III)Z"⟩, 86) := ⟨⟨by decide +kernel, by decide +kernel⟩, List.mem_of_getElem? (i := 1066) (by decide +kernel), List.mem_of_getElem? (i := 1609) (by decide +kernel), List.mem_of_getElem? (i := 1610) (by decide +kernel)⟩
theorem lw_p117 : lw_okq (⟨"AxiomBookModel", "substitute", "(I)I"⟩, 86) := ⟨⟨by decide +kernel, by decide +kernel⟩, List.mem_of_getElem? (i := 1066) (by decide +kernel), List.mem_of_getElem? (i := 1613) (by decide +kernel), List.mem_of_getElem? (i := 1614) (by decide +kernel)⟩
theorem lw_p118 : lw_okq (⟨"AxiomBookModel", "keepApart", "(III)Z"⟩, 86) := ⟨⟨by decide +kernel, by decide +kernel⟩, List.mem_of_getElem? (i := 1066) (by decide +kernel), List.mem_of_getElem? (i := 1617) (by decide +kernel), List.mem_of_getElem? (i := 1618) (by decide +kernel)⟩
theorem lw_p119 : lw_okq (⟨"AxiomBookModel", "compare", "()V"⟩, 86) := ⟨⟨by decide +kernel, by decide +kernel⟩, List.mem_of_getElem? (i := 1066) (by decide +kernel), List.mem_of_getElem? (i := 1637) (by decide +kernel), List.mem_of_getElem? (i := 1638) (by decide +kernel)⟩
theorem lw_p120 : lw_okq (⟨"AxiomBookModel", "writeOut", "(I)I"⟩, 86) := ⟨⟨by decide +kernel, by decide +kernel⟩, List.mem_of_getElem? (i := 1066) (by decide +kernel), List.mem_of_getElem? (i := 1641) (by decide +kernel), List.mem_of_getElem? (i := 1642) (by decide +kernel)⟩
theorem lw_p121 : lw_okq (⟨"AxiomBookModel", "say", "(I)V"⟩, 86) := ⟨⟨by decide +kernel, by decide +kernel⟩, List.mem_of_getElem? (i := 1066) (by decide +kernel), List.mem_of_getElem? (i := 1645) (by decide +kernel), List.mem_of_getElem? (i := 1646) (by decide +kernel)⟩
theorem lw_p122 : lw_okq (⟨"AxiomBookModel", "sayLabel", "(I)V"⟩, 86) := ⟨⟨by decide +kernel, by decide +kernel⟩, List.mem_of_getElem? (i := 1066) (by decide +kernel), List.mem_of_getElem? (i := 1649) (by decide +kernel), List.mem_of_getElem? (i := 1650) (by decide +kernel)⟩
theorem lw_p123 : lw_okq (⟨"AxiomBookModel", "told", "()I"⟩, 86) := ⟨⟨by decide +kernel, by decide +kernel⟩, List.mem_of_getElem? (i := 1066) (by decide +kernel), List.mem_of_getElem? (i := 1653) (by decide +kernel), List.mem_of_getElem? (i := 1654) (by decide +kernel)⟩
theorem lw_p124 : lw_okq (⟨"AxiomBookModel", "compressed", "(II)I"⟩, 86) := ⟨⟨by decide +kernel, by decide +kernel⟩, List.mem_of_getElem? (i := 1066) (by decide +kernel), List.mem_of_getElem? (i := 1657) (by decide +kernel), List.mem_of_getElem? (i := 1658) (by decide +kernel)⟩
theorem lw_p125 : lw_okq (⟨"AxiomBookModel", "goDown", "(I)V"⟩, 86) := ⟨⟨by decide +kernel, by decide +kernel⟩, List.mem_of_getElem? (i := 1066) (by decide +kernel), List.mem_of_getElem? (i := 1661) (by decide +kernel), List.mem_of_getElem? (i := 1662) (by decide +kernel)⟩
theorem lw_p126 : lw_okq (⟨"AxiomBookModel", "indexOf", "(II)I"⟩, 86) := ⟨⟨by decide +kernel, by decide +kernel⟩, List.mem_of_getElem? (i := 1066) (by decide +kernel), List.mem_of_getElem? (i := 1665) (by decide +kernel), List.mem_of_getElem? (i := 1666) (by decide +kernel)⟩
theorem lw_p127 : lw_okq (⟨"AxiomBookModel", "sayNumber", "(I)V"⟩, 86) := ⟨⟨by decide +kernel, by decide +kernel⟩, List.mem_of_getElem? (i := 1066) (by decide +kernel), List.mem_of_getElem? (i := 1669) (by decide +kernel), List.mem_of_getElem? (i := 1670) (by decide +kernel)⟩
def lw_privs_8 : List (MethodName × Nat) := [(⟨"AxiomBookModel", "thing", "(I)I"⟩, 86), (⟨"AxiomBookModel", "endThing", "(II)V"⟩, 86), (⟨"AxiomBookModel", "pushHypothesis", "(II)Z"⟩, 86), (⟨"AxiomBookModel", "pushAssertion", "(III)Z"⟩, 86), (⟨"AxiomBookModel", "meets", "(III)Z"⟩, 86), (⟨"AxiomBookModel", "substitute", "(I)I"⟩, 86), (⟨"AxiomBookModel", "keepApart", "(III)Z"⟩, 86), (⟨"AxiomBookModel", "compare", "()V"⟩, 86), (⟨"AxiomBookModel", "writeOut", "(I)I"⟩, 86), (⟨"AxiomBookModel", "say", "(I)V"⟩, 86), (⟨"AxiomBookModel", "sayLabel", "(I)V"⟩, 86), (⟨"AxiomBookModel", "told", "()I"⟩, 86), (⟨"AxiomBookModel", "compressed", "(II)I"⟩, 86), (⟨"AxiomBookModel", "goDown", "(I)V"⟩, 86), (⟨"AxiomBookModel", "indexOf", "(II)I"⟩, 86), (⟨"AxiomBookModel", "sayNumber", "(I)V"⟩, 86)]
theorem lw_r8 : ∀ q ∈ lw_privs_8, lw_okq q := List.forall_mem_cons.mpr ⟨lw_p112, List.forall_mem_cons.mpr ⟨lw_p113, List.forall_mem_cons.mpr ⟨lw_p114, List.forall_mem_cons.mpr ⟨lw_p115, List.forall_mem_cons.mpr ⟨lw_p116, List.forall_mem_cons.mpr ⟨lw_p117, List.forall_mem_cons.mpr ⟨lw_p118, List.forall_mem_cons.mpr ⟨lw_p119, List.forall_mem_cons.mpr ⟨lw_p120, List.forall_mem_cons.mpr ⟨lw_p121, List.forall_mem_cons.mpr ⟨lw_p122, List.forall_mem_cons.mpr ⟨lw_p123, List.forall_mem_cons.mpr ⟨lw_p124, List.forall_mem_cons.mpr ⟨lw_p125, List.forall_mem_cons.mpr ⟨lw_p126, List.forall_mem_cons.mpr ⟨lw_p127, fun _ h => absurd h List.not_mem_nil⟩⟩⟩⟩⟩⟩⟩⟩⟩⟩⟩⟩⟩⟩⟩⟩
theorem lw_p128 : lw_okq (⟨"AxiomBookModel", "restOn", "(I)V"⟩, 86) := ⟨⟨by decide +kernel, by decide +kernel⟩, List.mem_of_getElem? (i := 1066) (by decide +kernel), List.mem_of_getElem? (i := 1685) (by decide +kernel), List.mem_of_getElem? (i := 1686) (by decide +kernel)⟩
def lw_privs_9 : List (MethodName × Nat) := [(⟨"AxiomBookModel", "restOn", "(I)V"⟩, 86)]
theorem lw_r9 : ∀ q ∈ lw_privs_9, lw_okq q := List.forall_mem_cons.mpr ⟨lw_p128, fun _ h => absurd h List.not_mem_nil⟩
def lw_privs : List (MethodName × Nat) := lw_privs_1 ++ (lw_privs_2 ++ (lw_privs_3 ++ (lw_privs_4 ++ (lw_privs_5 ++ (lw_privs_6 ++ (lw_privs_7 ++ (lw_privs_8 ++ (lw_privs_9))))))))
def lw_tbl : List Cond := k2_sels lw_privs ++ tables_1
theorem lw_privs_ok : ∀ q ∈ lw_privs, lw_okq q := by
  show ∀ q ∈ lw_privs_1 ++ (lw_privs_2 ++ (lw_privs_3 ++ (lw_privs_4 ++ (lw_privs_5 ++ (lw_privs_6 ++ (lw_privs_7 ++ (lw_privs_8 ++ (lw_privs_9)))))))), lw_okq q
  exact List.forall_mem_append.mpr ⟨lw_r1, List.forall_mem_append.mpr ⟨lw_r2, List.forall_mem_append.mpr ⟨lw_r3, List.forall_mem_append.mpr ⟨lw_r4, List.forall_mem_append.mpr ⟨lw_r5, List.forall_mem_append.mpr ⟨lw_r6, List.forall_mem_append.mpr ⟨lw_r7, List.forall_mem_append.mpr ⟨lw_r8, lw_r9⟩⟩⟩⟩⟩⟩⟩⟩
end
section
def RX0 : String := "AxiomBook$Book"
def TX0 : u_T := fun k => match k with
  | 0 => ("AxiomBook$Book", "names", "LAxiomBook$Names;", true)
  | 1 => ("AxiomBook$Book", "text", "[B", true)
  | 2 => ("AxiomBook$Book", "length", "I", false)
  | 3 => ("AxiomBook$Book", "symbols", "I", false)
  | 4 => ("AxiomBook$Book", "variables", "[B", true)
  | 5 => ("AxiomBook$Book", "statements", "I", false)
  | 6 => ("AxiomBook$Book", "kinds", "[I", true)
  | 7 => ("AxiomBook$Book", "depths", "[I", true)
  | 8 => ("AxiomBook$Book", "untils", "[I", true)
  | 9 => ("AxiomBook$Book", "formulas", "LAxiomBook$Rows;", true)
  | 10 => ("AxiomBook$Book", "tokens", "LAxiomBook$Rows;", true)
  | 11 => ("AxiomBook$Book", "named", "LAxiomBook$Rows;", true)
  | 12 => ("AxiomBook$Book", "hypotheses", "LAxiomBook$Rows;", true)
  | 13 => ("AxiomBook$Book", "distinct", "LAxiomBook$Rows;", true)
  | 14 => ("AxiomBook$Book", "activePairs", "LAxiomBook$Rows;", true)
  | 15 => ("AxiomBook$Book", "compressed", "[B", true)
  | 16 => ("AxiomBook$Book", "labelEnds", "[I", true)
  | _ => ("AxiomBook$Book", "axioms", "[J", true)
def tyX0 : Nat → FieldType := fun k => match k with
  | 0 => .object "AxiomBook$Names"
  | 1 => .array .byte
  | 2 => .int
  | 3 => .int
  | 4 => .array .byte
  | 5 => .int
  | 6 => .array .int
  | 7 => .array .int
  | 8 => .array .int
  | 9 => .object "AxiomBook$Rows"
  | 10 => .object "AxiomBook$Rows"
  | 11 => .object "AxiomBook$Rows"
  | 12 => .object "AxiomBook$Rows"
  | 13 => .object "AxiomBook$Rows"
  | 14 => .object "AxiomBook$Rows"
  | 15 => .array .byte
  | 16 => .array .int
  | _ => .array .long
theorem nmX0 : ∀ a, a < 18 → ∀ b, b < 18 → a ≠ b → (TX0 a).2.1 ≠ (TX0 b).2.1 := by decide +kernel
theorem tyX0_ok : ∀ k, k < 18 → parseFieldDescriptor (TX0 k).2.2.1 = some (tyX0 k) := by decide +kernel
abbrev cX0_init : ByteArray := prog_2_method_1_code
def yX0_init : MethodName := ⟨RX0, "<init>", "()V"⟩
abbrev cX0_clear : ByteArray := prog_2_method_2_code
def yX0_clear : MethodName := ⟨RX0, "clear", "()V"⟩
abbrev cX0_isStatement : ByteArray := prog_2_method_3_code
def yX0_isStatement : MethodName := ⟨RX0, "isStatement", "(I)Z"⟩
abbrev cX0_isAssertion : ByteArray := prog_2_method_4_code
def yX0_isAssertion : MethodName := ⟨RX0, "isAssertion", "(I)Z"⟩
abbrev cX0_isProvable : ByteArray := prog_2_method_5_code
def yX0_isProvable : MethodName := ⟨RX0, "isProvable", "(I)Z"⟩
abbrev cX0_isVariable : ByteArray := prog_2_method_6_code
def yX0_isVariable : MethodName := ⟨RX0, "isVariable", "(I)Z"⟩
abbrev cX0_isConstant : ByteArray := prog_2_method_7_code
def yX0_isConstant : MethodName := ⟨RX0, "isConstant", "(I)Z"⟩
abbrev cX0_addSymbol : ByteArray := prog_2_method_8_code
def yX0_addSymbol : MethodName := ⟨RX0, "addSymbol", "(ZII)I"⟩
abbrev cX0_isJust : ByteArray := prog_2_method_9_code
def yX0_isJust : MethodName := ⟨RX0, "isJust", "(III)Z"⟩
abbrev cX0_isInToken : ByteArray := prog_2_method_10_code
def yX0_isInToken : MethodName := ⟨RX0, "isInToken", "(I)Z"⟩
abbrev cX0_noteForm : ByteArray := prog_2_method_11_code
def yX0_noteForm : MethodName := ⟨RX0, "noteForm", "(I)V"⟩
abbrev cX0_noteAxioms : ByteArray := prog_2_method_12_code
def yX0_noteAxioms : MethodName := ⟨RX0, "noteAxioms", "(I)V"⟩
abbrev cX0_axiomUnder : ByteArray := prog_2_method_13_code
def yX0_axiomUnder : MethodName := ⟨RX0, "axiomUnder", "(II)I"⟩
def RX1 : String := "AxiomBook$Machine"
def TX1 : u_T := fun k => match k with
  | 0 => ("AxiomBook$Machine", "stack", "LAxiomBook$Rows;", true)
  | 1 => ("AxiomBook$Machine", "marks", "LAxiomBook$Rows;", true)
  | 2 => ("AxiomBook$Machine", "book", "LAxiomBook$Book;", false)
  | 3 => ("AxiomBook$Machine", "standing", "[I", true)
  | 4 => ("AxiomBook$Machine", "partners", "[J", true)
  | _ => ("AxiomBook$Machine", "others", "[J", true)
def tyX1 : Nat → FieldType := fun k => match k with
  | 0 => .object "AxiomBook$Rows"
  | 1 => .object "AxiomBook$Rows"
  | 2 => .object "AxiomBook$Book"
  | 3 => .array .int
  | 4 => .array .long
  | _ => .array .long
theorem nmX1 : ∀ a, a < 6 → ∀ b, b < 6 → a ≠ b → (TX1 a).2.1 ≠ (TX1 b).2.1 := by decide +kernel
theorem tyX1_ok : ∀ k, k < 6 → parseFieldDescriptor (TX1 k).2.2.1 = some (tyX1 k) := by decide +kernel
abbrev cX1_init : ByteArray := prog_3_method_1_code
def yX1_init : MethodName := ⟨RX1, "<init>", "(LAxiomBook$Book;)V"⟩
abbrev cX1_run : ByteArray := prog_3_method_2_code
def yX1_run : MethodName := ⟨RX1, "run", "(LAxiomBook$Book;LAxiomBook$Proof;I)I"⟩
abbrev cX1_verdict : ByteArray := prog_3_method_3_code
def yX1_verdict : MethodName := ⟨RX1, "verdict", "(LAxiomBook$Book;LAxiomBook$Proof;)I"⟩
abbrev cX1_notePartners : ByteArray := prog_3_method_4_code
def yX1_notePartners : MethodName := ⟨RX1, "notePartners", "(I)V"⟩
abbrev cX1_addPartner : ByteArray := prog_3_method_5_code
def yX1_addPartner : MethodName := ⟨RX1, "addPartner", "(II)V"⟩
abbrev cX1_push : ByteArray := prog_3_method_6_code
def yX1_push : MethodName := ⟨RX1, "push", "(I)I"⟩
abbrev cX1_apply : ByteArray := prog_3_method_7_code
def yX1_apply : MethodName := ⟨RX1, "apply", "(I)I"⟩
abbrev cX1_fit : ByteArray := prog_3_method_8_code
def yX1_fit : MethodName := ⟨RX1, "fit", "(II)I"⟩
abbrev cX1_isInstance : ByteArray := prog_3_method_9_code
def yX1_isInstance : MethodName := ⟨RX1, "isInstance", "(II)Z"⟩
abbrev cX1_keepsApart : ByteArray := prog_3_method_10_code
def yX1_keepsApart : MethodName := ⟨RX1, "keepsApart", "(I)Z"⟩
abbrev cX1_areApart : ByteArray := prog_3_method_11_code
def yX1_areApart : MethodName := ⟨RX1, "areApart", "(II)Z"⟩
abbrev cX1_isPartnerOfOthers : ByteArray := prog_3_method_12_code
def yX1_isPartnerOfOthers : MethodName := ⟨RX1, "isPartnerOfOthers", "(I)Z"⟩
abbrev cX1_sizeOf : ByteArray := prog_3_method_13_code
def yX1_sizeOf : MethodName := ⟨RX1, "sizeOf", "(I)I"⟩
abbrev cX1_pushInstance : ByteArray := prog_3_method_14_code
def yX1_pushInstance : MethodName := ⟨RX1, "pushInstance", "(I)V"⟩
def RX2 : String := "AxiomBook$Names"
def TX2 : u_T := fun k => match k with
  | 0 => ("AxiomBook$Names", "text", "[B", true)
  | 1 => ("AxiomBook$Names", "heads", "[I", true)
  | 2 => ("AxiomBook$Names", "nexts", "[I", true)
  | 3 => ("AxiomBook$Names", "starts", "[I", true)
  | _ => ("AxiomBook$Names", "lengths", "[I", true)
def tyX2 : Nat → FieldType := fun k => match k with
  | 0 => .array .byte
  | 1 => .array .int
  | 2 => .array .int
  | 3 => .array .int
  | _ => .array .int
theorem nmX2 : ∀ a, a < 5 → ∀ b, b < 5 → a ≠ b → (TX2 a).2.1 ≠ (TX2 b).2.1 := by decide +kernel
theorem tyX2_ok : ∀ k, k < 5 → parseFieldDescriptor (TX2 k).2.2.1 = some (tyX2 k) := by decide +kernel
abbrev cX2_init : ByteArray := prog_4_method_1_code
def yX2_init : MethodName := ⟨RX2, "<init>", "()V"⟩
abbrev cX2_clear : ByteArray := prog_4_method_2_code
def yX2_clear : MethodName := ⟨RX2, "clear", "()V"⟩
abbrev cX2_headOf : ByteArray := prog_4_method_3_code
def yX2_headOf : MethodName := ⟨RX2, "headOf", "([BII)I"⟩
abbrev cX2_add : ByteArray := prog_4_method_4_code
def yX2_add : MethodName := ⟨RX2, "add", "(III)V"⟩
abbrev cX2_lookUp : ByteArray := prog_4_method_5_code
def yX2_lookUp : MethodName := ⟨RX2, "lookUp", "([BII)I"⟩
abbrev cX2_isSame : ByteArray := prog_4_method_6_code
def yX2_isSame : MethodName := ⟨RX2, "isSame", "(I[BI)Z"⟩
abbrev cX2_byteOf : ByteArray := prog_4_method_7_code
def yX2_byteOf : MethodName := ⟨RX2, "byteOf", "(II)I"⟩
abbrev cX2_lengthOf : ByteArray := prog_4_method_8_code
def yX2_lengthOf : MethodName := ⟨RX2, "lengthOf", "(I)I"⟩
def RX3 : String := "AxiomBook$Proof"
def TX3 : u_T := fun k => match k with
  | 0 => ("AxiomBook$Proof", "owner", "I", false)
  | 1 => ("AxiomBook$Proof", "steps", "I", false)
  | 2 => ("AxiomBook$Proof", "at", "I", false)
  | 3 => ("AxiomBook$Proof", "names", "[I", true)
  | 4 => ("AxiomBook$Proof", "marked", "[B", true)
  | 5 => ("AxiomBook$Proof", "marks", "I", false)
  | 6 => ("AxiomBook$Proof", "book", "LAxiomBook$Book;", false)
  | 7 => ("AxiomBook$Proof", "known", "[I", true)
  | 8 => ("AxiomBook$Proof", "knownCount", "I", false)
  | 9 => ("AxiomBook$Proof", "isKnown", "[B", true)
  | 10 => ("AxiomBook$Proof", "prefix", "I", false)
  | 11 => ("AxiomBook$Proof", "inNumber", "Z", false)
  | _ => ("AxiomBook$Proof", "mayMark", "Z", false)
def tyX3 : Nat → FieldType := fun k => match k with
  | 0 => .int
  | 1 => .int
  | 2 => .int
  | 3 => .array .int
  | 4 => .array .byte
  | 5 => .int
  | 6 => .object "AxiomBook$Book"
  | 7 => .array .int
  | 8 => .int
  | 9 => .array .byte
  | 10 => .int
  | 11 => .boolean
  | _ => .boolean
theorem nmX3 : ∀ a, a < 13 → ∀ b, b < 13 → a ≠ b → (TX3 a).2.1 ≠ (TX3 b).2.1 := by decide +kernel
theorem tyX3_ok : ∀ k, k < 13 → parseFieldDescriptor (TX3 k).2.2.1 = some (tyX3 k) := by decide +kernel
abbrev cX3_init : ByteArray := prog_5_method_1_code
def yX3_init : MethodName := ⟨RX3, "<init>", "(LAxiomBook$Book;)V"⟩
abbrev cX3_decode : ByteArray := prog_5_method_2_code
def yX3_decode : MethodName := ⟨RX3, "decode", "(LAxiomBook$Book;I)I"⟩
abbrev cX3_isOpen : ByteArray := prog_5_method_3_code
def yX3_isOpen : MethodName := ⟨RX3, "isOpen", "()Z"⟩
abbrev cX3_mayName : ByteArray := prog_5_method_4_code
def yX3_mayName : MethodName := ⟨RX3, "mayName", "(I)Z"⟩
abbrev cX3_decodeLabels : ByteArray := prog_5_method_5_code
def yX3_decodeLabels : MethodName := ⟨RX3, "decodeLabels", "()I"⟩
abbrev cX3_fail : ByteArray := prog_5_method_6_code
def yX3_fail : MethodName := ⟨RX3, "fail", "(II)I"⟩
abbrev cX3_addStep : ByteArray := prog_5_method_7_code
def yX3_addStep : MethodName := ⟨RX3, "addStep", "(I)V"⟩
abbrev cX3_decodeList : ByteArray := prog_5_method_8_code
def yX3_decodeList : MethodName := ⟨RX3, "decodeList", "()I"⟩
abbrev cX3_knowHypotheses : ByteArray := prog_5_method_9_code
def yX3_knowHypotheses : MethodName := ⟨RX3, "knowHypotheses", "()V"⟩
abbrev cX3_know : ByteArray := prog_5_method_10_code
def yX3_know : MethodName := ⟨RX3, "know", "(I)V"⟩
abbrev cX3_decodeLetters : ByteArray := prog_5_method_11_code
def yX3_decodeLetters : MethodName := ⟨RX3, "decodeLetters", "()I"⟩
abbrev cX3_takeLetter : ByteArray := prog_5_method_12_code
def yX3_takeLetter : MethodName := ⟨RX3, "takeLetter", "(I)I"⟩
abbrev cX3_mark : ByteArray := prog_5_method_13_code
def yX3_mark : MethodName := ⟨RX3, "mark", "()I"⟩
abbrev cX3_takeNumber : ByteArray := prog_5_method_14_code
def yX3_takeNumber : MethodName := ⟨RX3, "takeNumber", "(I)I"⟩
def RX4 : String := "AxiomBook$Reader"
def TX4 : u_T := fun k => match k with
  | 0 => ("AxiomBook$Reader", "faultPlace", "I", false)
  | 1 => ("AxiomBook$Reader", "book", "LAxiomBook$Book;", false)
  | 2 => ("AxiomBook$Reader", "scanner", "LAxiomBook$Scanner;", true)
  | 3 => ("AxiomBook$Reader", "scope", "LAxiomBook$Scope;", true)
  | 4 => ("AxiomBook$Reader", "state", "I", false)
  | 5 => ("AxiomBook$Reader", "variable", "Z", false)
  | 6 => ("AxiomBook$Reader", "kind", "I", false)
  | 7 => ("AxiomBook$Reader", "labelStart", "I", false)
  | 8 => ("AxiomBook$Reader", "labelLength", "I", false)
  | 9 => ("AxiomBook$Reader", "taken", "I", false)
  | _ => ("AxiomBook$Reader", "apart", "[I", true)
def tyX4 : Nat → FieldType := fun k => match k with
  | 0 => .int
  | 1 => .object "AxiomBook$Book"
  | 2 => .object "AxiomBook$Scanner"
  | 3 => .object "AxiomBook$Scope"
  | 4 => .int
  | 5 => .boolean
  | 6 => .int
  | 7 => .int
  | 8 => .int
  | 9 => .int
  | _ => .array .int
theorem nmX4 : ∀ a, a < 11 → ∀ b, b < 11 → a ≠ b → (TX4 a).2.1 ≠ (TX4 b).2.1 := by decide +kernel
theorem tyX4_ok : ∀ k, k < 11 → parseFieldDescriptor (TX4 k).2.2.1 = some (tyX4 k) := by decide +kernel
abbrev cX4_init : ByteArray := prog_6_method_1_code
def yX4_init : MethodName := ⟨RX4, "<init>", "(LAxiomBook$Book;)V"⟩
abbrev cX4_readBook : ByteArray := prog_6_method_2_code
def yX4_readBook : MethodName := ⟨RX4, "readBook", "(LAxiomBook$Book;)I"⟩
abbrev cX4_takeLabel : ByteArray := prog_6_method_3_code
def yX4_takeLabel : MethodName := ⟨RX4, "takeLabel", "()I"⟩
abbrev cX4_namedByToken : ByteArray := prog_6_method_4_code
def yX4_namedByToken : MethodName := ⟨RX4, "namedByToken", "()I"⟩
abbrev cX4_takeOutside : ByteArray := prog_6_method_5_code
def yX4_takeOutside : MethodName := ⟨RX4, "takeOutside", "(I)I"⟩
abbrev cX4_begin : ByteArray := prog_6_method_6_code
def yX4_begin : MethodName := ⟨RX4, "begin", "(I)I"⟩
abbrev cX4_takeKind : ByteArray := prog_6_method_7_code
def yX4_takeKind : MethodName := ⟨RX4, "takeKind", "(I)I"⟩
abbrev cX4_takeDeclared : ByteArray := prog_6_method_8_code
def yX4_takeDeclared : MethodName := ⟨RX4, "takeDeclared", "(I)I"⟩
abbrev cX4_takeSeparated : ByteArray := prog_6_method_9_code
def yX4_takeSeparated : MethodName := ⟨RX4, "takeSeparated", "(I)I"⟩
abbrev cX4_takeSymbol : ByteArray := prog_6_method_10_code
def yX4_takeSymbol : MethodName := ⟨RX4, "takeSymbol", "()I"⟩
abbrev cX4_mayStand : ByteArray := prog_6_method_11_code
def yX4_mayStand : MethodName := ⟨RX4, "mayStand", "(I)Z"⟩
abbrev cX4_takeEnd : ByteArray := prog_6_method_12_code
def yX4_takeEnd : MethodName := ⟨RX4, "takeEnd", "(I)I"⟩
abbrev cX4_takeProofToken : ByteArray := prog_6_method_13_code
def yX4_takeProofToken : MethodName := ⟨RX4, "takeProofToken", "(I)I"⟩
abbrev cX4_endStatement : ByteArray := prog_6_method_14_code
def yX4_endStatement : MethodName := ⟨RX4, "endStatement", "()V"⟩
def RX5 : String := "AxiomBook$Rows"
def TX5 : u_T := fun k => match k with
  | 0 => ("AxiomBook$Rows", "items", "[I", false)
  | 1 => ("AxiomBook$Rows", "starts", "[I", true)
  | 2 => ("AxiomBook$Rows", "used", "I", false)
  | _ => ("AxiomBook$Rows", "rows", "I", false)
def tyX5 : Nat → FieldType := fun k => match k with
  | 0 => .array .int
  | 1 => .array .int
  | 2 => .int
  | _ => .int
theorem nmX5 : ∀ a, a < 4 → ∀ b, b < 4 → a ≠ b → (TX5 a).2.1 ≠ (TX5 b).2.1 := by decide +kernel
theorem tyX5_ok : ∀ k, k < 4 → parseFieldDescriptor (TX5 k).2.2.1 = some (tyX5 k) := by decide +kernel
abbrev cX5_init : ByteArray := prog_7_method_1_code
def yX5_init : MethodName := ⟨RX5, "<init>", "(I)V"⟩
abbrev cX5_clear : ByteArray := prog_7_method_2_code
def yX5_clear : MethodName := ⟨RX5, "clear", "()V"⟩
abbrev cX5_add : ByteArray := prog_7_method_3_code
def yX5_add : MethodName := ⟨RX5, "add", "(I)V"⟩
abbrev cX5_endRow : ByteArray := prog_7_method_4_code
def yX5_endRow : MethodName := ⟨RX5, "endRow", "()V"⟩
abbrev cX5_size : ByteArray := prog_7_method_5_code
def yX5_size : MethodName := ⟨RX5, "size", "(I)I"⟩
abbrev cX5_get : ByteArray := prog_7_method_6_code
def yX5_get : MethodName := ⟨RX5, "get", "(II)I"⟩
abbrev cX5_addFrom : ByteArray := prog_7_method_7_code
def yX5_addFrom : MethodName := ⟨RX5, "addFrom", "(LAxiomBook$Rows;II)V"⟩
abbrev cX5_dropUnderLast : ByteArray := prog_7_method_8_code
def yX5_dropUnderLast : MethodName := ⟨RX5, "dropUnderLast", "(I)V"⟩
abbrev cX5_hasRow : ByteArray := prog_7_method_9_code
def yX5_hasRow : MethodName := ⟨RX5, "hasRow", "(ILAxiomBook$Rows;I)Z"⟩
def RX6 : String := "AxiomBook$Scanner"
def TX6 : u_T := fun k => match k with
  | 0 => ("AxiomBook$Scanner", "start", "I", false)
  | 1 => ("AxiomBook$Scanner", "end", "I", false)
  | 2 => ("AxiomBook$Scanner", "fault", "I", false)
  | 3 => ("AxiomBook$Scanner", "text", "[B", false)
  | _ => ("AxiomBook$Scanner", "length", "I", false)
def tyX6 : Nat → FieldType := fun k => match k with
  | 0 => .int
  | 1 => .int
  | 2 => .int
  | 3 => .array .byte
  | _ => .int
theorem nmX6 : ∀ a, a < 5 → ∀ b, b < 5 → a ≠ b → (TX6 a).2.1 ≠ (TX6 b).2.1 := by decide +kernel
theorem tyX6_ok : ∀ k, k < 5 → parseFieldDescriptor (TX6 k).2.2.1 = some (tyX6 k) := by decide +kernel
abbrev cX6_init : ByteArray := prog_8_method_1_code
def yX6_init : MethodName := ⟨RX6, "<init>", "([B)V"⟩
abbrev cX6_open : ByteArray := prog_8_method_2_code
def yX6_open : MethodName := ⟨RX6, "open", "([BI)V"⟩
abbrev cX6_advance : ByteArray := prog_8_method_3_code
def yX6_advance : MethodName := ⟨RX6, "advance", "()Z"⟩
abbrev cX6_cut : ByteArray := prog_8_method_4_code
def yX6_cut : MethodName := ⟨RX6, "cut", "()V"⟩
abbrev cX6_isBlank : ByteArray := prog_8_method_5_code
def yX6_isBlank : MethodName := ⟨RX6, "isBlank", "(I)Z"⟩
abbrev cX6_hasWrongByte : ByteArray := prog_8_method_6_code
def yX6_hasWrongByte : MethodName := ⟨RX6, "hasWrongByte", "()Z"⟩
abbrev cX6_isDollarAnd : ByteArray := prog_8_method_7_code
def yX6_isDollarAnd : MethodName := ⟨RX6, "isDollarAnd", "(I)Z"⟩
abbrev cX6_hasCommentMark : ByteArray := prog_8_method_8_code
def yX6_hasCommentMark : MethodName := ⟨RX6, "hasCommentMark", "()Z"⟩
abbrev cX6_word : ByteArray := prog_8_method_9_code
def yX6_word : MethodName := ⟨RX6, "word", "()I"⟩
abbrev cX6_keyword : ByteArray := prog_8_method_10_code
def yX6_keyword : MethodName := ⟨RX6, "keyword", "()I"⟩
abbrev cX6_isLabel : ByteArray := prog_8_method_11_code
def yX6_isLabel : MethodName := ⟨RX6, "isLabel", "()Z"⟩
def RX7 : String := "AxiomBook$Scope"
def TX7 : u_T := fun k => match k with
  | 0 => ("AxiomBook$Scope", "depth", "I", false)
  | 1 => ("AxiomBook$Scope", "outerVariables", "[I", true)
  | 2 => ("AxiomBook$Scope", "outerHypotheses", "[I", true)
  | 3 => ("AxiomBook$Scope", "variables", "[I", true)
  | 4 => ("AxiomBook$Scope", "variableCount", "I", false)
  | 5 => ("AxiomBook$Scope", "active", "[B", true)
  | 6 => ("AxiomBook$Scope", "floating", "[B", true)
  | 7 => ("AxiomBook$Scope", "needs", "[I", true)
  | 8 => ("AxiomBook$Scope", "hypotheses", "[I", true)
  | 9 => ("AxiomBook$Scope", "hypothesisCount", "I", false)
  | 10 => ("AxiomBook$Scope", "pairs", "[I", true)
  | 11 => ("AxiomBook$Scope", "pairDepths", "[I", true)
  | _ => ("AxiomBook$Scope", "pairCount", "I", false)
def tyX7 : Nat → FieldType := fun k => match k with
  | 0 => .int
  | 1 => .array .int
  | 2 => .array .int
  | 3 => .array .int
  | 4 => .int
  | 5 => .array .byte
  | 6 => .array .byte
  | 7 => .array .int
  | 8 => .array .int
  | 9 => .int
  | 10 => .array .int
  | 11 => .array .int
  | _ => .int
theorem nmX7 : ∀ a, a < 13 → ∀ b, b < 13 → a ≠ b → (TX7 a).2.1 ≠ (TX7 b).2.1 := by decide +kernel
theorem tyX7_ok : ∀ k, k < 13 → parseFieldDescriptor (TX7 k).2.2.1 = some (tyX7 k) := by decide +kernel
abbrev cX7_init : ByteArray := prog_9_method_1_code
def yX7_init : MethodName := ⟨RX7, "<init>", "()V"⟩
abbrev cX7_clear : ByteArray := prog_9_method_2_code
def yX7_clear : MethodName := ⟨RX7, "clear", "()V"⟩
abbrev cX7_openBlock : ByteArray := prog_9_method_3_code
def yX7_openBlock : MethodName := ⟨RX7, "openBlock", "()Z"⟩
abbrev cX7_closeBlock : ByteArray := prog_9_method_4_code
def yX7_closeBlock : MethodName := ⟨RX7, "closeBlock", "(LAxiomBook$Book;)V"⟩
abbrev cX7_dropHypothesis : ByteArray := prog_9_method_5_code
def yX7_dropHypothesis : MethodName := ⟨RX7, "dropHypothesis", "(LAxiomBook$Book;I)V"⟩
abbrev cX7_dropPairs : ByteArray := prog_9_method_6_code
def yX7_dropPairs : MethodName := ⟨RX7, "dropPairs", "()V"⟩
abbrev cX7_isActive : ByteArray := prog_9_method_7_code
def yX7_isActive : MethodName := ⟨RX7, "isActive", "(I)Z"⟩
abbrev cX7_isTyped : ByteArray := prog_9_method_8_code
def yX7_isTyped : MethodName := ⟨RX7, "isTyped", "(I)Z"⟩
abbrev cX7_activate : ByteArray := prog_9_method_9_code
def yX7_activate : MethodName := ⟨RX7, "activate", "(I)V"⟩
abbrev cX7_addHypothesis : ByteArray := prog_9_method_10_code
def yX7_addHypothesis : MethodName := ⟨RX7, "addHypothesis", "(LAxiomBook$Book;I)V"⟩
abbrev cX7_addNeeds : ByteArray := prog_9_method_11_code
def yX7_addNeeds : MethodName := ⟨RX7, "addNeeds", "(LAxiomBook$Book;II)V"⟩
abbrev cX7_addPair : ByteArray := prog_9_method_12_code
def yX7_addPair : MethodName := ⟨RX7, "addPair", "(II)Z"⟩
abbrev cX7_makeFrame : ByteArray := prog_9_method_13_code
def yX7_makeFrame : MethodName := ⟨RX7, "makeFrame", "(LAxiomBook$Book;I)V"⟩
def RX8 : String := "AxiomBook$Sheet"
def TX8 : u_T := fun k => match k with
  | 0 => ("AxiomBook$Sheet", "bytes", "[B", true)
  | 1 => ("AxiomBook$Sheet", "length", "I", false)
  | _ => ("AxiomBook$Sheet", "overflowed", "Z", false)
def tyX8 : Nat → FieldType := fun k => match k with
  | 0 => .array .byte
  | 1 => .int
  | _ => .boolean
theorem nmX8 : ∀ a, a < 3 → ∀ b, b < 3 → a ≠ b → (TX8 a).2.1 ≠ (TX8 b).2.1 := by decide +kernel
theorem tyX8_ok : ∀ k, k < 3 → parseFieldDescriptor (TX8 k).2.2.1 = some (tyX8 k) := by decide +kernel
abbrev cX8_init : ByteArray := prog_10_method_1_code
def yX8_init : MethodName := ⟨RX8, "<init>", "()V"⟩
abbrev cX8_clear : ByteArray := prog_10_method_2_code
def yX8_clear : MethodName := ⟨RX8, "clear", "()V"⟩
abbrev cX8_put : ByteArray := prog_10_method_3_code
def yX8_put : MethodName := ⟨RX8, "put", "(I)V"⟩
abbrev cX8_putName : ByteArray := prog_10_method_4_code
def yX8_putName : MethodName := ⟨RX8, "putName", "(LAxiomBook$Names;I)V"⟩
def RX9 : String := "AxiomBook$Teller"
def TX9 : u_T := fun k => match k with
  | 0 => ("AxiomBook$Teller", "book", "LAxiomBook$Book;", false)
  | 1 => ("AxiomBook$Teller", "proof", "LAxiomBook$Proof;", false)
  | 2 => ("AxiomBook$Teller", "nodes", "I", false)
  | 3 => ("AxiomBook$Teller", "root", "I", false)
  | 4 => ("AxiomBook$Teller", "labels", "[I", true)
  | 5 => ("AxiomBook$Teller", "taken", "LAxiomBook$Rows;", true)
  | 6 => ("AxiomBook$Teller", "uses", "[I", true)
  | 7 => ("AxiomBook$Teller", "heads", "[I", true)
  | 8 => ("AxiomBook$Teller", "nexts", "[I", true)
  | 9 => ("AxiomBook$Teller", "markedNodes", "[I", true)
  | 10 => ("AxiomBook$Teller", "stack", "[I", true)
  | 11 => ("AxiomBook$Teller", "done", "[I", true)
  | 12 => ("AxiomBook$Teller", "depth", "I", false)
  | 13 => ("AxiomBook$Teller", "labelNumbers", "[I", true)
  | 14 => ("AxiomBook$Teller", "nodeNumbers", "[I", true)
  | 15 => ("AxiomBook$Teller", "numbers", "I", false)
  | _ => ("AxiomBook$Teller", "digits", "[I", true)
def tyX9 : Nat → FieldType := fun k => match k with
  | 0 => .object "AxiomBook$Book"
  | 1 => .object "AxiomBook$Proof"
  | 2 => .int
  | 3 => .int
  | 4 => .array .int
  | 5 => .object "AxiomBook$Rows"
  | 6 => .array .int
  | 7 => .array .int
  | 8 => .array .int
  | 9 => .array .int
  | 10 => .array .int
  | 11 => .array .int
  | 12 => .int
  | 13 => .array .int
  | 14 => .array .int
  | 15 => .int
  | _ => .array .int
theorem nmX9 : ∀ a, a < 17 → ∀ b, b < 17 → a ≠ b → (TX9 a).2.1 ≠ (TX9 b).2.1 := by decide +kernel
theorem tyX9_ok : ∀ k, k < 17 → parseFieldDescriptor (TX9 k).2.2.1 = some (tyX9 k) := by decide +kernel
abbrev cX9_init : ByteArray := prog_11_method_1_code
def yX9_init : MethodName := ⟨RX9, "<init>", "(LAxiomBook$Book;LAxiomBook$Proof;)V"⟩
abbrev cX9_plant : ByteArray := prog_11_method_2_code
def yX9_plant : MethodName := ⟨RX9, "plant", "(LAxiomBook$Book;LAxiomBook$Proof;)V"⟩
abbrev cX9_nodeOf : ByteArray := prog_11_method_3_code
def yX9_nodeOf : MethodName := ⟨RX9, "nodeOf", "(III)I"⟩
abbrev cX9_takesStack : ByteArray := prog_11_method_4_code
def yX9_takesStack : MethodName := ⟨RX9, "takesStack", "(II)Z"⟩
abbrev cX9_addNode : ByteArray := prog_11_method_5_code
def yX9_addNode : MethodName := ⟨RX9, "addNode", "(IIII)I"⟩
abbrev cX9_writeOut : ByteArray := prog_11_method_6_code
def yX9_writeOut : MethodName := ⟨RX9, "writeOut", "(LAxiomBook$Sheet;)Z"⟩
abbrev cX9_enterRoot : ByteArray := prog_11_method_7_code
def yX9_enterRoot : MethodName := ⟨RX9, "enterRoot", "()V"⟩
abbrev cX9_enter : ByteArray := prog_11_method_8_code
def yX9_enter : MethodName := ⟨RX9, "enter", "(I)V"⟩
abbrev cX9_nextTaken : ByteArray := prog_11_method_9_code
def yX9_nextTaken : MethodName := ⟨RX9, "nextTaken", "()I"⟩
abbrev cX9_compress : ByteArray := prog_11_method_10_code
def yX9_compress : MethodName := ⟨RX9, "compress", "(LAxiomBook$Sheet;)V"⟩
abbrev cX9_numberLabels : ByteArray := prog_11_method_11_code
def yX9_numberLabels : MethodName := ⟨RX9, "numberLabels", "(LAxiomBook$Sheet;)V"⟩
abbrev cX9_leave : ByteArray := prog_11_method_12_code
def yX9_leave : MethodName := ⟨RX9, "leave", "(LAxiomBook$Sheet;)V"⟩
abbrev cX9_putNumber : ByteArray := prog_11_method_13_code
def yX9_putNumber : MethodName := ⟨RX9, "putNumber", "(LAxiomBook$Sheet;I)V"⟩
def RX10 : String := "AxiomBook"
def TX10 : u_T := fun k => match k with
  | 0 => ("AxiomBook", "book", "LAxiomBook$Book;", false)
  | 1 => ("AxiomBook", "draft", "LAxiomBook$Book;", false)
  | 2 => ("AxiomBook", "reader", "LAxiomBook$Reader;", true)
  | 3 => ("AxiomBook", "proof", "LAxiomBook$Proof;", true)
  | 4 => ("AxiomBook", "checker", "LAxiomBook$Machine;", true)
  | 5 => ("AxiomBook", "tracer", "LAxiomBook$Machine;", true)
  | 6 => ("AxiomBook", "teller", "LAxiomBook$Teller;", true)
  | 7 => ("AxiomBook", "told", "LAxiomBook$Sheet;", false)
  | 8 => ("AxiomBook", "blankSheet", "LAxiomBook$Sheet;", false)
  | 9 => ("AxiomBook", "latestPlace", "I", false)
  | _ => ("AxiomBook", "latestStep", "I", false)
def tyX10 : Nat → FieldType := fun k => match k with
  | 0 => .object "AxiomBook$Book"
  | 1 => .object "AxiomBook$Book"
  | 2 => .object "AxiomBook$Reader"
  | 3 => .object "AxiomBook$Proof"
  | 4 => .object "AxiomBook$Machine"
  | 5 => .object "AxiomBook$Machine"
  | 6 => .object "AxiomBook$Teller"
  | 7 => .object "AxiomBook$Sheet"
  | 8 => .object "AxiomBook$Sheet"
  | 9 => .int
  | _ => .int
theorem nmX10 : ∀ a, a < 11 → ∀ b, b < 11 → a ≠ b → (TX10 a).2.1 ≠ (TX10 b).2.1 := by decide +kernel
theorem tyX10_ok : ∀ k, k < 11 → parseFieldDescriptor (TX10 k).2.2.1 = some (tyX10 k) := by decide +kernel
abbrev cX10_init : ByteArray := prog_1_method_1_code
def yX10_init : MethodName := ⟨RX10, "<init>", "()V"⟩
abbrev cX10_feed : ByteArray := prog_1_method_2_code
def yX10_feed : MethodName := ⟨RX10, "feed", "(JJ)I"⟩
abbrev cX10_bytesIn : ByteArray := prog_1_method_3_code
def yX10_bytesIn : MethodName := ⟨RX10, "bytesIn", "(J)I"⟩
abbrev cX10_append : ByteArray := prog_1_method_4_code
def yX10_append : MethodName := ⟨RX10, "append", "(J)V"⟩
abbrev cX10_read : ByteArray := prog_1_method_5_code
def yX10_read : MethodName := ⟨RX10, "read", "()I"⟩
abbrev cX10_forgetAnswers : ByteArray := prog_1_method_6_code
def yX10_forgetAnswers : MethodName := ⟨RX10, "forgetAnswers", "()V"⟩
abbrev cX10_place : ByteArray := prog_1_method_7_code
def yX10_place : MethodName := ⟨RX10, "place", "()I"⟩
abbrev cX10_count : ByteArray := prog_1_method_8_code
def yX10_count : MethodName := ⟨RX10, "count", "(I)I"⟩
abbrev cX10_statement : ByteArray := prog_1_method_9_code
def yX10_statement : MethodName := ⟨RX10, "statement", "(II)I"⟩
abbrev cX10_symbol : ByteArray := prog_1_method_10_code
def yX10_symbol : MethodName := ⟨RX10, "symbol", "(II)I"⟩
abbrev cX10_name : ByteArray := prog_1_method_11_code
def yX10_name : MethodName := ⟨RX10, "name", "(III)I"⟩
abbrev cX10_frame : ByteArray := prog_1_method_12_code
def yX10_frame : MethodName := ⟨RX10, "frame", "(III)I"⟩
abbrev cX10_check : ByteArray := prog_1_method_13_code
def yX10_check : MethodName := ⟨RX10, "check", "(I)I"⟩
abbrev cX10_examine : ByteArray := prog_1_method_14_code
def yX10_examine : MethodName := ⟨RX10, "examine", "(I)I"⟩
abbrev cX10_step : ByteArray := prog_1_method_15_code
def yX10_step : MethodName := ⟨RX10, "step", "()I"⟩
abbrev cX10_trace : ByteArray := prog_1_method_16_code
def yX10_trace : MethodName := ⟨RX10, "trace", "(II)I"⟩
abbrev cX10_thing : ByteArray := prog_1_method_17_code
def yX10_thing : MethodName := ⟨RX10, "thing", "(II)I"⟩
abbrev cX10_tell : ByteArray := prog_1_method_18_code
def yX10_tell : MethodName := ⟨RX10, "tell", "(II)I"⟩
abbrev cX10_print : ByteArray := prog_1_method_19_code
def yX10_print : MethodName := ⟨RX10, "print", "(I)I"⟩
abbrev cX10_writeStatement : ByteArray := prog_1_method_20_code
def yX10_writeStatement : MethodName := ⟨RX10, "writeStatement", "(LAxiomBook$Sheet;I)V"⟩
abbrev cX10_keywordOf : ByteArray := prog_1_method_21_code
def yX10_keywordOf : MethodName := ⟨RX10, "keywordOf", "(I)I"⟩
abbrev cX10_publish : ByteArray := prog_1_method_22_code
def yX10_publish : MethodName := ⟨RX10, "publish", "()I"⟩
abbrev cX10_out : ByteArray := prog_1_method_23_code
def yX10_out : MethodName := ⟨RX10, "out", "(I)I"⟩
abbrev cX10_rests : ByteArray := prog_1_method_24_code
def yX10_rests : MethodName := ⟨RX10, "rests", "(II)I"⟩
abbrev cX10_find : ByteArray := prog_1_method_25_code
def yX10_find : MethodName := ⟨RX10, "find", "()I"⟩
def RX11 : String := "AxiomBookModel"
def TX11 : u_T := fun k => match k with
  | 0 => ("AxiomBookModel", "text", "[I", true)
  | 1 => ("AxiomBookModel", "size", "I", false)
  | 2 => ("AxiomBookModel", "place", "I", false)
  | 3 => ("AxiomBookModel", "stepAt", "I", false)
  | 4 => ("AxiomBookModel", "now", "I", false)
  | 5 => ("AxiomBookModel", "bytes", "[I", true)
  | 6 => ("AxiomBookModel", "symbolAt", "[I", true)
  | 7 => ("AxiomBookModel", "symbolLong", "[I", true)
  | 8 => ("AxiomBookModel", "variable", "[Z", true)
  | 9 => ("AxiomBookModel", "symbols", "[I", true)
  | 10 => ("AxiomBookModel", "kinds", "[I", true)
  | 11 => ("AxiomBookModel", "labelAt", "[I", true)
  | 12 => ("AxiomBookModel", "labelLong", "[I", true)
  | 13 => ("AxiomBookModel", "depths", "[I", true)
  | 14 => ("AxiomBookModel", "from", "[I", true)
  | 15 => ("AxiomBookModel", "many", "[I", true)
  | 16 => ("AxiomBookModel", "proofFrom", "[I", true)
  | 17 => ("AxiomBookModel", "proofMany", "[I", true)
  | 18 => ("AxiomBookModel", "statements", "[I", true)
  | 19 => ("AxiomBookModel", "pool", "[I", true)
  | 20 => ("AxiomBookModel", "proofAt", "[I", true)
  | 21 => ("AxiomBookModel", "proofLong", "[I", true)
  | 22 => ("AxiomBookModel", "active", "[J", true)
  | 23 => ("AxiomBookModel", "mandatory", "[J", true)
  | 24 => ("AxiomBookModel", "pairX", "[I", true)
  | 25 => ("AxiomBookModel", "pairY", "[I", true)
  | 26 => ("AxiomBookModel", "pairBegin", "[I", true)
  | 27 => ("AxiomBookModel", "pairEnd", "[I", true)
  | 28 => ("AxiomBookModel", "pairs", "[I", true)
  | 29 => ("AxiomBookModel", "at", "I", false)
  | 30 => ("AxiomBookModel", "long0", "I", false)
  | 31 => ("AxiomBookModel", "cursor", "I", false)
  | 32 => ("AxiomBookModel", "book", "I", false)
  | 33 => ("AxiomBookModel", "depth", "I", false)
  | 34 => ("AxiomBookModel", "mode", "I", false)
  | 35 => ("AxiomBookModel", "inside", "I", false)
  | 36 => ("AxiomBookModel", "poolMany", "I", false)
  | 37 => ("AxiomBookModel", "proofTokens", "I", false)
  | 38 => ("AxiomBookModel", "activeAt", "[I", true)
  | 39 => ("AxiomBookModel", "typeOf", "[I", true)
  | 40 => ("AxiomBookModel", "isActive", "[Z", true)
  | 41 => ("AxiomBookModel", "openPairs", "[I", true)
  | 42 => ("AxiomBookModel", "openDepth", "[I", true)
  | 43 => ("AxiomBookModel", "openMany", "I", false)
  | 44 => ("AxiomBookModel", "ofThis", "[I", true)
  | 45 => ("AxiomBookModel", "list", "[I", true)
  | 46 => ("AxiomBookModel", "listMany", "I", false)
  | 47 => ("AxiomBookModel", "letters", "[I", true)
  | 48 => ("AxiomBookModel", "letterMany", "I", false)
  | 49 => ("AxiomBookModel", "steps", "[I", true)
  | 50 => ("AxiomBookModel", "stepMany", "I", false)
  | 51 => ("AxiomBookModel", "markStep", "[I", true)
  | 52 => ("AxiomBookModel", "markOf", "[I", true)
  | 53 => ("AxiomBookModel", "marks", "I", false)
  | 54 => ("AxiomBookModel", "fault", "I", false)
  | 55 => ("AxiomBookModel", "faultAt", "I", false)
  | 56 => ("AxiomBookModel", "things", "[I", true)
  | 57 => ("AxiomBookModel", "thingLong", "[I", true)
  | 58 => ("AxiomBookModel", "thingNode", "[I", true)
  | 59 => ("AxiomBookModel", "thingMany", "I", false)
  | 60 => ("AxiomBookModel", "kept", "[I", true)
  | 61 => ("AxiomBookModel", "keptLong", "[I", true)
  | 62 => ("AxiomBookModel", "made", "[I", true)
  | 63 => ("AxiomBookModel", "standFor", "[I", true)
  | 64 => ("AxiomBookModel", "takes", "[I", true)
  | 65 => ("AxiomBookModel", "takeFrom", "[I", true)
  | 66 => ("AxiomBookModel", "takeMany", "[I", true)
  | 67 => ("AxiomBookModel", "takeAll", "I", false)
  | 68 => ("AxiomBookModel", "nodeOf", "[I", true)
  | 69 => ("AxiomBookModel", "traced", "[I", true)
  | 70 => ("AxiomBookModel", "tracedLong", "[I", true)
  | 71 => ("AxiomBookModel", "tracedMany", "I", false)
  | 72 => ("AxiomBookModel", "alike", "[I", true)
  | 73 => ("AxiomBookModel", "sizes", "[I", true)
  | 74 => ("AxiomBookModel", "way", "[I", true)
  | 75 => ("AxiomBookModel", "wayChild", "[I", true)
  | 76 => ("AxiomBookModel", "times", "[I", true)
  | 77 => ("AxiomBookModel", "marked", "[I", true)
  | 78 => ("AxiomBookModel", "named", "[I", true)
  | 79 => ("AxiomBookModel", "out", "[I", true)
  | 80 => ("AxiomBookModel", "outMany", "I", false)
  | 81 => ("AxiomBookModel", "telling", "[I", true)
  | 82 => ("AxiomBookModel", "tellMany", "I", false)
  | 83 => ("AxiomBookModel", "rest", "[Z", true)
  | 84 => ("AxiomBookModel", "turn", "[I", true)
  | _ => ("AxiomBookModel", "turns", "I", false)
def tyX11 : Nat → FieldType := fun k => match k with
  | 0 => .array .int
  | 1 => .int
  | 2 => .int
  | 3 => .int
  | 4 => .int
  | 5 => .array .int
  | 6 => .array .int
  | 7 => .array .int
  | 8 => .array .boolean
  | 9 => .array .int
  | 10 => .array .int
  | 11 => .array .int
  | 12 => .array .int
  | 13 => .array .int
  | 14 => .array .int
  | 15 => .array .int
  | 16 => .array .int
  | 17 => .array .int
  | 18 => .array .int
  | 19 => .array .int
  | 20 => .array .int
  | 21 => .array .int
  | 22 => .array .long
  | 23 => .array .long
  | 24 => .array .int
  | 25 => .array .int
  | 26 => .array .int
  | 27 => .array .int
  | 28 => .array .int
  | 29 => .int
  | 30 => .int
  | 31 => .int
  | 32 => .int
  | 33 => .int
  | 34 => .int
  | 35 => .int
  | 36 => .int
  | 37 => .int
  | 38 => .array .int
  | 39 => .array .int
  | 40 => .array .boolean
  | 41 => .array .int
  | 42 => .array .int
  | 43 => .int
  | 44 => .array .int
  | 45 => .array .int
  | 46 => .int
  | 47 => .array .int
  | 48 => .int
  | 49 => .array .int
  | 50 => .int
  | 51 => .array .int
  | 52 => .array .int
  | 53 => .int
  | 54 => .int
  | 55 => .int
  | 56 => .array .int
  | 57 => .array .int
  | 58 => .array .int
  | 59 => .int
  | 60 => .array .int
  | 61 => .array .int
  | 62 => .array .int
  | 63 => .array .int
  | 64 => .array .int
  | 65 => .array .int
  | 66 => .array .int
  | 67 => .int
  | 68 => .array .int
  | 69 => .array .int
  | 70 => .array .int
  | 71 => .int
  | 72 => .array .int
  | 73 => .array .int
  | 74 => .array .int
  | 75 => .array .int
  | 76 => .array .int
  | 77 => .array .int
  | 78 => .array .int
  | 79 => .array .int
  | 80 => .int
  | 81 => .array .int
  | 82 => .int
  | 83 => .array .boolean
  | 84 => .array .int
  | _ => .int
theorem nmX11 : ∀ a, a < 86 → ∀ b, b < 86 → a ≠ b → (TX11 a).2.1 ≠ (TX11 b).2.1 := by decide +kernel
theorem tyX11_ok : ∀ k, k < 86 → parseFieldDescriptor (TX11 k).2.2.1 = some (tyX11 k) := by decide +kernel
abbrev cX11_init : ByteArray := prog_13_method_1_code
def yX11_init : MethodName := ⟨RX11, "<init>", "()V"⟩
abbrev cX11_feed : ByteArray := prog_13_method_2_code
def yX11_feed : MethodName := ⟨RX11, "feed", "(JJ)I"⟩
abbrev cX11_byteOf : ByteArray := prog_13_method_3_code
def yX11_byteOf : MethodName := ⟨RX11, "byteOf", "(JJI)I"⟩
abbrev cX11_isBlank : ByteArray := prog_13_method_4_code
def yX11_isBlank : MethodName := ⟨RX11, "isBlank", "(I)Z"⟩
abbrev cX11_nextToken : ByteArray := prog_13_method_5_code
def yX11_nextToken : MethodName := ⟨RX11, "nextToken", "()Z"⟩
abbrev cX11_hasBad : ByteArray := prog_13_method_6_code
def yX11_hasBad : MethodName := ⟨RX11, "hasBad", "()Z"⟩
abbrev cX11_hasDollar : ByteArray := prog_13_method_7_code
def yX11_hasDollar : MethodName := ⟨RX11, "hasDollar", "()Z"⟩
abbrev cX11_hasPart : ByteArray := prog_13_method_8_code
def yX11_hasPart : MethodName := ⟨RX11, "hasPart", "(I)Z"⟩
abbrev cX11_isWord : ByteArray := prog_13_method_9_code
def yX11_isWord : MethodName := ⟨RX11, "isWord", "(I)Z"⟩
abbrev cX11_isKeyword : ByteArray := prog_13_method_10_code
def yX11_isKeyword : MethodName := ⟨RX11, "isKeyword", "()Z"⟩
abbrev cX11_isLabel : ByteArray := prog_13_method_11_code
def yX11_isLabel : MethodName := ⟨RX11, "isLabel", "()Z"⟩
abbrev cX11_same : ByteArray := prog_13_method_12_code
def yX11_same : MethodName := ⟨RX11, "same", "(II)Z"⟩
abbrev cX11_symbolHere : ByteArray := prog_13_method_13_code
def yX11_symbolHere : MethodName := ⟨RX11, "symbolHere", "()I"⟩
abbrev cX11_labelHere : ByteArray := prog_13_method_14_code
def yX11_labelHere : MethodName := ⟨RX11, "labelHere", "()I"⟩
abbrev cX11_beginBook : ByteArray := prog_13_method_15_code
def yX11_beginBook : MethodName := ⟨RX11, "beginBook", "()V"⟩
abbrev cX11_readBook : ByteArray := prog_13_method_16_code
def yX11_readBook : MethodName := ⟨RX11, "readBook", "()I"⟩
abbrev cX11_token : ByteArray := prog_13_method_17_code
def yX11_token : MethodName := ⟨RX11, "token", "()I"⟩
abbrev cX11_outside : ByteArray := prog_13_method_18_code
def yX11_outside : MethodName := ⟨RX11, "outside", "()I"⟩
abbrev cX11_closeBlock : ByteArray := prog_13_method_19_code
def yX11_closeBlock : MethodName := ⟨RX11, "closeBlock", "()V"⟩
abbrev cX11_kindOf : ByteArray := prog_13_method_20_code
def yX11_kindOf : MethodName := ⟨RX11, "kindOf", "()I"⟩
abbrev cX11_declared : ByteArray := prog_13_method_21_code
def yX11_declared : MethodName := ⟨RX11, "declared", "()I"⟩
abbrev cX11_distinct : ByteArray := prog_13_method_22_code
def yX11_distinct : MethodName := ⟨RX11, "distinct", "()I"⟩
abbrev cX11_isOpenPair : ByteArray := prog_13_method_23_code
def yX11_isOpenPair : MethodName := ⟨RX11, "isOpenPair", "(II)Z"⟩
abbrev cX11_openPair : ByteArray := prog_13_method_24_code
def yX11_openPair : MethodName := ⟨RX11, "openPair", "(II)V"⟩
abbrev cX11_takeSymbol : ByteArray := prog_13_method_25_code
def yX11_takeSymbol : MethodName := ⟨RX11, "takeSymbol", "(I)V"⟩
abbrev cX11_isConstant : ByteArray := prog_13_method_26_code
def yX11_isConstant : MethodName := ⟨RX11, "isConstant", "(I)Z"⟩
abbrev cX11_typed : ByteArray := prog_13_method_27_code
def yX11_typed : MethodName := ⟨RX11, "typed", "()I"⟩
abbrev cX11_formula : ByteArray := prog_13_method_28_code
def yX11_formula : MethodName := ⟨RX11, "formula", "()I"⟩
abbrev cX11_proof : ByteArray := prog_13_method_29_code
def yX11_proof : MethodName := ⟨RX11, "proof", "()I"⟩
abbrev cX11_endStatement : ByteArray := prog_13_method_30_code
def yX11_endStatement : MethodName := ⟨RX11, "endStatement", "()V"⟩
abbrev cX11_needs : ByteArray := prog_13_method_31_code
def yX11_needs : MethodName := ⟨RX11, "needs", "(II)V"⟩
abbrev cX11_frameOf : ByteArray := prog_13_method_32_code
def yX11_frameOf : MethodName := ⟨RX11, "frameOf", "(I)V"⟩
abbrev cX11_forgetWork : ByteArray := prog_13_method_33_code
def yX11_forgetWork : MethodName := ⟨RX11, "forgetWork", "()V"⟩
abbrev cX11_read : ByteArray := prog_13_method_34_code
def yX11_read : MethodName := ⟨RX11, "read", "()I"⟩
abbrev cX11_place : ByteArray := prog_13_method_35_code
def yX11_place : MethodName := ⟨RX11, "place", "()I"⟩
abbrev cX11_isStatement : ByteArray := prog_13_method_36_code
def yX11_isStatement : MethodName := ⟨RX11, "isStatement", "(I)Z"⟩
abbrev cX11_at : ByteArray := prog_13_method_37_code
def yX11_at : MethodName := ⟨RX11, "at", "(I)I"⟩
abbrev cX11_isBit : ByteArray := prog_13_method_38_code
def yX11_isBit : MethodName := ⟨RX11, "isBit", "([JII)Z"⟩
abbrev cX11_isKind : ByteArray := prog_13_method_39_code
def yX11_isKind : MethodName := ⟨RX11, "isKind", "(II)Z"⟩
abbrev cX11_hypotheses : ByteArray := prog_13_method_40_code
def yX11_hypotheses : MethodName := ⟨RX11, "hypotheses", "(I)I"⟩
abbrev cX11_hypothesis : ByteArray := prog_13_method_41_code
def yX11_hypothesis : MethodName := ⟨RX11, "hypothesis", "(II)I"⟩
abbrev cX11_isPairAt : ByteArray := prog_13_method_42_code
def yX11_isPairAt : MethodName := ⟨RX11, "isPairAt", "(II)Z"⟩
abbrev cX11_apart : ByteArray := prog_13_method_43_code
def yX11_apart : MethodName := ⟨RX11, "apart", "(III)Z"⟩
abbrev cX11_isMandatory : ByteArray := prog_13_method_44_code
def yX11_isMandatory : MethodName := ⟨RX11, "isMandatory", "(II)Z"⟩
abbrev cX11_framePair : ByteArray := prog_13_method_45_code
def yX11_framePair : MethodName := ⟨RX11, "framePair", "(II)I"⟩
abbrev cX11_count : ByteArray := prog_13_method_46_code
def yX11_count : MethodName := ⟨RX11, "count", "(I)I"⟩
abbrev cX11_statement : ByteArray := prog_13_method_47_code
def yX11_statement : MethodName := ⟨RX11, "statement", "(II)I"⟩
abbrev cX11_symbol : ByteArray := prog_13_method_48_code
def yX11_symbol : MethodName := ⟨RX11, "symbol", "(II)I"⟩
abbrev cX11_name : ByteArray := prog_13_method_49_code
def yX11_name : MethodName := ⟨RX11, "name", "(III)I"⟩
abbrev cX11_frame : ByteArray := prog_13_method_50_code
def yX11_frame : MethodName := ⟨RX11, "frame", "(III)I"⟩
abbrev cX11_proofToken : ByteArray := prog_13_method_51_code
def yX11_proofToken : MethodName := ⟨RX11, "proofToken", "(II)I"⟩
abbrev cX11_isOne : ByteArray := prog_13_method_52_code
def yX11_isOne : MethodName := ⟨RX11, "isOne", "(III)Z"⟩
abbrev cX11_namedBy : ByteArray := prog_13_method_53_code
def yX11_namedBy : MethodName := ⟨RX11, "namedBy", "(II)I"⟩
abbrev cX11_isCompressed : ByteArray := prog_13_method_54_code
def yX11_isCompressed : MethodName := ⟨RX11, "isCompressed", "(I)Z"⟩
abbrev cX11_listEnd : ByteArray := prog_13_method_55_code
def yX11_listEnd : MethodName := ⟨RX11, "listEnd", "(I)I"⟩
abbrev cX11_takeLetters : ByteArray := prog_13_method_56_code
def yX11_takeLetters : MethodName := ⟨RX11, "takeLetters", "(I)V"⟩
abbrev cX11_isOpen : ByteArray := prog_13_method_57_code
def yX11_isOpen : MethodName := ⟨RX11, "isOpen", "(I)Z"⟩
abbrev cX11_fails : ByteArray := prog_13_method_58_code
def yX11_fails : MethodName := ⟨RX11, "fails", "(II)Z"⟩
abbrev cX11_mayName : ByteArray := prog_13_method_59_code
def yX11_mayName : MethodName := ⟨RX11, "mayName", "(II)Z"⟩
abbrev cX11_readProof : ByteArray := prog_13_method_60_code
def yX11_readProof : MethodName := ⟨RX11, "readProof", "(I)Z"⟩
abbrev cX11_readList : ByteArray := prog_13_method_61_code
def yX11_readList : MethodName := ⟨RX11, "readList", "(I)Z"⟩
abbrev cX11_readLetters : ByteArray := prog_13_method_62_code
def yX11_readLetters : MethodName := ⟨RX11, "readLetters", "(I)Z"⟩
abbrev cX11_thing : ByteArray := prog_13_method_63_code
def yX11_thing : MethodName := ⟨RX11, "thing", "(I)I"⟩
abbrev cX11_endThing : ByteArray := prog_13_method_64_code
def yX11_endThing : MethodName := ⟨RX11, "endThing", "(II)V"⟩
abbrev cX11_pushHypothesis : ByteArray := prog_13_method_65_code
def yX11_pushHypothesis : MethodName := ⟨RX11, "pushHypothesis", "(II)Z"⟩
abbrev cX11_pushMarked : ByteArray := prog_13_method_66_code
def yX11_pushMarked : MethodName := ⟨RX11, "pushMarked", "(II)Z"⟩
abbrev cX11_substitute : ByteArray := prog_13_method_67_code
def yX11_substitute : MethodName := ⟨RX11, "substitute", "(I)I"⟩
abbrev cX11_meets : ByteArray := prog_13_method_68_code
def yX11_meets : MethodName := ⟨RX11, "meets", "(III)Z"⟩
abbrev cX11_keepApart : ByteArray := prog_13_method_69_code
def yX11_keepApart : MethodName := ⟨RX11, "keepApart", "(III)Z"⟩
abbrev cX11_pushAssertion : ByteArray := prog_13_method_70_code
def yX11_pushAssertion : MethodName := ⟨RX11, "pushAssertion", "(III)Z"⟩
abbrev cX11_runSteps : ByteArray := prog_13_method_71_code
def yX11_runSteps : MethodName := ⟨RX11, "runSteps", "(II)Z"⟩
abbrev cX11_judge : ByteArray := prog_13_method_72_code
def yX11_judge : MethodName := ⟨RX11, "judge", "(I)I"⟩
abbrev cX11_check : ByteArray := prog_13_method_73_code
def yX11_check : MethodName := ⟨RX11, "check", "(I)I"⟩
abbrev cX11_step : ByteArray := prog_13_method_74_code
def yX11_step : MethodName := ⟨RX11, "step", "()I"⟩
abbrev cX11_trace : ByteArray := prog_13_method_75_code
def yX11_trace : MethodName := ⟨RX11, "trace", "(II)I"⟩
abbrev cX11_thing_ : ByteArray := prog_13_method_76_code
def yX11_thing_ : MethodName := ⟨RX11, "thing", "(II)I"⟩
abbrev cX11_say : ByteArray := prog_13_method_77_code
def yX11_say : MethodName := ⟨RX11, "say", "(I)V"⟩
abbrev cX11_sayLabel : ByteArray := prog_13_method_78_code
def yX11_sayLabel : MethodName := ⟨RX11, "sayLabel", "(I)V"⟩
abbrev cX11_told : ByteArray := prog_13_method_79_code
def yX11_told : MethodName := ⟨RX11, "told", "()I"⟩
abbrev cX11_compare : ByteArray := prog_13_method_80_code
def yX11_compare : MethodName := ⟨RX11, "compare", "()V"⟩
abbrev cX11_writeOut : ByteArray := prog_13_method_81_code
def yX11_writeOut : MethodName := ⟨RX11, "writeOut", "(I)I"⟩
abbrev cX11_sayNumber : ByteArray := prog_13_method_82_code
def yX11_sayNumber : MethodName := ⟨RX11, "sayNumber", "(I)V"⟩
abbrev cX11_goDown : ByteArray := prog_13_method_83_code
def yX11_goDown : MethodName := ⟨RX11, "goDown", "(I)V"⟩
abbrev cX11_indexOf : ByteArray := prog_13_method_84_code
def yX11_indexOf : MethodName := ⟨RX11, "indexOf", "(II)I"⟩
abbrev cX11_compressed : ByteArray := prog_13_method_85_code
def yX11_compressed : MethodName := ⟨RX11, "compressed", "(II)I"⟩
abbrev cX11_tell : ByteArray := prog_13_method_86_code
def yX11_tell : MethodName := ⟨RX11, "tell", "(II)I"⟩
abbrev cX11_print : ByteArray := prog_13_method_87_code
def yX11_print : MethodName := ⟨RX11, "print", "(I)I"⟩
abbrev cX11_out : ByteArray := prog_13_method_88_code
def yX11_out : MethodName := ⟨RX11, "out", "(I)I"⟩
abbrev cX11_restOn : ByteArray := prog_13_method_89_code
def yX11_restOn : MethodName := ⟨RX11, "restOn", "(I)V"⟩
abbrev cX11_rests : ByteArray := prog_13_method_90_code
def yX11_rests : MethodName := ⟨RX11, "rests", "(II)I"⟩
abbrev cX11_find : ByteArray := prog_13_method_91_code
def yX11_find : MethodName := ⟨RX11, "find", "()I"⟩
def RJx8e188 : String := "java/lang/Cloneable"
def TJx8e188 : u_T := fun k => match k with
  | _ => ("", "", "", false)
def tyJx8e188 : Nat → FieldType := fun k => match k with
  | _ => .int
theorem nmJx8e188 : ∀ a, a < 0 → ∀ b, b < 0 → a ≠ b → (TJx8e188 a).2.1 ≠ (TJx8e188 b).2.1 := by decide +kernel
theorem tyJx8e188_ok : ∀ k, k < 0 → parseFieldDescriptor (TJx8e188 k).2.2.1 = some (tyJx8e188 k) := by decide +kernel
def RJ9 : String := "java/lang/Math"
def TJ9 : u_T := fun k => match k with
  | _ => ("", "", "", false)
def tyJ9 : Nat → FieldType := fun k => match k with
  | _ => .int
theorem nmJ9 : ∀ a, a < 0 → ∀ b, b < 0 → a ≠ b → (TJ9 a).2.1 ≠ (TJ9 b).2.1 := by decide +kernel
theorem tyJ9_ok : ∀ k, k < 0 → parseFieldDescriptor (TJ9 k).2.2.1 = some (tyJ9 k) := by decide +kernel
abbrev cJ9_max_7cf53 : ByteArray := prog_15_method_65_code
def yJ9_max_7cf53 : MethodName := ⟨RJ9, "max", "(II)I"⟩
abbrev cJ9_min_7cf53 : ByteArray := prog_15_method_69_code
def yJ9_min_7cf53 : MethodName := ⟨RJ9, "min", "(II)I"⟩
def RJ10 : String := "java/lang/System"
def TJ10 : u_T := fun k => match k with
  | _ => ("", "", "", false)
def tyJ10 : Nat → FieldType := fun k => match k with
  | _ => .int
theorem nmJ10 : ∀ a, a < 0 → ∀ b, b < 0 → a ≠ b → (TJ10 a).2.1 ≠ (TJ10 b).2.1 := by decide +kernel
theorem tyJ10_ok : ∀ k, k < 0 → parseFieldDescriptor (TJ10 k).2.2.1 = some (tyJ10 k) := by decide +kernel
def RJ7 : String := "java/util/Arrays"
def TJ7 : u_T := fun k => match k with
  | _ => ("", "", "", false)
def tyJ7 : Nat → FieldType := fun k => match k with
  | _ => .int
theorem nmJ7 : ∀ a, a < 0 → ∀ b, b < 0 → a ≠ b → (TJ7 a).2.1 ≠ (TJ7 b).2.1 := by decide +kernel
theorem tyJ7_ok : ∀ k, k < 0 → parseFieldDescriptor (TJ7 k).2.2.1 = some (tyJ7 k) := by decide +kernel
abbrev cJ7_fill_d0a16 : ByteArray := prog_17_method_101_code
def yJ7_fill_d0a16 : MethodName := ⟨RJ7, "fill", "([JJ)V"⟩
abbrev cJ7_fill_53178 : ByteArray := prog_17_method_103_code
def yJ7_fill_53178 : MethodName := ⟨RJ7, "fill", "([II)V"⟩
abbrev cJ7_fill_031fb : ByteArray := prog_17_method_109_code
def yJ7_fill_031fb : MethodName := ⟨RJ7, "fill", "([BB)V"⟩
abbrev cJ7_copyOf_59c91 : ByteArray := prog_17_method_123_code
def yJ7_copyOf_59c91 : MethodName := ⟨RJ7, "copyOf", "([II)[I"⟩
def RL : String := "AxiomBookLaw"
abbrev cL_law : ByteArray := code
def yL_law : MethodName := ⟨RL, "law", "([I)Z"⟩
end
section
/-! A heap as a function: an address has nothing, an array of ints, bytes or booleans (0, 1, 2), an array of longs, or an object (its class's place in hp_cl, its fields) -/
abbrev hp_E : Type := (Nat × Nat × (Nat → Int32)) ⊕ (Nat × (Nat → Int64)) ⊕ (Nat × (Nat → Value))
abbrev hp_H : Type := Nat → Option hp_E
/-- the launch, the first address that is ours, the classes' numbers and slots, the array classes' numbers -/
abbrev hp_G : Type := Launch × Nat × va_G × (Nat → ClassId)
/-- how a method ends: its answer, the heap, how many cells there are, how many slots were made -/
abbrev hp_O : Type := Option Value × hp_H × Nat × Nat
/-- a method: its class, its bytes, its locals, its answer's type, frames and locals that it needs below it, its name -/
abbrev hp_M : Type := String × ByteArray × Nat × Option FieldType × Nat × Nat × String
/-- the words of the tables that hold in every callee, too; and those of nest mates, which go beside them -/
def lw_g : List Cond := lw_tbl.filter goodWord
theorem lw_gin {w : Cond} (h : w ∈ lw_tbl) (hg : goodWord w = true) : w ∈ lw_g := List.mem_filter.mpr ⟨h, hg⟩
def hp_nest : List Cond := [.methodLinkNest "AxiomBook" 11 ⟨"AxiomBook$Book", "<init>", "()V"⟩ "AxiomBook", .methodLinkNest "AxiomBook$Reader" 11 ⟨"AxiomBook$Scope", "<init>", "()V"⟩ "AxiomBook", .methodLinkNest "AxiomBook" 56 ⟨"AxiomBook$Sheet", "<init>", "()V"⟩ "AxiomBook"]
def hp_N (U : State) : Prop := ∀ w ∈ hp_nest, va_Nw w U
theorem hp_N.warm {s U : State} (hW : s.WarmedH U.vm) (h : hp_N s) : hp_N U := by
  intro w hw
  have h1 := h w hw
  simp only [hp_nest, List.mem_cons, List.not_mem_nil, or_false] at hw
  rcases hw with rfl | rfl | rfl <;> exact va_Nw.warmM hW h1
theorem hp_N.same {s U : State} (hv : s.vm = U.vm) (h : hp_N s) : hp_N U := by
  intro w hw
  have h1 := h w hw
  simp only [hp_nest, List.mem_cons, List.not_mem_nil, or_false] at hw
  rcases hw with rfl | rfl | rfl <;> exact va_Nw.same rfl hv h1
def hp_cl : List vw_C := [(RX0, TX0, 18), (RX1, TX1, 6), (RX2, TX2, 5), (RX3, TX3, 13), (RX4, TX4, 11), (RX5, TX5, 4), (RX6, TX6, 5), (RX7, TX7, 13), (RX8, TX8, 3), (RX9, TX9, 17), (RX10, TX10, 11), (RX11, TX11, 86)]
theorem hp_in0 : ∀ w ∈ u_ws RX0 TX0 18, w ∈ lw_g := by decide +kernel
theorem hp_in1 : ∀ w ∈ u_ws RX1 TX1 6, w ∈ lw_g := by decide +kernel
theorem hp_in2 : ∀ w ∈ u_ws RX2 TX2 5, w ∈ lw_g := by decide +kernel
theorem hp_in3 : ∀ w ∈ u_ws RX3 TX3 13, w ∈ lw_g := by decide +kernel
theorem hp_in4 : ∀ w ∈ u_ws RX4 TX4 11, w ∈ lw_g := by decide +kernel
theorem hp_in5 : ∀ w ∈ u_ws RX5 TX5 4, w ∈ lw_g := by decide +kernel
theorem hp_in6 : ∀ w ∈ u_ws RX6 TX6 5, w ∈ lw_g := by decide +kernel
theorem hp_in7 : ∀ w ∈ u_ws RX7 TX7 13, w ∈ lw_g := by decide +kernel
theorem hp_in8 : ∀ w ∈ u_ws RX8 TX8 3, w ∈ lw_g := by decide +kernel
theorem hp_in9 : ∀ w ∈ u_ws RX9 TX9 17, w ∈ lw_g := by decide +kernel
theorem hp_in10 : ∀ w ∈ u_ws RX10 TX10 11, w ∈ lw_g := by decide +kernel
theorem hp_in11 : ∀ w ∈ u_ws RX11 TX11 86, w ∈ lw_g := by decide +kernel
def hp_A (G : hp_G) : Nat → Prop := fun q => G.2.1 ≤ q
def hp_at (G : hp_G) (e : hp_E) (a : Nat) (H : Heap) : Prop := match e with
  | .inl (t, n, f) => t < 3 ∧ H[a]? = some (arrV (G.2.2.2 t) n (fun j => .int (f j)))
  | .inr (.inl (n, f)) => H[a]? = some (arrV (G.2.2.2 3) n (fun j => .long (f j)))
  | .inr (.inr (ci, V)) => ∃ r : vw_C, hp_cl[ci]? = some r ∧ t_OB a (G.2.2.1.1 ci) r.2.2 (G.2.2.1.2 ci) H V
def hp_ok (G : hp_G) (h : hp_H) (H : Heap) : Prop := ∀ (a : Nat) (e : hp_E), h a = some e → G.2.1 ≤ a ∧ hp_at G e a H
def hp_K (G : hp_G) (U : State) : Prop := va_K G.2.2.1 hp_cl [(G.2.2.2 0, .int), (G.2.2.2 1, .byte), (G.2.2.2 2, .boolean), (G.2.2.2 3, .long)] U
def hp_Cx (G : hp_G) (M : hp_M) (p : Program) (R : Room) (s : State) (m : MethodId) (args : Array Value) (meth : Method) (c : Code) : Prop :=
  p.tables.exec = Jvm.exec ∧ c.code = M.2.1 ∧ meth.sig.returnType = M.2.2.2.1 ∧ c.maxLocals = M.2.2.1 ∧ s.vm.findClass M.1 = some m.cls ∧ (∀ w ∈ lw_g, w.before args s = true) ∧ meth.locks = false ∧ meth.name = M.2.2.2.2.2.2 ∧ hp_K G s ∧ G.2.1 ≤ s.heap.size ∧ R.frames = M.2.2.2.2.1 ∧ R.locals = M.2.2.2.2.2.1 ∧ hp_N s
def hp_Q (G : hp_G) (o : hp_O) : Array Value → State → Outcome → State → Prop := fun _ st oc t =>
  (oc = .returned o.1 ∧ hp_ok G o.2.1 t.heap ∧ t.heap.size = o.2.2.1 ∧ hp_K G t ∧ hp_N t) ∧ va_F (hp_A G) st t
/-- from here the method comes to the outcome o -/
def hp_V (G : hp_G) (M : hp_M) (pc : Nat) (lv : List (Nat × Value)) (st : List Value) (h : hp_H) (sz sl : Nat) (o : hp_O) : Prop :=
  ∀ (p : Program) (e : Env) (R : Room) (s : State) (m : MethodId) (args : Array Value) (below : List Frame) (meth : Method) (c : Code) (H : Heap) (locs : List Loc) (cells slots : Nat) (ls : Array Slot),
    hp_Cx G M p R s m args meth c → hp_ok G h H → H.size = sz → lv_has ls M.2.2.1 lv → va_S (hp_A G) s.heap H locs → cells + o.2.2.1 ≤ R.cells + sz → slots + o.2.2.2 ≤ R.slots + sl →
    W p G.1 e R s m args below meth c H locs cells slots (MQ below (hp_Q G o) args s R.cells R.slots (hp_A G)) (F0 m pc ls st)
/-- a method's contract at one outcome -/
def hp_C (G : hp_G) (M : hp_M) (y : MethodName) (as : List Value) (h : hp_H) (sz sl : Nat) (o : hp_O) : Prop :=
  sz ≤ o.2.2.1 ∧ sl ≤ o.2.2.2 ∧ Met G.1 y (.code y M.2.1 M.2.2.1 M.2.2.2.1 :: lw_g) { frames := M.2.2.2.2.1, cells := o.2.2.1 - sz, slots := o.2.2.2 - sl, locals := M.2.2.2.2.2.1 }
    (va_Pc as (fun U => U.heap.size = sz ∧ hp_ok G h U.heap ∧ hp_K G U ∧ G.2.1 ≤ sz ∧ hp_N U)) (hp_Q G o) (o.2.2.1 - sz) (o.2.2.2 - sl) (hp_A G)
section HPV
variable {G : hp_G} {M : hp_M} {pc : Nat} {lv : List (Nat × Value)} {st : List Value} {h : hp_H} {sz sl : Nat} {o : hp_O}
theorem hv_to {pc' : Nat} {lv' : List (Nat × Value)} {st' : List Value} (e1 : pc' = pc) (e2 : lv' = lv) (e3 : st' = st) (k : hp_V G M pc lv st h sz sl o) : hp_V G M pc' lv' st' h sz sl o := by
  subst e1; subst e2; subst e3; exact k
theorem hv_iconst {n : Int} (v : Int32) (hd : decode M.2.1 pc = .ok (.iconst n, 1)) (hv : Int32.ofInt n = v) (k : hp_V G M (pc + 1) lv (.int v :: st) h sz sl o) : hp_V G M pc lv st h sz sl o :=
  fun p e R s m args below meth c H locs cells slots ls C hH hz hl hS hc hs => lv_iconst C.1 C.2.1 hd hv (k p e R s m args below meth c H locs cells slots ls C hH hz hl hS hc hs)
theorem hv_bipush {n : Int} (v : Int32) (hd : decode M.2.1 pc = .ok (.bipush n, 2)) (hv : (Int8.ofInt n).toInt32 = v) (k : hp_V G M (pc + 2) lv (.int v :: st) h sz sl o) : hp_V G M pc lv (st) h sz sl o :=
  fun p e R s m args below meth c H locs cells slots ls C hH hz hl hS hc hs => lv_bipush C.1 C.2.1 hd hv (k p e R s m args below meth c H locs cells slots ls C hH hz hl hS hc hs)
theorem hv_sipush {n : Int} (v : Int32) (hd : decode M.2.1 pc = .ok (.sipush n, 3)) (hv : (Int16.ofInt n).toInt32 = v) (k : hp_V G M (pc + 3) lv (.int v :: st) h sz sl o) : hp_V G M pc lv (st) h sz sl o :=
  fun p e R s m args below meth c H locs cells slots ls C hH hz hl hS hc hs => lv_sipush C.1 C.2.1 hd hv (k p e R s m args below meth c H locs cells slots ls C hH hz hl hS hc hs)
theorem hv_lconst {n : Fin 2} (v : Int64) (hd : decode M.2.1 pc = .ok (.lconst n, 1)) (hv : Int64.ofNat (n : Nat) = v) (k : hp_V G M (pc + 1) lv (.long v :: st) h sz sl o) : hp_V G M pc lv (st) h sz sl o :=
  fun p e R s m args below meth c H locs cells slots ls C hH hz hl hS hc hs => lv_lconst C.1 C.2.1 hd hv (k p e R s m args below meth c H locs cells slots ls C hH hz hl hS hc hs)
theorem hv_iload_n {k0 : Fin 4} {i : Nat} {x : Int32} (j : Nat) (hd : decode M.2.1 pc = .ok (.iload_n k0, 1)) (hi : (k0 : Nat) = i) (hj : lv[j]? = some (i, .int x)) (k : hp_V G M (pc + 1) lv (.int x :: st) h sz sl o) : hp_V G M pc lv (st) h sz sl o :=
  fun p e R s m args below meth c H locs cells slots ls C hH hz hl hS hc hs => lv_iload_n C.1 C.2.1 hd hi (lv_at hl j hj) (k p e R s m args below meth c H locs cells slots ls C hH hz hl hS hc hs)
theorem hv_iload {i : Nat} {x : Int32} (j : Nat) (hd : decode M.2.1 pc = .ok (.iload i, 2)) (hj : lv[j]? = some (i, .int x)) (k : hp_V G M (pc + 2) lv (.int x :: st) h sz sl o) : hp_V G M pc lv (st) h sz sl o :=
  fun p e R s m args below meth c H locs cells slots ls C hH hz hl hS hc hs => lv_iload C.1 C.2.1 hd (lv_at hl j hj) (k p e R s m args below meth c H locs cells slots ls C hH hz hl hS hc hs)
theorem hv_lload_n {k0 : Fin 4} {i : Nat} {x : Int64} (j : Nat) (hd : decode M.2.1 pc = .ok (.lload_n k0, 1)) (hi : (k0 : Nat) = i) (hj : lv[j]? = some (i, .long x)) (k : hp_V G M (pc + 1) lv (.long x :: st) h sz sl o) : hp_V G M pc lv (st) h sz sl o :=
  fun p e R s m args below meth c H locs cells slots ls C hH hz hl hS hc hs => lv_lload_n C.1 C.2.1 hd hi (lv_at hl j hj) (k p e R s m args below meth c H locs cells slots ls C hH hz hl hS hc hs)
theorem hv_lload {i : Nat} {x : Int64} (j : Nat) (hd : decode M.2.1 pc = .ok (.lload i, 2)) (hj : lv[j]? = some (i, .long x)) (k : hp_V G M (pc + 2) lv (.long x :: st) h sz sl o) : hp_V G M pc lv (st) h sz sl o :=
  fun p e R s m args below meth c H locs cells slots ls C hH hz hl hS hc hs => lv_lload C.1 C.2.1 hd (lv_at hl j hj) (k p e R s m args below meth c H locs cells slots ls C hH hz hl hS hc hs)
theorem hv_aload_n {k0 : Fin 4} {i : Nat} {x : Nat} (j : Nat) (hd : decode M.2.1 pc = .ok (.aload_n k0, 1)) (hi : (k0 : Nat) = i) (hj : lv[j]? = some (i, .ref x)) (k : hp_V G M (pc + 1) lv (.ref x :: st) h sz sl o) : hp_V G M pc lv (st) h sz sl o :=
  fun p e R s m args below meth c H locs cells slots ls C hH hz hl hS hc hs => lv_aload_n C.1 C.2.1 hd hi (lv_at hl j hj) (k p e R s m args below meth c H locs cells slots ls C hH hz hl hS hc hs)
theorem hv_aload {i : Nat} {x : Nat} (j : Nat) (hd : decode M.2.1 pc = .ok (.aload i, 2)) (hj : lv[j]? = some (i, .ref x)) (k : hp_V G M (pc + 2) lv (.ref x :: st) h sz sl o) : hp_V G M pc lv (st) h sz sl o :=
  fun p e R s m args below meth c H locs cells slots ls C hH hz hl hS hc hs => lv_aload C.1 C.2.1 hd (lv_at hl j hj) (k p e R s m args below meth c H locs cells slots ls C hH hz hl hS hc hs)
theorem hv_istore_n {k0 : Fin 4} {i : Nat} {x : Int32} (lv2 : List (Nat × Value)) (hd : decode M.2.1 pc = .ok (.istore_n k0, 1)) (hi : (k0 : Nat) = i) (hn : i < M.2.2.1) (hf : (i, Value.int x) :: lv.filter (fun q => !(q.1 == i) && !(q.1 + 1 == i && q.2.category == 2)) = lv2) (k : hp_V G M (pc + 1) lv2 st h sz sl o) : hp_V G M pc lv (.int x :: st) h sz sl o :=
  fun p e R s m args below meth c H locs cells slots ls C hH hz hl hS hc hs => lv_istore_n C.1 C.2.1 hd hi hl hn hf (fun ls2 hl2 => k p e R s m args below meth c H locs cells slots ls2 C hH hz hl2 hS hc hs)
theorem hv_istore {i : Nat} {x : Int32} (lv2 : List (Nat × Value)) (hd : decode M.2.1 pc = .ok (.istore i, 2)) (hn : i < M.2.2.1) (hf : (i, Value.int x) :: lv.filter (fun q => !(q.1 == i) && !(q.1 + 1 == i && q.2.category == 2)) = lv2) (k : hp_V G M (pc + 2) lv2 st h sz sl o) : hp_V G M pc lv (.int x :: st) h sz sl o :=
  fun p e R s m args below meth c H locs cells slots ls C hH hz hl hS hc hs => lv_istore C.1 C.2.1 hd hl hn hf (fun ls2 hl2 => k p e R s m args below meth c H locs cells slots ls2 C hH hz hl2 hS hc hs)
theorem hv_lstore_n {k0 : Fin 4} {i : Nat} {x : Int64} (lv2 : List (Nat × Value)) (hd : decode M.2.1 pc = .ok (.lstore_n k0, 1)) (hi : (k0 : Nat) = i) (hn : i + 1 < M.2.2.1) (hf : (i, Value.long x) :: lv.filter (fun q => !(q.1 == i) && (!(q.1 == i + 1) && !(q.1 + 1 == i && q.2.category == 2))) = lv2) (k : hp_V G M (pc + 1) lv2 st h sz sl o) : hp_V G M pc lv (.long x :: st) h sz sl o :=
  fun p e R s m args below meth c H locs cells slots ls C hH hz hl hS hc hs => lv_lstore_n C.1 C.2.1 hd hi hl hn hf (fun ls2 hl2 => k p e R s m args below meth c H locs cells slots ls2 C hH hz hl2 hS hc hs)
theorem hv_lstore {i : Nat} {x : Int64} (lv2 : List (Nat × Value)) (hd : decode M.2.1 pc = .ok (.lstore i, 2)) (hn : i + 1 < M.2.2.1) (hf : (i, Value.long x) :: lv.filter (fun q => !(q.1 == i) && (!(q.1 == i + 1) && !(q.1 + 1 == i && q.2.category == 2))) = lv2) (k : hp_V G M (pc + 2) lv2 st h sz sl o) : hp_V G M pc lv (.long x :: st) h sz sl o :=
  fun p e R s m args below meth c H locs cells slots ls C hH hz hl hS hc hs => lv_lstore C.1 C.2.1 hd hl hn hf (fun ls2 hl2 => k p e R s m args below meth c H locs cells slots ls2 C hH hz hl2 hS hc hs)
theorem hv_astore_n {k0 : Fin 4} {i : Nat} {x : Nat} (lv2 : List (Nat × Value)) (hd : decode M.2.1 pc = .ok (.astore_n k0, 1)) (hi : (k0 : Nat) = i) (hn : i < M.2.2.1) (hf : (i, Value.ref x) :: lv.filter (fun q => !(q.1 == i) && !(q.1 + 1 == i && q.2.category == 2)) = lv2) (k : hp_V G M (pc + 1) lv2 st h sz sl o) : hp_V G M pc lv (.ref x :: st) h sz sl o :=
  fun p e R s m args below meth c H locs cells slots ls C hH hz hl hS hc hs => lv_astore_n C.1 C.2.1 hd hi hl hn hf (fun ls2 hl2 => k p e R s m args below meth c H locs cells slots ls2 C hH hz hl2 hS hc hs)
theorem hv_astore {i : Nat} {x : Nat} (lv2 : List (Nat × Value)) (hd : decode M.2.1 pc = .ok (.astore i, 2)) (hn : i < M.2.2.1) (hf : (i, Value.ref x) :: lv.filter (fun q => !(q.1 == i) && !(q.1 + 1 == i && q.2.category == 2)) = lv2) (k : hp_V G M (pc + 2) lv2 st h sz sl o) : hp_V G M pc lv (.ref x :: st) h sz sl o :=
  fun p e R s m args below meth c H locs cells slots ls C hH hz hl hS hc hs => lv_astore C.1 C.2.1 hd hl hn hf (fun ls2 hl2 => k p e R s m args below meth c H locs cells slots ls2 C hH hz hl2 hS hc hs)
theorem hv_iinc {i : Nat} {n : Int} {x : Int32} (v : Int32) (j : Nat) (lv2 : List (Nat × Value)) (hd : decode M.2.1 pc = .ok (.iinc i n, 3)) (hj : lv[j]? = some (i, .int x)) (hv : x + Int32.ofInt n = v) (hn : i < M.2.2.1) (hf : (i, Value.int v) :: lv.filter (fun q => !(q.1 == i) && !(q.1 + 1 == i && q.2.category == 2)) = lv2) (k : hp_V G M (pc + 3) lv2 st h sz sl o) : hp_V G M pc lv st h sz sl o :=
  fun p e R s m args below meth c H locs cells slots ls C hH hz hl hS hc hs => lv_iinc C.1 C.2.1 hd hl hj hv hn hf (fun ls2 hl2 => k p e R s m args below meth c H locs cells slots ls2 C hH hz hl2 hS hc hs)
theorem hv_iadd {x y : Int32} (hd : decode M.2.1 pc = .ok (.iadd, 1)) (k : hp_V G M (pc + 1) lv (.int (x + y) :: st) h sz sl o) : hp_V G M pc lv (.int y :: .int x :: st) h sz sl o :=
  fun p e R s m args below meth c H locs cells slots ls C hH hz hl hS hc hs => lv_iadd C.1 C.2.1 hd (k p e R s m args below meth c H locs cells slots ls C hH hz hl hS hc hs)
theorem hv_isub {x y : Int32} (hd : decode M.2.1 pc = .ok (.isub, 1)) (k : hp_V G M (pc + 1) lv (.int (x - y) :: st) h sz sl o) : hp_V G M pc lv (.int y :: .int x :: st) h sz sl o :=
  fun p e R s m args below meth c H locs cells slots ls C hH hz hl hS hc hs => lv_isub C.1 C.2.1 hd (k p e R s m args below meth c H locs cells slots ls C hH hz hl hS hc hs)
theorem hv_imul {x y : Int32} (hd : decode M.2.1 pc = .ok (.imul, 1)) (k : hp_V G M (pc + 1) lv (.int (x * y) :: st) h sz sl o) : hp_V G M pc lv (.int y :: .int x :: st) h sz sl o :=
  fun p e R s m args below meth c H locs cells slots ls C hH hz hl hS hc hs => lv_imul C.1 C.2.1 hd (k p e R s m args below meth c H locs cells slots ls C hH hz hl hS hc hs)
theorem hv_iand {x y : Int32} (hd : decode M.2.1 pc = .ok (.iand, 1)) (k : hp_V G M (pc + 1) lv (.int (x &&& y) :: st) h sz sl o) : hp_V G M pc lv (.int y :: .int x :: st) h sz sl o :=
  fun p e R s m args below meth c H locs cells slots ls C hH hz hl hS hc hs => lv_iand C.1 C.2.1 hd (k p e R s m args below meth c H locs cells slots ls C hH hz hl hS hc hs)
theorem hv_ior {x y : Int32} (hd : decode M.2.1 pc = .ok (.ior, 1)) (k : hp_V G M (pc + 1) lv (.int (x ||| y) :: st) h sz sl o) : hp_V G M pc lv (.int y :: .int x :: st) h sz sl o :=
  fun p e R s m args below meth c H locs cells slots ls C hH hz hl hS hc hs => lv_ior C.1 C.2.1 hd (k p e R s m args below meth c H locs cells slots ls C hH hz hl hS hc hs)
theorem hv_ixor {x y : Int32} (hd : decode M.2.1 pc = .ok (.ixor, 1)) (k : hp_V G M (pc + 1) lv (.int (x ^^^ y) :: st) h sz sl o) : hp_V G M pc lv (.int y :: .int x :: st) h sz sl o :=
  fun p e R s m args below meth c H locs cells slots ls C hH hz hl hS hc hs => lv_ixor C.1 C.2.1 hd (k p e R s m args below meth c H locs cells slots ls C hH hz hl hS hc hs)
theorem hv_ishl {x y : Int32} (hd : decode M.2.1 pc = .ok (.ishl, 1)) (k : hp_V G M (pc + 1) lv (.int (x <<< (y &&& 31)) :: st) h sz sl o) : hp_V G M pc lv (.int y :: .int x :: st) h sz sl o :=
  fun p e R s m args below meth c H locs cells slots ls C hH hz hl hS hc hs => lv_ishl C.1 C.2.1 hd (k p e R s m args below meth c H locs cells slots ls C hH hz hl hS hc hs)
theorem hv_ishr {x y : Int32} (hd : decode M.2.1 pc = .ok (.ishr, 1)) (k : hp_V G M (pc + 1) lv (.int (x >>> (y &&& 31)) :: st) h sz sl o) : hp_V G M pc lv (.int y :: .int x :: st) h sz sl o :=
  fun p e R s m args below meth c H locs cells slots ls C hH hz hl hS hc hs => lv_ishr C.1 C.2.1 hd (k p e R s m args below meth c H locs cells slots ls C hH hz hl hS hc hs)
theorem hv_idiv {x y : Int32} (hd : decode M.2.1 pc = .ok (.idiv, 1)) (hne : ¬ y = 0) (k : hp_V G M (pc + 1) lv (.int (x / y) :: st) h sz sl o) : hp_V G M pc lv (.int y :: .int x :: st) h sz sl o :=
  fun p e R s m args below meth c H locs cells slots ls C hH hz hl hS hc hs => lv_idiv C.1 C.2.1 hd hne (k p e R s m args below meth c H locs cells slots ls C hH hz hl hS hc hs)
theorem hv_irem {x y : Int32} (hd : decode M.2.1 pc = .ok (.irem, 1)) (hne : ¬ y = 0) (k : hp_V G M (pc + 1) lv (.int (x - x / y * y) :: st) h sz sl o) : hp_V G M pc lv (.int y :: .int x :: st) h sz sl o :=
  fun p e R s m args below meth c H locs cells slots ls C hH hz hl hS hc hs => lv_irem C.1 C.2.1 hd hne (k p e R s m args below meth c H locs cells slots ls C hH hz hl hS hc hs)
theorem hv_ineg {x : Int32} (hd : decode M.2.1 pc = .ok (.ineg, 1)) (k : hp_V G M (pc + 1) lv (.int (-x) :: st) h sz sl o) : hp_V G M pc lv (.int x :: st) h sz sl o :=
  fun p e R s m args below meth c H locs cells slots ls C hH hz hl hS hc hs => lv_ineg C.1 C.2.1 hd (k p e R s m args below meth c H locs cells slots ls C hH hz hl hS hc hs)
theorem hv_iushr {x y : Int32} (hd : decode M.2.1 pc = .ok (.iushr, 1)) (k : hp_V G M (pc + 1) lv (.int ((x.toUInt32 >>> (y.toUInt32 &&& Int32.toUInt32 31)).toInt32) :: st) h sz sl o) : hp_V G M pc lv (.int y :: .int x :: st) h sz sl o :=
  fun p e R s m args below meth c H locs cells slots ls C hH hz hl hS hc hs => lv_iushr C.1 C.2.1 hd rfl (k p e R s m args below meth c H locs cells slots ls C hH hz hl hS hc hs)
theorem hv_ladd {x y : Int64} (hd : decode M.2.1 pc = .ok (.ladd, 1)) (k : hp_V G M (pc + 1) lv (.long (x + y) :: st) h sz sl o) : hp_V G M pc lv (.long y :: .long x :: st) h sz sl o :=
  fun p e R s m args below meth c H locs cells slots ls C hH hz hl hS hc hs => lv_ladd C.1 C.2.1 hd (k p e R s m args below meth c H locs cells slots ls C hH hz hl hS hc hs)
theorem hv_lsub {x y : Int64} (hd : decode M.2.1 pc = .ok (.lsub, 1)) (k : hp_V G M (pc + 1) lv (.long (x - y) :: st) h sz sl o) : hp_V G M pc lv (.long y :: .long x :: st) h sz sl o :=
  fun p e R s m args below meth c H locs cells slots ls C hH hz hl hS hc hs => lv_lsub C.1 C.2.1 hd (k p e R s m args below meth c H locs cells slots ls C hH hz hl hS hc hs)
theorem hv_lmul {x y : Int64} (hd : decode M.2.1 pc = .ok (.lmul, 1)) (k : hp_V G M (pc + 1) lv (.long (x * y) :: st) h sz sl o) : hp_V G M pc lv (.long y :: .long x :: st) h sz sl o :=
  fun p e R s m args below meth c H locs cells slots ls C hH hz hl hS hc hs => lv_lmul C.1 C.2.1 hd (k p e R s m args below meth c H locs cells slots ls C hH hz hl hS hc hs)
theorem hv_land {x y : Int64} (hd : decode M.2.1 pc = .ok (.land, 1)) (k : hp_V G M (pc + 1) lv (.long (x &&& y) :: st) h sz sl o) : hp_V G M pc lv (.long y :: .long x :: st) h sz sl o :=
  fun p e R s m args below meth c H locs cells slots ls C hH hz hl hS hc hs => lv_land C.1 C.2.1 hd (k p e R s m args below meth c H locs cells slots ls C hH hz hl hS hc hs)
theorem hv_lor {x y : Int64} (hd : decode M.2.1 pc = .ok (.lor, 1)) (k : hp_V G M (pc + 1) lv (.long (x ||| y) :: st) h sz sl o) : hp_V G M pc lv (.long y :: .long x :: st) h sz sl o :=
  fun p e R s m args below meth c H locs cells slots ls C hH hz hl hS hc hs => lv_lor C.1 C.2.1 hd (k p e R s m args below meth c H locs cells slots ls C hH hz hl hS hc hs)
theorem hv_lxor {x y : Int64} (hd : decode M.2.1 pc = .ok (.lxor, 1)) (k : hp_V G M (pc + 1) lv (.long (x ^^^ y) :: st) h sz sl o) : hp_V G M pc lv (.long y :: .long x :: st) h sz sl o :=
  fun p e R s m args below meth c H locs cells slots ls C hH hz hl hS hc hs => lv_lxor C.1 C.2.1 hd (k p e R s m args below meth c H locs cells slots ls C hH hz hl hS hc hs)
theorem hv_lushr {x : Int64} {y : Int32} (hd : decode M.2.1 pc = .ok (.lushr, 1)) (k : hp_V G M (pc + 1) lv (.long ((x.toUInt64 >>> (y.toInt64.toUInt64 &&& Int64.toUInt64 63)).toInt64) :: st) h sz sl o) : hp_V G M pc lv (.int y :: .long x :: st) h sz sl o :=
  fun p e R s m args below meth c H locs cells slots ls C hH hz hl hS hc hs => lv_lushr C.1 C.2.1 hd rfl (k p e R s m args below meth c H locs cells slots ls C hH hz hl hS hc hs)
theorem hv_lshl {x : Int64} {y : Int32} (hd : decode M.2.1 pc = .ok (.lshl, 1)) (k : hp_V G M (pc + 1) lv (.long (x <<< (y.toInt64 &&& 63)) :: st) h sz sl o) : hp_V G M pc lv (.int y :: .long x :: st) h sz sl o :=
  fun p e R s m args below meth c H locs cells slots ls C hH hz hl hS hc hs => lv_lshl C.1 C.2.1 hd rfl (k p e R s m args below meth c H locs cells slots ls C hH hz hl hS hc hs)
theorem hv_i2l {x : Int32} (hd : decode M.2.1 pc = .ok (.i2l, 1)) (k : hp_V G M (pc + 1) lv (.long x.toInt64 :: st) h sz sl o) : hp_V G M pc lv (.int x :: st) h sz sl o :=
  fun p e R s m args below meth c H locs cells slots ls C hH hz hl hS hc hs => lv_i2l C.1 C.2.1 hd rfl (k p e R s m args below meth c H locs cells slots ls C hH hz hl hS hc hs)
theorem hv_l2i {x : Int64} (hd : decode M.2.1 pc = .ok (.l2i, 1)) (k : hp_V G M (pc + 1) lv (.int x.toInt32 :: st) h sz sl o) : hp_V G M pc lv (.long x :: st) h sz sl o :=
  fun p e R s m args below meth c H locs cells slots ls C hH hz hl hS hc hs => lv_l2i C.1 C.2.1 hd rfl (k p e R s m args below meth c H locs cells slots ls C hH hz hl hS hc hs)
theorem hv_i2b {x : Int32} (hd : decode M.2.1 pc = .ok (.i2b, 1)) (k : hp_V G M (pc + 1) lv (.int x.toInt8.toInt32 :: st) h sz sl o) : hp_V G M pc lv (.int x :: st) h sz sl o :=
  fun p e R s m args below meth c H locs cells slots ls C hH hz hl hS hc hs => lv_i2b C.1 C.2.1 hd rfl (k p e R s m args below meth c H locs cells slots ls C hH hz hl hS hc hs)
theorem hv_lcmp {x y : Int64} (hd : decode M.2.1 pc = .ok (.lcmp, 1)) (k : hp_V G M (pc + 1) lv (.int (lg_cmp x y) :: st) h sz sl o) : hp_V G M pc lv (.long y :: .long x :: st) h sz sl o :=
  fun p e R s m args below meth c H locs cells slots ls C hH hz hl hS hc hs => W.lcmp C.1 C.2.1 hd (k p e R s m args below meth c H locs cells slots ls C hH hz hl hS hc hs)
theorem hv_dup {va : Value} (hd : decode M.2.1 pc = .ok (.dup, 1)) (h1 : va.category = 1) (k : hp_V G M (pc + 1) lv (va :: va :: st) h sz sl o) : hp_V G M pc lv (va :: st) h sz sl o :=
  fun p e R s m args below meth c H locs cells slots ls C hH hz hl hS hc hs => lv_dup C.1 C.2.1 hd h1 (k p e R s m args below meth c H locs cells slots ls C hH hz hl hS hc hs)
theorem hv_pop {va : Value} (hd : decode M.2.1 pc = .ok (.pop, 1)) (h1 : va.category = 1) (k : hp_V G M (pc + 1) lv (st) h sz sl o) : hp_V G M pc lv (va :: st) h sz sl o :=
  fun p e R s m args below meth c H locs cells slots ls C hH hz hl hS hc hs => lv_pop C.1 C.2.1 hd h1 (k p e R s m args below meth c H locs cells slots ls C hH hz hl hS hc hs)
theorem hv_dup2_11 {va vb : Value} (hd : decode M.2.1 pc = .ok (.dup2, 1)) (h1 : va.category = 1) (h2 : vb.category = 1) (k : hp_V G M (pc + 1) lv (va :: vb :: va :: vb :: st) h sz sl o) : hp_V G M pc lv (va :: vb :: st) h sz sl o :=
  fun p e R s m args below meth c H locs cells slots ls C hH hz hl hS hc hs => lv_dup2_11 C.1 C.2.1 hd h1 h2 (k p e R s m args below meth c H locs cells slots ls C hH hz hl hS hc hs)
theorem hv_ldc {index : Nat} (v : Int32) (hd : decode M.2.1 pc = .ok (.ldc index, 2)) (hw : Cond.constant M.1 index v ∈ lw_g) (k : hp_V G M (pc + 2) lv (.int v :: st) h sz sl o) : hp_V G M pc lv (st) h sz sl o :=
  fun p e R s m args below meth c H locs cells slots ls C hH hz hl hS hc hs => lv_ldc C.1 C.2.1 C.2.2.2.2.1 (C.2.2.2.2.2.1 _ hw) hd (k p e R s m args below meth c H locs cells slots ls C hH hz hl hS hc hs)
theorem hv_ldcw {index : Nat} (v : Int32) (hd : decode M.2.1 pc = .ok (.ldc_w index, 3)) (hw : Cond.constant M.1 index v ∈ lw_g) (k : hp_V G M (pc + 3) lv (.int v :: st) h sz sl o) : hp_V G M pc lv (st) h sz sl o :=
  fun p e R s m args below meth c H locs cells slots ls C hH hz hl hS hc hs => lv_ldcw C.1 C.2.1 C.2.2.2.2.1 (C.2.2.2.2.2.1 _ hw) hd (k p e R s m args below meth c H locs cells slots ls C hH hz hl hS hc hs)
theorem hv_ldc2 {index : Nat} (v : Int64) (hd : decode M.2.1 pc = .ok (.ldc2_w index, 3)) (hw : Cond.constantLong M.1 index v ∈ lw_g) (k : hp_V G M (pc + 3) lv (.long v :: st) h sz sl o) : hp_V G M pc lv (st) h sz sl o :=
  fun p e R s m args below meth c H locs cells slots ls C hH hz hl hS hc hs => lv_ldc2 C.1 C.2.1 C.2.2.2.2.1 (C.2.2.2.2.2.1 _ hw) hd (k p e R s m args below meth c H locs cells slots ls C hH hz hl hS hc hs)
theorem hv_if_eq {x : Int32} {off : Int} {tgt : Nat} (hd : decode M.2.1 pc = .ok (.ifCond .eq off, 3)) (ht : (pc : Int) + off = (tgt : Int)) (kt : x = 0 → hp_V G M tgt lv st h sz sl o) (kf : ¬ x = 0 → hp_V G M (pc + 3) lv st h sz sl o) : hp_V G M pc lv (.int x :: st) h sz sl o :=
  fun p e R s m args below meth c H locs cells slots ls C hH hz hl hS hc hs => lv_if_eq C.1 C.2.1 hd ht (fun q => kt q p e R s m args below meth c H locs cells slots ls C hH hz hl hS hc hs) (fun q => kf q p e R s m args below meth c H locs cells slots ls C hH hz hl hS hc hs)
theorem hv_if_ne {x : Int32} {off : Int} {tgt : Nat} (hd : decode M.2.1 pc = .ok (.ifCond .ne off, 3)) (ht : (pc : Int) + off = (tgt : Int)) (kt : ¬ x = 0 → hp_V G M tgt lv st h sz sl o) (kf : x = 0 → hp_V G M (pc + 3) lv st h sz sl o) : hp_V G M pc lv (.int x :: st) h sz sl o :=
  fun p e R s m args below meth c H locs cells slots ls C hH hz hl hS hc hs => lv_if_ne C.1 C.2.1 hd ht (fun q => kt q p e R s m args below meth c H locs cells slots ls C hH hz hl hS hc hs) (fun q => kf q p e R s m args below meth c H locs cells slots ls C hH hz hl hS hc hs)
theorem hv_if_lt {x : Int32} {off : Int} {tgt : Nat} (hd : decode M.2.1 pc = .ok (.ifCond .lt off, 3)) (ht : (pc : Int) + off = (tgt : Int)) (kt : x < 0 → hp_V G M tgt lv st h sz sl o) (kf : ¬ x < 0 → hp_V G M (pc + 3) lv st h sz sl o) : hp_V G M pc lv (.int x :: st) h sz sl o :=
  fun p e R s m args below meth c H locs cells slots ls C hH hz hl hS hc hs => lv_if_lt C.1 C.2.1 hd ht (fun q => kt q p e R s m args below meth c H locs cells slots ls C hH hz hl hS hc hs) (fun q => kf q p e R s m args below meth c H locs cells slots ls C hH hz hl hS hc hs)
theorem hv_if_ge {x : Int32} {off : Int} {tgt : Nat} (hd : decode M.2.1 pc = .ok (.ifCond .ge off, 3)) (ht : (pc : Int) + off = (tgt : Int)) (kt : 0 ≤ x → hp_V G M tgt lv st h sz sl o) (kf : ¬ 0 ≤ x → hp_V G M (pc + 3) lv st h sz sl o) : hp_V G M pc lv (.int x :: st) h sz sl o :=
  fun p e R s m args below meth c H locs cells slots ls C hH hz hl hS hc hs => lv_if_ge C.1 C.2.1 hd ht (fun q => kt q p e R s m args below meth c H locs cells slots ls C hH hz hl hS hc hs) (fun q => kf q p e R s m args below meth c H locs cells slots ls C hH hz hl hS hc hs)
theorem hv_if_gt {x : Int32} {off : Int} {tgt : Nat} (hd : decode M.2.1 pc = .ok (.ifCond .gt off, 3)) (ht : (pc : Int) + off = (tgt : Int)) (kt : 0 < x → hp_V G M tgt lv st h sz sl o) (kf : ¬ 0 < x → hp_V G M (pc + 3) lv st h sz sl o) : hp_V G M pc lv (.int x :: st) h sz sl o :=
  fun p e R s m args below meth c H locs cells slots ls C hH hz hl hS hc hs => lv_if_gt C.1 C.2.1 hd ht (fun q => kt q p e R s m args below meth c H locs cells slots ls C hH hz hl hS hc hs) (fun q => kf q p e R s m args below meth c H locs cells slots ls C hH hz hl hS hc hs)
theorem hv_if_le {x : Int32} {off : Int} {tgt : Nat} (hd : decode M.2.1 pc = .ok (.ifCond .le off, 3)) (ht : (pc : Int) + off = (tgt : Int)) (kt : x ≤ 0 → hp_V G M tgt lv st h sz sl o) (kf : ¬ x ≤ 0 → hp_V G M (pc + 3) lv st h sz sl o) : hp_V G M pc lv (.int x :: st) h sz sl o :=
  fun p e R s m args below meth c H locs cells slots ls C hH hz hl hS hc hs => lv_if_le C.1 C.2.1 hd ht (fun q => kt q p e R s m args below meth c H locs cells slots ls C hH hz hl hS hc hs) (fun q => kf q p e R s m args below meth c H locs cells slots ls C hH hz hl hS hc hs)
theorem hv_icmp_eq {x y : Int32} {off : Int} {tgt : Nat} (hd : decode M.2.1 pc = .ok (.if_icmp .eq off, 3)) (ht : (pc : Int) + off = (tgt : Int)) (kt : x = y → hp_V G M tgt lv st h sz sl o) (kf : ¬ x = y → hp_V G M (pc + 3) lv st h sz sl o) : hp_V G M pc lv (.int y :: .int x :: st) h sz sl o :=
  fun p e R s m args below meth c H locs cells slots ls C hH hz hl hS hc hs => lv_icmp_eq C.1 C.2.1 hd ht (fun q => kt q p e R s m args below meth c H locs cells slots ls C hH hz hl hS hc hs) (fun q => kf q p e R s m args below meth c H locs cells slots ls C hH hz hl hS hc hs)
theorem hv_icmp_ne {x y : Int32} {off : Int} {tgt : Nat} (hd : decode M.2.1 pc = .ok (.if_icmp .ne off, 3)) (ht : (pc : Int) + off = (tgt : Int)) (kt : ¬ x = y → hp_V G M tgt lv st h sz sl o) (kf : x = y → hp_V G M (pc + 3) lv st h sz sl o) : hp_V G M pc lv (.int y :: .int x :: st) h sz sl o :=
  fun p e R s m args below meth c H locs cells slots ls C hH hz hl hS hc hs => lv_icmp_ne C.1 C.2.1 hd ht (fun q => kt q p e R s m args below meth c H locs cells slots ls C hH hz hl hS hc hs) (fun q => kf q p e R s m args below meth c H locs cells slots ls C hH hz hl hS hc hs)
theorem hv_icmp_lt {x y : Int32} {off : Int} {tgt : Nat} (hd : decode M.2.1 pc = .ok (.if_icmp .lt off, 3)) (ht : (pc : Int) + off = (tgt : Int)) (kt : x < y → hp_V G M tgt lv st h sz sl o) (kf : ¬ x < y → hp_V G M (pc + 3) lv st h sz sl o) : hp_V G M pc lv (.int y :: .int x :: st) h sz sl o :=
  fun p e R s m args below meth c H locs cells slots ls C hH hz hl hS hc hs => lv_icmp_lt C.1 C.2.1 hd ht (fun q => kt q p e R s m args below meth c H locs cells slots ls C hH hz hl hS hc hs) (fun q => kf q p e R s m args below meth c H locs cells slots ls C hH hz hl hS hc hs)
theorem hv_icmp_ge {x y : Int32} {off : Int} {tgt : Nat} (hd : decode M.2.1 pc = .ok (.if_icmp .ge off, 3)) (ht : (pc : Int) + off = (tgt : Int)) (kt : y ≤ x → hp_V G M tgt lv st h sz sl o) (kf : ¬ y ≤ x → hp_V G M (pc + 3) lv st h sz sl o) : hp_V G M pc lv (.int y :: .int x :: st) h sz sl o :=
  fun p e R s m args below meth c H locs cells slots ls C hH hz hl hS hc hs => lv_icmp_ge C.1 C.2.1 hd ht (fun q => kt q p e R s m args below meth c H locs cells slots ls C hH hz hl hS hc hs) (fun q => kf q p e R s m args below meth c H locs cells slots ls C hH hz hl hS hc hs)
theorem hv_icmp_gt {x y : Int32} {off : Int} {tgt : Nat} (hd : decode M.2.1 pc = .ok (.if_icmp .gt off, 3)) (ht : (pc : Int) + off = (tgt : Int)) (kt : y < x → hp_V G M tgt lv st h sz sl o) (kf : ¬ y < x → hp_V G M (pc + 3) lv st h sz sl o) : hp_V G M pc lv (.int y :: .int x :: st) h sz sl o :=
  fun p e R s m args below meth c H locs cells slots ls C hH hz hl hS hc hs => lv_icmp_gt C.1 C.2.1 hd ht (fun q => kt q p e R s m args below meth c H locs cells slots ls C hH hz hl hS hc hs) (fun q => kf q p e R s m args below meth c H locs cells slots ls C hH hz hl hS hc hs)
theorem hv_icmp_le {x y : Int32} {off : Int} {tgt : Nat} (hd : decode M.2.1 pc = .ok (.if_icmp .le off, 3)) (ht : (pc : Int) + off = (tgt : Int)) (kt : x ≤ y → hp_V G M tgt lv st h sz sl o) (kf : ¬ x ≤ y → hp_V G M (pc + 3) lv st h sz sl o) : hp_V G M pc lv (.int y :: .int x :: st) h sz sl o :=
  fun p e R s m args below meth c H locs cells slots ls C hH hz hl hS hc hs => lv_icmp_le C.1 C.2.1 hd ht (fun q => kt q p e R s m args below meth c H locs cells slots ls C hH hz hl hS hc hs) (fun q => kf q p e R s m args below meth c H locs cells slots ls C hH hz hl hS hc hs)
theorem hv_goto {off : Int} {tgt : Nat} (hd : decode M.2.1 pc = .ok (.goto off, 3)) (ht : (pc : Int) + off = (tgt : Int)) (k : hp_V G M tgt lv st h sz sl o) : hp_V G M pc lv st h sz sl o :=
  fun p e R s m args below meth c H locs cells slots ls C hH hz hl hS hc hs => lv_goto C.1 C.2.1 hd ht (k p e R s m args below meth c H locs cells slots ls C hH hz hl hS hc hs)
theorem hv_lookup {dflt : Int} {ps : Array (Int × Int)} {len : Nat} {x : Int32} {off : Int} {tgt : Nat} (hd : decode M.2.1 pc = .ok (.lookupswitch dflt ps, len)) (hp : (ps.toList.zip (ps.toList.drop 1)).all (fun (a, next) => a.1 < next.1) = true) (ho : Op.lookupswitch.offset ps.toList dflt x.toInt = off) (ht : (pc : Int) + off = (tgt : Int)) (k : hp_V G M tgt lv st h sz sl o) : hp_V G M pc lv (.int x :: st) h sz sl o :=
  fun p e R s m args below meth c H locs cells slots ls C hH hz hl hS hc hs => lv_lookup C.1 C.2.1 hd hp ho ht (k p e R s m args below meth c H locs cells slots ls C hH hz hl hS hc hs)
theorem hv_tabOut {dflt lo hi : Int} {offs : Array Int} {len : Nat} {x : Int32} {tgt : Nat} (hd : decode M.2.1 pc = .ok (.tableswitch dflt lo hi offs, len)) (hb : x.toInt < lo ∨ hi < x.toInt) (ht : (pc : Int) + dflt = (tgt : Int)) (k : hp_V G M tgt lv st h sz sl o) : hp_V G M pc lv (.int x :: st) h sz sl o :=
  fun p e R s m args below meth c H locs cells slots ls C hH hz hl hS hc hs => lv_tableOut C.1 C.2.1 hd hb ht (k p e R s m args below meth c H locs cells slots ls C hH hz hl hS hc hs)
theorem hv_tabIn {dflt lo hi : Int} {offs : Array Int} {len : Nat} {x : Int32} {off : Int} {tgt : Nat} (hd : decode M.2.1 pc = .ok (.tableswitch dflt lo hi offs, len)) (h1 : ¬ x.toInt < lo) (h2 : ¬ hi < x.toInt) (ho : offs[(x.toInt - lo).toNat]? = some off) (ht : (pc : Int) + off = (tgt : Int)) (k : hp_V G M tgt lv st h sz sl o) : hp_V G M pc lv (.int x :: st) h sz sl o :=
  fun p e R s m args below meth c H locs cells slots ls C hH hz hl hS hc hs => lv_tableIn C.1 C.2.1 hd h1 h2 ho ht (k p e R s m args below meth c H locs cells slots ls C hH hz hl hS hc hs)
end HPV
end
section
/-! What a method reads and writes in a heap that is a function -/
def hp_w (h : hp_H) (a : Nat) (e : hp_E) : hp_H := fun q => if q = a then some e else h q
def hp_f (h : hp_H) (ci a k : Nat) : Option Value := match h a with
  | some (.inr (.inr (c, V))) => if c = ci then some (V k) else none
  | _ => none
def hp_fI (h : hp_H) (ci a k : Nat) : Option Int32 := match hp_f h ci a k with
  | some (.int x) => some x
  | _ => none
def hp_fR (h : hp_H) (ci a k : Nat) : Option Nat := match hp_f h ci a k with
  | some (.ref x) => some x
  | _ => none
def hp_in (i : Int32) (n : Nat) : Prop := 0 ≤ i.toInt ∧ i.toInt < (n : Int)
theorem hp_in_def (i : Int32) (n : Nat) : hp_in i n ↔ (0 ≤ i.toInt ∧ i.toInt < (n : Int)) := Iff.rfl
def hp_aI (h : hp_H) (t a : Nat) (i : Int32) : Option Int32 := match h a with
  | some (.inl (t2, n, f)) => if t2 = t ∧ (0 ≤ i.toInt ∧ i.toInt < (n : Int)) then some (f i.toNatClampNeg) else none
  | _ => none
def hp_aJ (h : hp_H) (a : Nat) (i : Int32) : Option Int64 := match h a with
  | some (.inr (.inl (n, f))) => if 0 ≤ i.toInt ∧ i.toInt < (n : Int) then some (f i.toNatClampNeg) else none
  | _ => none
def hp_len (h : hp_H) (a : Nat) : Option Int32 := match h a with
  | some (.inl (_, n, _)) => some (Int32.ofNat n)
  | some (.inr (.inl (n, _))) => some (Int32.ofNat n)
  | _ => none
def hp_pF (h : hp_H) (ci a k : Nat) (v : Value) : Option hp_H := match h a with
  | some (.inr (.inr (c, V))) => if c = ci then some (hp_w h a (.inr (.inr (c, updV V k v)))) else none
  | _ => none
def hp_nar (t : Nat) (x : Int32) : Int32 := match t with
  | 0 => x
  | 1 => vp_nar .byte x
  | _ => vp_nar .boolean x
def hp_sI (h : hp_H) (t a : Nat) (i x : Int32) : Option hp_H := match h a with
  | some (.inl (t2, n, f)) => if t2 = t ∧ (0 ≤ i.toInt ∧ i.toInt < (n : Int)) then some (hp_w h a (.inl (t2, n, upd f i.toNatClampNeg (hp_nar t x)))) else none
  | _ => none
def hp_sJ (h : hp_H) (a : Nat) (i : Int32) (x : Int64) : Option hp_H := match h a with
  | some (.inr (.inl (n, f))) => if 0 ≤ i.toInt ∧ i.toInt < (n : Int) then some (hp_w h a (.inr (.inl (n, vp_updL f i.toNatClampNeg x)))) else none
  | _ => none
theorem hp_f_spec {h : hp_H} {ci a k : Nat} {v : Value} (e : hp_f h ci a k = some v) : ∃ V, h a = some (.inr (.inr (ci, V))) ∧ V k = v := by
  unfold hp_f at e
  split at e
  · rename_i c V he
    split at e
    · rename_i hc
      subst hc
      exact ⟨V, he, Option.some.inj e⟩
    · cases e
  · cases e
theorem hp_fI_spec {h : hp_H} {ci a k : Nat} {v : Int32} (e : hp_fI h ci a k = some v) : hp_f h ci a k = some (.int v) := by
  unfold hp_fI at e
  split at e
  · rename_i x he
    rw [he, Option.some.inj e]
  · cases e
theorem hp_fR_spec {h : hp_H} {ci a k : Nat} {v : Nat} (e : hp_fR h ci a k = some v) : hp_f h ci a k = some (.ref v) := by
  unfold hp_fR at e
  split at e
  · rename_i x he
    rw [he, Option.some.inj e]
  · cases e
theorem hp_aI_spec {h : hp_H} {t a : Nat} {i v : Int32} (e : hp_aI h t a i = some v) : ∃ n f, h a = some (.inl (t, n, f)) ∧ vp_in i n ∧ f i.toNatClampNeg = v := by
  unfold hp_aI at e
  split at e
  · rename_i t2 n f he
    split at e
    · rename_i hc
      obtain ⟨rfl, hc⟩ := hc
      exact ⟨n, f, he, vp_in_iff.mpr hc, Option.some.inj e⟩
    · cases e
  · cases e
theorem hp_aJ_spec {h : hp_H} {a : Nat} {i : Int32} {v : Int64} (e : hp_aJ h a i = some v) : ∃ n f, h a = some (.inr (.inl (n, f))) ∧ vp_in i n ∧ f i.toNatClampNeg = v := by
  unfold hp_aJ at e
  split at e
  · rename_i n f he
    split at e
    · rename_i hc
      exact ⟨n, f, he, vp_in_iff.mpr hc, Option.some.inj e⟩
    · cases e
  · cases e
theorem hp_pF_spec {h h2 : hp_H} {ci a k : Nat} {v : Value} (e : hp_pF h ci a k v = some h2) : ∃ V, h a = some (.inr (.inr (ci, V))) ∧ h2 = hp_w h a (.inr (.inr (ci, updV V k v))) := by
  unfold hp_pF at e
  split at e
  · rename_i c V he
    split at e
    · rename_i hc
      subst hc
      exact ⟨V, he, (Option.some.inj e).symm⟩
    · cases e
  · cases e
theorem hp_sI_spec {h h2 : hp_H} {t a : Nat} {i x : Int32} (e : hp_sI h t a i x = some h2) : ∃ n f, h a = some (.inl (t, n, f)) ∧ vp_in i n ∧ h2 = hp_w h a (.inl (t, n, upd f i.toNatClampNeg (hp_nar t x))) := by
  unfold hp_sI at e
  split at e
  · rename_i t2 n f he
    split at e
    · rename_i hc
      obtain ⟨rfl, hc⟩ := hc
      exact ⟨n, f, he, vp_in_iff.mpr hc, (Option.some.inj e).symm⟩
    · cases e
  · cases e
theorem hp_sJ_spec {h h2 : hp_H} {a : Nat} {i : Int32} {x : Int64} (e : hp_sJ h a i x = some h2) : ∃ n f, h a = some (.inr (.inl (n, f))) ∧ vp_in i n ∧ h2 = hp_w h a (.inr (.inl (n, vp_updL f i.toNatClampNeg x))) := by
  unfold hp_sJ at e
  split at e
  · rename_i n f he
    split at e
    · rename_i hc
      exact ⟨n, f, he, vp_in_iff.mpr hc, (Option.some.inj e).symm⟩
    · cases e
  · cases e
theorem hp_at.kept {G : hp_G} {e : hp_E} {a : Nat} {H H1 : Heap} (h : hp_at G e a H) (hq : H1[a]? = H[a]?) : hp_at G e a H1 := by
  obtain ⟨t, n, f⟩ | ⟨n, f⟩ | ⟨ci, V⟩ := e
  · exact ⟨h.1, hq.trans h.2⟩
  · exact hq.trans h
  · obtain ⟨r, h1, h2⟩ := h
    exact ⟨r, h1, h2.kept hq⟩
theorem hp_at.lt {G : hp_G} {e : hp_E} {a : Nat} {H : Heap} (h : hp_at G e a H) : a < H.size := by
  obtain ⟨t, n, f⟩ | ⟨n, f⟩ | ⟨ci, V⟩ := e
  · exact (Array.getElem?_eq_some_iff.mp h.2).1
  · exact (Array.getElem?_eq_some_iff.mp h).1
  · obtain ⟨r, h1, cell, h2, -⟩ := h
    exact (Array.getElem?_eq_some_iff.mp h2).1
/-- one cell is written, the others stay -/
theorem hp_ok.put {G : hp_G} {h : hp_H} {H H1 : Heap} {a : Nat} {e : hp_E} (hH : hp_ok G h H) (hb : G.2.1 ≤ a) (he : hp_at G e a H1) (hq : ∀ q : Nat, q ≠ a → H1[q]? = H[q]?) : hp_ok G (hp_w h a e) H1 := by
  intro q e2 h2
  unfold hp_w at h2
  split at h2
  · rename_i hqa
    subst hqa
    cases h2
    exact ⟨hb, he⟩
  · rename_i hqa
    obtain ⟨h3, h4⟩ := hH q e2 h2
    exact ⟨h3, h4.kept (hq q hqa)⟩
/-- a cell comes -/
theorem hp_ok.push {G : hp_G} {h : hp_H} {H H1 : Heap} {e : hp_E} (hH : hp_ok G h H) (hb : G.2.1 ≤ H.size) (he : hp_at G e H.size H1) (hq : ∀ q : Nat, q < H.size → H1[q]? = H[q]?) : hp_ok G (hp_w h H.size e) H1 := by
  intro q e2 h2
  unfold hp_w at h2
  split at h2
  · rename_i hqa
    subst hqa
    cases h2
    exact ⟨hb, he⟩
  · obtain ⟨h3, h4⟩ := hH q e2 h2
    exact ⟨h3, h4.kept (hq q h4.lt)⟩
/-- a class of the list, with its words -/
def hp_CL (ci : Nat) (C : String) (T : u_T) (N : Nat) (ty : Nat → FieldType) : Prop :=
  hp_cl[ci]? = some (C, T, N) ∧ (∀ w ∈ u_ws C T N, w ∈ lw_g) ∧ (∀ k, k < N → parseFieldDescriptor (T k).2.2.1 = some (ty k)) ∧ (∀ a, a < N → ∀ b, b < N → a ≠ b → (T a).2.1 ≠ (T b).2.1)
/-- a field's link: the pool's place in the class own is field k of class ci, of type ty, final or not -/
def hp_FL (own : String) (index ci k : Nat) (fin : Bool) (ty : FieldType) : Prop :=
  ∃ (C : String) (T : u_T) (N : Nat) (ty0 : Nat → FieldType), hp_CL ci C T N ty0 ∧ k < N ∧ ty0 k = ty ∧ (T k).2.2.2 = fin ∧ (T k).1 = C ∧ Cond.fieldLink own index C (T k).2.1 (T k).2.2.1 ∈ lw_g
section HPR
variable {G : hp_G} {M : hp_M} {pc : Nat} {lv : List (Nat × Value)} {st : List Value} {h h2 : hp_H} {sz sl : Nat} {o : hp_O}
theorem hv_get {index ci a k : Nat} {fin : Bool} {ty : FieldType} {v : Value} (hF : hp_FL M.1 index ci k fin ty) (hd : decode M.2.1 pc = .ok (.getfield index, 3)) (hv : hp_f h ci a k = some v) (kk : hp_V G M (pc + 3) lv (v :: st) h sz sl o) : hp_V G M pc lv (.ref a :: st) h sz sl o := by
  intro p e R s m args below meth c H locs cells slots ls C hH hz hl hS hc hs
  obtain ⟨V, ha, hV⟩ := hp_f_spec hv
  obtain ⟨Cn, T, N, ty0, ⟨g1, g2, g3, g4⟩, g5, g6, g7, g8, g9⟩ := hF
  obtain ⟨hbase, r, h1, cell, q1, q2, q3, q4⟩ := hH a _ ha
  have hr : r = (Cn, T, N) := Option.some.inj (h1.symm.trans g1)
  subst hr
  have hts := C.2.2.2.2.2.1
  obtain ⟨hSl, hfc, kC, hkC, hkind⟩ := C.2.2.2.2.2.2.2.2.1.1 ci _ g1
  obtain ⟨cf, kf, fi, f, hi, hsl⟩ := hSl k g5
  rw [g8] at hi
  refine W.getf C.1 C.2.1 C.2.2.2.2.1 (hts _ g9) hi (u_facts hfc hkC (by have := u_lays hts g2 g5; rw [g8] at this; exact this) hi).1 q1 (by rw [q3]; exact fun h => by cases h) (v := v) ?_ rfl rfl hd (kk p e R s m args below meth c H locs cells slots ls C hH hz hl hS hc hs)
  rw [hsl, q4 k g5, hV]
theorem hv_put {index ci a k : Nat} {ty : FieldType} {v : Value} (hF : hp_FL M.1 index ci k false ty) (hd : decode M.2.1 pc = .ok (.putfield index, 3)) (hn : narrow ty v = v) (hfit : fits ty v = true) (hw : hp_pF h ci a k v = some h2) (kk : hp_V G M (pc + 3) lv st h2 sz sl o) : hp_V G M pc lv (v :: .ref a :: st) h sz sl o := by
  intro p e R s m args below meth c H locs cells slots ls C hH hz hl hS hc hs
  obtain ⟨V, ha, rfl⟩ := hp_pF_spec hw
  obtain ⟨Cn, T, N, ty0, ⟨g1, g2, g3, g4⟩, g5, g6, g7, g8, g9⟩ := hF
  subst g6
  obtain ⟨hbase, r, h1, cell, q1, q2, q3, q4⟩ := hH a _ ha
  have hr : r = (Cn, T, N) := Option.some.inj (h1.symm.trans g1)
  subst hr
  have hts := C.2.2.2.2.2.1
  have hK := C.2.2.2.2.2.2.2.2.1
  have hap := va_apart (own := M.1) hts g2 ty0 g3 g4 hK g1
  obtain ⟨hSl, hfc, kC, hkC, hkind⟩ := hK.1 ci _ g1
  obtain ⟨cf, kf, fi, f, hi, hsl⟩ := hSl k g5
  have hlay := hts _ (g2 _ (u_in_lay g5))
  unfold u_lay at hlay
  rw [if_neg (by rw [g7]; decide)] at hlay
  have hst := (u_facts hfc hkC (u_lays hts g2 g5) hi).1
  have h6 := u_store hfc hkC hkind hlay hi (g3 k g5) hn hfit
  rw [g8] at hi
  refine W.putK C.1 C.2.1 (f := f) ⟨C.2.2.2.2.1, hts _ g9, ⟨_, _, _, hi⟩, hst⟩ (by rw [q2]; exact h6) q1 q3 (by rw [hsl]; exact k2_hasslot (q4 k g5)) rfl rfl hd fun H' e1 e2 e3 => ?_
  rw [hsl] at e1 ⊢
  exact kk p e R s m args below meth c H' _ cells slots ls C (hH.put hbase ⟨_, g1, _, e1, q2, q3, t_set q4 hap g5 v⟩ e3) (e2.trans hz) hl (hS.put e2 e3 hbase) hc hs
theorem hv_putF {index ci a k : Nat} {ty : FieldType} {v : Value} (hF : hp_FL M.1 index ci k true ty) (hown : ∀ C T N, hp_cl[ci]? = some (C, T, N) → C = M.1) (hi : M.2.2.2.2.2.2 = "<init>") (hd : decode M.2.1 pc = .ok (.putfield index, 3)) (hn : narrow ty v = v) (hfit : fits ty v = true) (hw : hp_pF h ci a k v = some h2) (kk : hp_V G M (pc + 3) lv st h2 sz sl o) : hp_V G M pc lv (v :: .ref a :: st) h sz sl o := by
  intro p e R s m args below meth c H locs cells slots ls C hH hz hl hS hc hs
  obtain ⟨V, ha, rfl⟩ := hp_pF_spec hw
  obtain ⟨Cn, T, N, ty0, ⟨g1, g2, g3, g4⟩, g5, g6, g7, g8, g9⟩ := hF
  subst g6
  obtain ⟨hbase, r, h1, cell, q1, q2, q3, q4⟩ := hH a _ ha
  have hr : r = (Cn, T, N) := Option.some.inj (h1.symm.trans g1)
  subst hr
  have hts := C.2.2.2.2.2.1
  have hK := C.2.2.2.2.2.2.2.2.1
  have hap := va_apart (own := M.1) hts g2 ty0 g3 g4 hK g1
  obtain ⟨hSl, hfc, kC, hkC, hkind⟩ := hK.1 ci _ g1
  obtain ⟨cf, kf, fi, f, hif, hsl⟩ := hSl k g5
  have hlay := hts _ (g2 _ (u_in_lay g5))
  unfold u_lay at hlay
  rw [if_pos g7] at hlay
  have hst := (u_facts hfc hkC (u_lays hts g2 g5) hif).1
  have hcf : m.cls = cf := by
    obtain ⟨_, _, c', _, _, _, -, -, hf', -, -, -, hown2, -⟩ := Cond.laysFinal_spec hlay
    have e1 : c' = cf := by have := hif.symm.trans hf'; simp at this; exact this.1.symm
    rw [g8, hown _ _ _ g1] at hown2
    rw [← e1]; exact Option.some.inj (C.2.2.2.2.1.symm.trans hown2)
  have h6 := u_fits hfc hkC hkind (Or.inr hlay) hif (g3 k g5) hn hfit
  rw [g8] at hif
  refine W.putFinK C.1 C.2.1 C.2.2.2.2.1 (hts _ g9) hif hst hcf (C.2.2.2.2.2.2.2.1.trans hi) (by rw [q2]; exact h6) q1 q3 (by rw [hsl]; exact k2_hasslot (q4 k g5)) rfl rfl hd fun H' e1 e2 e3 => ?_
  rw [hsl] at e1 ⊢
  exact kk p e R s m args below meth c H' _ cells slots ls C (hH.put hbase ⟨_, g1, _, e1, q2, q3, t_set q4 hap g5 v⟩ e3) (e2.trans hz) hl (hS.put e2 e3 hbase) hc hs
theorem hv_iald {a : Nat} {i v : Int32} (hd : decode M.2.1 pc = .ok (.iaload, 1)) (hv : hp_aI h 0 a i = some v) (kk : hp_V G M (pc + 1) lv (.int v :: st) h sz sl o) : hp_V G M pc lv (.int i :: .ref a :: st) h sz sl o := by
  intro p e R s m args below meth c H locs cells slots ls C hH hz hl hS hc hs
  obtain ⟨n, f, ha, hin, rfl⟩ := hp_aI_spec hv
  obtain ⟨hbase, -, h1⟩ := hH a _ ha
  have hlt : i.toNatClampNeg < n := Nat.not_le.mp fun q => hin (Or.inr q)
  exact W.iald (v := .int (f i.toNatClampNeg)) C.1 C.2.1 h1 ((C.2.2.2.2.2.2.2.2.1.2 0 _ rfl).1 n (fun j => .int (f j))) (fun q => by cases q) (by rw [arrV_size]; exact hin) (by rw [arrV_read _ _ hlt]) rfl rfl hd (kk p e R s m args below meth c H locs cells slots ls C hH hz hl hS hc hs)
theorem hv_bald {a : Nat} {i v : Int32} (hd : decode M.2.1 pc = .ok (.baload, 1)) (hv : hp_aI h 1 a i = some v) (kk : hp_V G M (pc + 1) lv (.int v :: st) h sz sl o) : hp_V G M pc lv (.int i :: .ref a :: st) h sz sl o := by
  intro p e R s m args below meth c H locs cells slots ls C hH hz hl hS hc hs
  obtain ⟨n, f, ha, hin, rfl⟩ := hp_aI_spec hv
  obtain ⟨hbase, -, h1⟩ := hH a _ ha
  have hlt : i.toNatClampNeg < n := Nat.not_le.mp fun q => hin (Or.inr q)
  exact W.bald (v := .int (f i.toNatClampNeg)) C.1 C.2.1 h1 ((C.2.2.2.2.2.2.2.2.1.2 1 _ rfl).1 n (fun j => .int (f j))) (fun q => by cases q) (by rw [arrV_size]; exact hin) (by rw [arrV_read _ _ hlt]) rfl rfl hd (kk p e R s m args below meth c H locs cells slots ls C hH hz hl hS hc hs)
theorem hv_zald {a : Nat} {i v : Int32} (hd : decode M.2.1 pc = .ok (.baload, 1)) (hv : hp_aI h 2 a i = some v) (kk : hp_V G M (pc + 1) lv (.int v :: st) h sz sl o) : hp_V G M pc lv (.int i :: .ref a :: st) h sz sl o := by
  intro p e R s m args below meth c H locs cells slots ls C hH hz hl hS hc hs
  obtain ⟨n, f, ha, hin, rfl⟩ := hp_aI_spec hv
  obtain ⟨hbase, -, h1⟩ := hH a _ ha
  have hlt : i.toNatClampNeg < n := Nat.not_le.mp fun q => hin (Or.inr q)
  exact W.zald (v := .int (f i.toNatClampNeg)) C.1 C.2.1 h1 ((C.2.2.2.2.2.2.2.2.1.2 2 _ rfl).1 n (fun j => .int (f j))) (fun q => by cases q) (by rw [arrV_size]; exact hin) (by rw [arrV_read _ _ hlt]) rfl rfl hd (kk p e R s m args below meth c H locs cells slots ls C hH hz hl hS hc hs)
theorem hv_lald {a : Nat} {i : Int32} {v : Int64} (hd : decode M.2.1 pc = .ok (.laload, 1)) (hv : hp_aJ h a i = some v) (kk : hp_V G M (pc + 1) lv (.long v :: st) h sz sl o) : hp_V G M pc lv (.int i :: .ref a :: st) h sz sl o := by
  intro p e R s m args below meth c H locs cells slots ls C hH hz hl hS hc hs
  obtain ⟨n, f, ha, hin, rfl⟩ := hp_aJ_spec hv
  obtain ⟨hbase, h1⟩ := hH a _ ha
  have hlt : i.toNatClampNeg < n := Nat.not_le.mp fun q => hin (Or.inr q)
  exact W.lald (v := .long (f i.toNatClampNeg)) C.1 C.2.1 h1 ((C.2.2.2.2.2.2.2.2.1.2 3 _ rfl).1 n (fun j => .long (f j))) (fun q => by cases q) (by rw [arrV_size]; exact hin) (by rw [arrV_read _ _ hlt]) rfl rfl hd (kk p e R s m args below meth c H locs cells slots ls C hH hz hl hS hc hs)
theorem hp_arrI {cA : ClassId} {n : Nat} {f : Nat → Int32} {k : Nat} {x : Int32} : (arrV cA n (fun j => .int (f j))).setSlot k (.int x) = arrV cA n (fun j => .int (upd f k x j)) := by
  rw [arrV_store]
  congr 1
  funext q
  by_cases hq : q = k
  · subst hq; simp [updV, upd]
  · simp [updV, upd, hq]
theorem hp_arrJ {cA : ClassId} {n : Nat} {f : Nat → Int64} {k : Nat} {x : Int64} : (arrV cA n (fun j => .long (f j))).setSlot k (.long x) = arrV cA n (fun j => .long (vp_updL f k x j)) := by
  rw [arrV_store]
  congr 1
  funext q
  by_cases hq : q = k
  · subst hq; simp [updV, vp_updL]
  · simp [updV, vp_updL, hq]
theorem hv_iast {a : Nat} {i x : Int32} (hd : decode M.2.1 pc = .ok (.iastore, 1)) (hw : hp_sI h 0 a i x = some h2) (kk : hp_V G M (pc + 1) lv st h2 sz sl o) : hp_V G M pc lv (.int x :: .int i :: .ref a :: st) h sz sl o := by
  intro p e R s m args below meth c H locs cells slots ls C hH hz hl hS hc hs
  obtain ⟨n, f, ha, hin, rfl⟩ := hp_sI_spec hw
  obtain ⟨hbase, h0, h1⟩ := hH a _ ha
  refine W.iast C.1 C.2.1 h1 ((C.2.2.2.2.2.2.2.2.1.2 0 _ rfl).1 n (fun j => .int (f j))) (fun q => by cases q) (by rw [arrV_size]; exact hin) rfl rfl hd fun H1 e1 z oq => ?_
  exact kk p e R s m args below meth c H1 _ cells slots ls C (hH.put hbase ⟨h0, by rw [e1]; exact congrArg some hp_arrI⟩ oq) (z.trans hz) hl (hS.put z oq hbase) hc hs
theorem hv_bast {a : Nat} {i x : Int32} (hd : decode M.2.1 pc = .ok (.bastore, 1)) (hw : hp_sI h 1 a i x = some h2) (kk : hp_V G M (pc + 1) lv st h2 sz sl o) : hp_V G M pc lv (.int x :: .int i :: .ref a :: st) h sz sl o := by
  intro p e R s m args below meth c H locs cells slots ls C hH hz hl hS hc hs
  obtain ⟨n, f, ha, hin, rfl⟩ := hp_sI_spec hw
  obtain ⟨hbase, h0, h1⟩ := hH a _ ha
  refine W.bast C.1 C.2.1 h1 ((C.2.2.2.2.2.2.2.2.1.2 1 _ rfl).1 n (fun j => .int (f j))) (fun q => by cases q) (by rw [arrV_size]; exact hin) rfl rfl hd fun H1 e1 z oq => ?_
  exact kk p e R s m args below meth c H1 _ cells slots ls C (hH.put hbase ⟨h0, by rw [e1]; exact congrArg some hp_arrI⟩ oq) (z.trans hz) hl (hS.put z oq hbase) hc hs
theorem hv_zast {a : Nat} {i x : Int32} (hd : decode M.2.1 pc = .ok (.bastore, 1)) (hw : hp_sI h 2 a i x = some h2) (kk : hp_V G M (pc + 1) lv st h2 sz sl o) : hp_V G M pc lv (.int x :: .int i :: .ref a :: st) h sz sl o := by
  intro p e R s m args below meth c H locs cells slots ls C hH hz hl hS hc hs
  obtain ⟨n, f, ha, hin, rfl⟩ := hp_sI_spec hw
  obtain ⟨hbase, h0, h1⟩ := hH a _ ha
  refine W.zast C.1 C.2.1 h1 ((C.2.2.2.2.2.2.2.2.1.2 2 _ rfl).1 n (fun j => .int (f j))) (fun q => by cases q) (by rw [arrV_size]; exact hin) rfl rfl hd fun H1 e1 z oq => ?_
  exact kk p e R s m args below meth c H1 _ cells slots ls C (hH.put hbase ⟨h0, by rw [e1]; exact congrArg some hp_arrI⟩ oq) (z.trans hz) hl (hS.put z oq hbase) hc hs
theorem hv_last {a : Nat} {i : Int32} {x : Int64} (hd : decode M.2.1 pc = .ok (.lastore, 1)) (hw : hp_sJ h a i x = some h2) (kk : hp_V G M (pc + 1) lv st h2 sz sl o) : hp_V G M pc lv (.long x :: .int i :: .ref a :: st) h sz sl o := by
  intro p e R s m args below meth c H locs cells slots ls C hH hz hl hS hc hs
  obtain ⟨n, f, ha, hin, rfl⟩ := hp_sJ_spec hw
  obtain ⟨hbase, h1⟩ := hH a _ ha
  refine W.last C.1 C.2.1 h1 ((C.2.2.2.2.2.2.2.2.1.2 3 _ rfl).1 n (fun j => .long (f j))) (fun q => by cases q) (by rw [arrV_size]; exact hin) rfl rfl hd fun H1 e1 z oq => ?_
  exact kk p e R s m args below meth c H1 _ cells slots ls C (hH.put hbase (by show H1[a]? = _; rw [e1]; exact congrArg some hp_arrJ) oq) (z.trans hz) hl (hS.put z oq hbase) hc hs
theorem hv_alen {a : Nat} {v : Int32} (hd : decode M.2.1 pc = .ok (.arraylength, 1)) (hv : hp_len h a = some v) (kk : hp_V G M (pc + 1) lv (.int v :: st) h sz sl o) : hp_V G M pc lv (.ref a :: st) h sz sl o := by
  intro p e R s m args below meth c H locs cells slots ls C hH hz hl hS hc hs
  have hK := C.2.2.2.2.2.2.2.2.1
  unfold hp_len at hv
  split at hv
  · rename_i t n f ha
    obtain ⟨hbase, h0, h1⟩ := hH a _ ha
    have hA : ∃ ty, ArrOfT s (G.2.2.2 t) ty := by
      rcases (show t = 0 ∨ t = 1 ∨ t = 2 by omega) with rfl | rfl | rfl
      · exact ⟨_, (hK.2 0 _ rfl).1⟩
      · exact ⟨_, (hK.2 1 _ rfl).1⟩
      · exact ⟨_, (hK.2 2 _ rfl).1⟩
    obtain ⟨ty, hA⟩ := hA
    exact W.alen (n := v) C.1 C.2.1 h1 (hA n (fun j => .int (f j))) (by rw [arrV_size]; exact Option.some.inj hv) rfl rfl hd (kk p e R s m args below meth c H locs cells slots ls C hH hz hl hS hc hs)
  · rename_i n f ha
    obtain ⟨hbase, h1⟩ := hH a _ ha
    exact W.alen (n := v) C.1 C.2.1 h1 ((hK.2 3 _ rfl).1 n (fun j => .long (f j))) (by rw [arrV_size]; exact Option.some.inj hv) rfl rfl hd (kk p e R s m args below meth c H locs cells slots ls C hH hz hl hS hc hs)
  · cases hv
end HPR
end
section
/-! Making, ending, calling -/
theorem hp_wordsOk : lw_g.all goodWord = true := List.all_eq_true.mpr fun _ h => (List.mem_filter.mp h).2
theorem hp_good {y : MethodName} {b : ByteArray} {n : Nat} {r : Option FieldType} (hc : Cond.code y b n r ∈ lw_g) : GoodIn lw_g (.code y b n r :: lw_g) := by
  have key : ∀ w ∈ lw_g, w ∈ lw_g ∧ ((w.onTables && w.keeps) = true ∨ ∃ ty, w = .arrayClass ty) := fun w hw => ⟨hw, good_of_word (List.all_eq_true.mp hp_wordsOk w hw)⟩
  intro w hw
  rcases List.mem_cons.mp hw with rfl | h1
  · exact key _ hc
  · exact key _ h1
def hp_nw (h : hp_H) (sz : Nat) (ci : Nat) (ty : Nat → FieldType) : hp_H := hp_w h sz (.inr (.inr (ci, fun k => defaultValue (ty k))))
def hp_na (h : hp_H) (sz : Nat) (t n : Nat) : hp_H := hp_w h sz (.inl (t, n, fun _ => 0))
def hp_nj (h : hp_H) (sz : Nat) (n : Nat) : hp_H := hp_w h sz (.inr (.inl (n, fun _ => 0)))
/-- what a method is, by the tables' words -/
def hp_Y (y : MethodName) (M : hp_M) (n : Nat) : Prop :=
  Cond.code y M.2.1 M.2.2.1 M.2.2.2.1 ∈ lw_g ∧ Cond.initialized y.cls ∈ lw_g ∧ (y.cls ≠ "java/lang/invoke/MethodHandle" ∧ y.cls ≠ "java/lang/invoke/VarHandle" ∧ (parseMethodDescriptor y.desc).map (fun d => d.parameters.length) = some n)
section HPC
variable {G : hp_G} {M : hp_M} {pc : Nat} {lv : List (Nat × Value)} {st : List Value} {h h2 : hp_H} {sz sl : Nat} {o : hp_O}
theorem hv_new {index ci N : Nat} {C : String} {T : u_T} {ty : Nat → FieldType} (hF : hp_CL ci C T N ty) (hw : Cond.classLink M.1 index C ∈ lw_g ∧ Cond.instantiable C N ∈ lw_g ∧ Cond.initialized C ∈ lw_g) (hd : decode M.2.1 pc = .ok (.new index, 3)) (h1 : sz + 1 ≤ o.2.2.1) (h3 : sl + N ≤ o.2.2.2) (kk : hp_V G M (pc + 3) lv (.ref sz :: st) (hp_nw h sz ci ty) (sz + 1) (sl + N) o) : hp_V G M pc lv st h sz sl o := by
  intro p e R s m args below meth c H locs cells slots ls C0 hH hz hl hS hc hs
  obtain ⟨g1, g2, g3, g4⟩ := hF
  have hts := C0.2.2.2.2.2.1
  have hKn := C0.2.2.2.2.2.2.2.2.1.1 ci _ g1
  refine W.newcK C0.1 C0.2.1 C0.2.2.2.2.1 (hts _ hw.1) (hts _ hw.2.1) (hts _ hw.2.2) rfl hd (by omega) (by omega) hKn.2.1 hz fun H1 kC hkC e1 z1 o1 => ?_
  subst hz
  refine kk p e R s m args below meth c H1 locs (cells + 1) (slots + N) ls C0 (hH.push (Nat.le_trans C0.2.2.2.2.2.2.2.2.2.1 hS.1) ⟨_, g1, u_born ty hts g2 hKn hkC e1 g3⟩ o1) z1 hl ⟨by have := hS.1; omega, fun q q1 q2 => by rw [o1 q (Nat.lt_of_lt_of_le q1 hS.1)]; exact hS.2.1 q q1 q2, hS.2.2⟩ (by omega) (by omega)
theorem hp_na_eq {cA : ClassId} {n : Nat} (ty : FieldType) (hty : defaultValue ty = .int 0) : arrV cA n (fun _ => defaultValue ty) = arrV cA n (fun _ => .int 0) := by rw [hty]
theorem hp_nI {n : Int32} {N : Nat} (hn : n.toInt = (N : Int)) : ¬ n < 0 ∧ n.toNatClampNeg = N := by
  refine ⟨fun q => ?_, ?_⟩
  · have := Int32.lt_iff_toInt_lt.mp q
    rw [Int32.toInt_zero] at this
    omega
  · show n.toInt.toNat = N
    omega
theorem hv_newI {n : Int32} {N : Nat} (hw : Cond.arrayClass .int ∈ lw_g) (hn : n.toInt = (N : Int)) (hN : N ≤ 1000000) (hd : decode M.2.1 pc = .ok (.newarray .int, 2)) (h1 : sz + 1 ≤ o.2.2.1) (h3 : sl + N ≤ o.2.2.2) (kk : hp_V G M (pc + 2) lv (.ref sz :: st) (hp_na h sz 0 N) (sz + 1) (sl + N) o) : hp_V G M pc lv (.int n :: st) h sz sl o := by
  intro p e R s m args below meth c H locs cells slots ls C0 hH hz hl hS hc hs
  have hts := C0.2.2.2.2.2.1
  have hK := C0.2.2.2.2.2.2.2.2.1
  refine va_newaK (atype := .int) C0.1 C0.2.1 (hts _ hw) rfl hd rfl (hp_nI hn).1 (hp_nI hn).2 (by show N * componentBytes .int ≤ _; simp [componentBytes]; omega) (by omega) (by omega) hz fun H1 cA e1 z1 o1 hAr hNm => ?_
  have hcA : cA = G.2.2.2 0 := Option.some.inj (hNm.symm.trans (hK.2 0 _ rfl).2)
  subst hcA
  subst hz
  exact kk p e R s m args below meth c H1 locs (cells + 1) (slots + N) ls C0 (hH.push (Nat.le_trans C0.2.2.2.2.2.2.2.2.2.1 hS.1) ⟨by decide, e1⟩ o1) z1 hl ⟨by have := hS.1; omega, fun q q1 q2 => by rw [o1 q (Nat.lt_of_lt_of_le q1 hS.1)]; exact hS.2.1 q q1 q2, hS.2.2⟩ (by omega) (by omega)
theorem hv_newB {n : Int32} {N : Nat} (hw : Cond.arrayClass .byte ∈ lw_g) (hn : n.toInt = (N : Int)) (hN : N ≤ 1000000) (hd : decode M.2.1 pc = .ok (.newarray .byte, 2)) (h1 : sz + 1 ≤ o.2.2.1) (h3 : sl + N ≤ o.2.2.2) (kk : hp_V G M (pc + 2) lv (.ref sz :: st) (hp_na h sz 1 N) (sz + 1) (sl + N) o) : hp_V G M pc lv (.int n :: st) h sz sl o := by
  intro p e R s m args below meth c H locs cells slots ls C0 hH hz hl hS hc hs
  have hts := C0.2.2.2.2.2.1
  have hK := C0.2.2.2.2.2.2.2.2.1
  refine va_newaK (atype := .byte) C0.1 C0.2.1 (hts _ hw) rfl hd rfl (hp_nI hn).1 (hp_nI hn).2 (by show N * componentBytes .byte ≤ _; simp [componentBytes]; omega) (by omega) (by omega) hz fun H1 cA e1 z1 o1 hAr hNm => ?_
  have hcA : cA = G.2.2.2 1 := Option.some.inj (hNm.symm.trans (hK.2 1 _ rfl).2)
  subst hcA
  subst hz
  exact kk p e R s m args below meth c H1 locs (cells + 1) (slots + N) ls C0 (hH.push (Nat.le_trans C0.2.2.2.2.2.2.2.2.2.1 hS.1) ⟨by decide, e1⟩ o1) z1 hl ⟨by have := hS.1; omega, fun q q1 q2 => by rw [o1 q (Nat.lt_of_lt_of_le q1 hS.1)]; exact hS.2.1 q q1 q2, hS.2.2⟩ (by omega) (by omega)
theorem hv_newZ {n : Int32} {N : Nat} (hw : Cond.arrayClass .boolean ∈ lw_g) (hn : n.toInt = (N : Int)) (hN : N ≤ 1000000) (hd : decode M.2.1 pc = .ok (.newarray .boolean, 2)) (h1 : sz + 1 ≤ o.2.2.1) (h3 : sl + N ≤ o.2.2.2) (kk : hp_V G M (pc + 2) lv (.ref sz :: st) (hp_na h sz 2 N) (sz + 1) (sl + N) o) : hp_V G M pc lv (.int n :: st) h sz sl o := by
  intro p e R s m args below meth c H locs cells slots ls C0 hH hz hl hS hc hs
  have hts := C0.2.2.2.2.2.1
  have hK := C0.2.2.2.2.2.2.2.2.1
  refine va_newaK (atype := .boolean) C0.1 C0.2.1 (hts _ hw) rfl hd rfl (hp_nI hn).1 (hp_nI hn).2 (by show N * componentBytes .boolean ≤ _; simp [componentBytes]; omega) (by omega) (by omega) hz fun H1 cA e1 z1 o1 hAr hNm => ?_
  have hcA : cA = G.2.2.2 2 := Option.some.inj (hNm.symm.trans (hK.2 2 _ rfl).2)
  subst hcA
  subst hz
  exact kk p e R s m args below meth c H1 locs (cells + 1) (slots + N) ls C0 (hH.push (Nat.le_trans C0.2.2.2.2.2.2.2.2.2.1 hS.1) ⟨by decide, e1⟩ o1) z1 hl ⟨by have := hS.1; omega, fun q q1 q2 => by rw [o1 q (Nat.lt_of_lt_of_le q1 hS.1)]; exact hS.2.1 q q1 q2, hS.2.2⟩ (by omega) (by omega)
theorem hv_newJ {n : Int32} {N : Nat} (hw : Cond.arrayClass .long ∈ lw_g) (hn : n.toInt = (N : Int)) (hN : N ≤ 1000000) (hd : decode M.2.1 pc = .ok (.newarray .long, 2)) (h1 : sz + 1 ≤ o.2.2.1) (h3 : sl + N ≤ o.2.2.2) (kk : hp_V G M (pc + 2) lv (.ref sz :: st) (hp_nj h sz N) (sz + 1) (sl + N) o) : hp_V G M pc lv (.int n :: st) h sz sl o := by
  intro p e R s m args below meth c H locs cells slots ls C0 hH hz hl hS hc hs
  have hts := C0.2.2.2.2.2.1
  have hK := C0.2.2.2.2.2.2.2.2.1
  refine va_newaK (atype := .long) C0.1 C0.2.1 (hts _ hw) rfl hd rfl (hp_nI hn).1 (hp_nI hn).2 (by show N * componentBytes .long ≤ _; simp [componentBytes]; omega) (by omega) (by omega) hz fun H1 cA e1 z1 o1 hAr hNm => ?_
  have hcA : cA = G.2.2.2 3 := Option.some.inj (hNm.symm.trans (hK.2 3 _ rfl).2)
  subst hcA
  subst hz
  exact kk p e R s m args below meth c H1 locs (cells + 1) (slots + N) ls C0 (hH.push (Nat.le_trans C0.2.2.2.2.2.2.2.2.2.1 hS.1) e1 o1) z1 hl ⟨by have := hS.1; omega, fun q q1 q2 => by rw [o1 q (Nat.lt_of_lt_of_le q1 hS.1)]; exact hS.2.1 q q1 q2, hS.2.2⟩ (by omega) (by omega)
theorem hv_iret {v : Int32} (hr : M.2.2.2.1 = some .int) (hd : decode M.2.1 pc = .ok (.ireturn, 1)) : hp_V G M pc lv [.int v] h sz sl (some (.int v), h, sz, sl) := by
  intro p e R s m args below meth c H locs cells slots ls C hH hz hl hS hc hs
  refine W.widen (k := R.cells) (n := R.slots) (by simp at hc; omega) (by simp at hs; omega) ?_
  exact W.iret (v := v) C.1 C.2.1 (C.2.2.1.trans hr) (fun t ht hW => ⟨⟨rfl, by rw [ht]; exact hH, by rw [ht]; exact hz, va_K.moved hW.alike C.2.2.2.2.2.2.2.2.1, hp_N.warm hW C.2.2.2.2.2.2.2.2.2.2.2.2⟩, hS.F ht⟩) hS.2.2 hd C.2.2.2.2.2.2.1
theorem hv_zret {v : Int32} (hr : M.2.2.2.1 = some .boolean) (hv : v = 0 ∨ v = 1) (hd : decode M.2.1 pc = .ok (.ireturn, 1)) : hp_V G M pc lv [.int v] h sz sl (some (.int v), h, sz, sl) := by
  intro p e R s m args below meth c H locs cells slots ls C hH hz hl hS hc hs
  refine W.widen (k := R.cells) (n := R.slots) (by simp at hc; omega) (by simp at hs; omega) ?_
  exact W.zret (v := v) C.1 C.2.1 (C.2.2.1.trans hr) (by rcases hv with rfl | rfl <;> rfl) (fun t ht hW => ⟨⟨rfl, by rw [ht]; exact hH, by rw [ht]; exact hz, va_K.moved hW.alike C.2.2.2.2.2.2.2.2.1, hp_N.warm hW C.2.2.2.2.2.2.2.2.2.2.2.2⟩, hS.F ht⟩) hS.2.2 hd C.2.2.2.2.2.2.1
theorem hv_vret (hr : M.2.2.2.1 = none) (hd : decode M.2.1 pc = .ok (.return_, 1)) : hp_V G M pc lv [] h sz sl (none, h, sz, sl) := by
  intro p e R s m args below meth c H locs cells slots ls C hH hz hl hS hc hs
  refine W.widen (k := R.cells) (n := R.slots) (by simp at hc; omega) (by simp at hs; omega) ?_
  exact W.vret C.1 C.2.1 (C.2.2.1.trans hr) (fun t ht hW => ⟨⟨rfl, by rw [ht]; exact hH, by rw [ht]; exact hz, va_K.moved hW.alike C.2.2.2.2.2.2.2.2.1, hp_N.warm hW C.2.2.2.2.2.2.2.2.2.2.2.2⟩, hS.F ht⟩) hS.2.2 hd C.2.2.2.2.2.2.1
theorem hv_aret {a : Nat} {rt : FieldType} (hr : M.2.2.2.1 = some rt) (hrt : (∃ n, rt = .object n) ∨ ∃ t, rt = .array t) (hd : decode M.2.1 pc = .ok (.areturn, 1)) : hp_V G M pc lv [.ref a] h sz sl (some (.ref a), h, sz, sl) := by
  intro p e R s m args below meth c H locs cells slots ls C hH hz hl hS hc hs
  refine W.widen (k := R.cells) (n := R.slots) (by simp at hc; omega) (by simp at hs; omega) ?_
  exact W.aret C.1 C.2.1 (C.2.2.1.trans hr) hrt (Or.inr ⟨a, rfl⟩) (fun t ht hW => ⟨⟨rfl, by rw [ht]; exact hH, by rw [ht]; exact hz, va_K.moved hW.alike C.2.2.2.2.2.2.2.2.1, hp_N.warm hW C.2.2.2.2.2.2.2.2.2.2.2.2⟩, hS.F ht⟩) hS.2.2 hd C.2.2.2.2.2.2.1
theorem hv_objInit {index a : Nat} (hw : Cond.methodLink M.1 index Lib.objectInit ∈ lw_g ∧ Cond.instanceMethod Lib.objectInit ∈ lw_g ∧ Cond.code Lib.objectInit ⟨#[0xb1]⟩ 1 none ∈ lw_g) (hR : 1 ≤ M.2.2.2.2.1 ∧ 12 ≤ M.2.2.2.2.2.1) (hd : decode M.2.1 pc = .ok (.invokespecial index, 3)) (k : hp_V G M (pc + 3) lv [] h sz sl o) : hp_V G M pc lv [.ref a] h sz sl o := by
  intro p e R s m args below meth c H locs cells slots ls C hH hz hl hS hc hs
  have hts := C.2.2.2.2.2.1
  exact W.objInit C.1 C.2.1 C.2.2.2.2.1 (hts _ hw.1) (hts _ hw.2.1) (hts _ hw.2.2) rfl (hl.1.trans C.2.2.2.1.symm) rfl hd (by rw [C.2.2.2.2.2.2.2.2.2.2.1]; exact hR.1) (by rw [C.2.2.2.2.2.2.2.2.2.2.2.1]; exact hR.2) (k p e R s m args below meth c H locs cells slots ls C hH hz hl hS hc hs)
theorem hp_blind {as : List Value} : FrameBlind (va_Pc as (fun U => U.heap.size = sz ∧ hp_ok G h U.heap ∧ hp_K G U ∧ G.2.1 ≤ sz ∧ hp_N U)) := by
  intro a U g mk q
  obtain ⟨q0, q1, q2, q3, q4, q5⟩ := q
  exact ⟨q0, q1, q2, va_K.moved (u := U) (U := U.calling g mk a) (Vm.Alike.refl U.vm) q3, q4, hp_N.same (s := U) rfl q5⟩
/-- behind a call -/
theorem hv_behind {p : Program} {e : Env} {R : Room} {s : State} {m : MethodId} {args : Array Value} {below : List Frame} {meth : Method} {c : Code} {H : Heap} {locs : List Loc} {cells slots : Nat} {ls : Array Slot} {o1 : hp_O} {rest st0 : List Value} {a : Array Value}
    (hr : va_Run p G.1 e R s m args below meth c H locs cells slots (o1.2.2.1 - sz) (o1.2.2.2 - sl) (F0 m pc ls st0) rest (hp_Q G o1 a) (hp_A G))
    (C : hp_Cx G M p R s m args meth c) (hl : lv_has ls M.2.2.1 lv) (hS : va_S (hp_A G) s.heap H locs) (h1 : sz ≤ o1.2.2.1) (h3 : sl ≤ o1.2.2.2)
    (hc : cells + o.2.2.1 ≤ R.cells + sz) (hs : slots + o.2.2.2 ≤ R.slots + sl) (k : hp_V G M (pc + 3) lv (o1.1.toList ++ rest) o1.2.1 o1.2.2.1 o1.2.2.2 o) :
    W p G.1 e R s m args below meth c H locs cells slots (MQ below (hp_Q G o) args s R.cells R.slots (hp_A G)) (F0 m pc ls st0) := by
  intro T hT X
  obtain ⟨v, st₀, t, T', L, h0, X', hL, e1, e2, ⟨⟨hv, hH1, hz1, hK1, hN1⟩, hz, hk⟩, stp⟩ := hr T hT X
  cases hv
  rw [h0] at hz hk
  obtain ⟨t2, a1, b1⟩ := k p e R s m args below meth c T'.heap (locs ++ L) (cells + (o1.2.2.1 - sz)) (slots + (o1.2.2.2 - sl)) ls C (by rw [e1]; exact hH1) (by rw [e1]; exact hz1) hl
    ⟨Nat.le_trans hS.1 (by rw [e1]; exact hz), fun q q1 q2 => by rw [e1, hk q (Nat.lt_of_lt_of_le q1 hS.1) q2]; exact hS.2.1 q q1 q2, fun q hq => by
      rcases List.mem_append.mp hq with g | g
      · exact hS.2.2 q g
      · exact hL q g⟩ (by omega) (by omega) T' rfl X'
  exact ⟨t2, stp t2 a1, b1⟩
theorem hv_callV {index b ci n : Nat} {As rest : List Value} {y : MethodName} {M1 : hp_M} {o1 : hp_O} {V : Nat → Value} {T : u_T} {N : Nat} (hY : hp_Y y M1 n) (hI : Cond.instanceMethod y ∈ lw_g ∧ Cond.selects y.cls y y ∈ lw_g) (hL : Cond.methodLink M.1 index y ∈ lw_g) (hc1 : hp_cl[ci]? = some (y.cls, T, N))
    (hb : h b = some (.inr (.inr (ci, V)))) (hC : hp_C G M1 y (.ref b :: As) h sz sl o1) (hn : As.length = n) (hrest : (rest.map fun v => v.category).sum ≤ 8) (hR : M1.2.2.2.2.1 + 1 ≤ M.2.2.2.2.1 ∧ 8 + (M1.2.2.1 + 11) + M1.2.2.2.2.2.1 ≤ M.2.2.2.2.2.1)
    (h1 : o1.2.2.1 ≤ o.2.2.1) (h3 : o1.2.2.2 ≤ o.2.2.2) (hst : st = As.reverse ++ .ref b :: rest) (hd : decode M.2.1 pc = .ok (.invokevirtual index, 3)) (k : hp_V G M (pc + 3) lv (o1.1.toList ++ rest) o1.2.1 o1.2.2.1 o1.2.2.2 o) : hp_V G M pc lv st h sz sl o := by
  intro p e R s m args below meth c H locs cells slots ls C hH hz hl hS hc hs
  obtain ⟨hCz, hCs, hM⟩ := hC
  have hts := C.2.2.2.2.2.1
  have hK := C.2.2.2.2.2.2.2.2.1
  subst hst
  refine hv_behind (va_runV (g := F0 m pc ls (As.reverse ++ .ref b :: rest)) (n := n) (C := y.cls) ⟨C.1, C.2.1, C.2.2.2.1, C.2.2.2.2.1, hts⟩ hM ⟨callB_of n hts (hp_good hY.1) rfl rfl rfl (hts _ hY.2.1) (hts _ hL) hY.2.2 (by rw [C.2.2.2.2.2.2.2.2.2.2.1, C.2.2.2.2.2.2.2.2.2.2.2.1]; exact hR), hts _ hI.1, hts _ hI.2⟩ ⟨hp_blind, ?_, fun U hU hW => ⟨rfl, by rw [hU]; exact hz, by rw [hU]; exact hH, va_K.moved hW.alike hK, by rw [← hz]; exact Nat.le_trans C.2.2.2.2.2.2.2.2.2.1 hS.1, hp_N.warm hW C.2.2.2.2.2.2.2.2.2.2.2.2⟩⟩ rfl hn hl.1 rfl (lv_room hrest) hd ⟨by omega, by omega⟩) C hl hS hCz hCs hc hs k
  obtain ⟨hbase, r, g1, cell, q1, q2, q3, q4⟩ := hH b _ hb
  have hr : r = (y.cls, T, N) := Option.some.inj (g1.symm.trans hc1)
  subst hr
  obtain ⟨hSl, hfc, kC, hkC, hkind⟩ := hK.1 ci _ hc1
  exact ⟨cell, q1, by rw [q3]; rfl, by rw [q2]; exact hfc⟩
theorem hv_callS {index n : Nat} {As rest : List Value} {y : MethodName} {M1 : hp_M} {o1 : hp_O} (hY : hp_Y y M1 n) (hI : Cond.static y ∈ lw_g) (hL : Cond.methodLink M.1 index y ∈ lw_g)
    (hC : hp_C G M1 y As h sz sl o1) (hn : As.length = n) (hrest : (rest.map fun v => v.category).sum ≤ 8) (hR : M1.2.2.2.2.1 + 1 ≤ M.2.2.2.2.1 ∧ 8 + (M1.2.2.1 + 11) + M1.2.2.2.2.2.1 ≤ M.2.2.2.2.2.1)
    (h1 : o1.2.2.1 ≤ o.2.2.1) (h3 : o1.2.2.2 ≤ o.2.2.2) (hst : st = As.reverse ++ rest) (hd : decode M.2.1 pc = .ok (.invokestatic index, 3)) (k : hp_V G M (pc + 3) lv (o1.1.toList ++ rest) o1.2.1 o1.2.2.1 o1.2.2.2 o) : hp_V G M pc lv st h sz sl o := by
  intro p e R s m args below meth c H locs cells slots ls C hH hz hl hS hc hs
  obtain ⟨hCz, hCs, hM⟩ := hC
  have hts := C.2.2.2.2.2.1
  have hK := C.2.2.2.2.2.2.2.2.1
  subst hst
  exact hv_behind (va_runS (g := F0 m pc ls (As.reverse ++ rest)) (n := n) ⟨C.1, C.2.1, C.2.2.2.1, C.2.2.2.2.1, hts⟩ hM ⟨callB_of n hts (hp_good hY.1) rfl rfl rfl (hts _ hY.2.1) (hts _ hL) hY.2.2 (by rw [C.2.2.2.2.2.2.2.2.2.2.1, C.2.2.2.2.2.2.2.2.2.2.2.1]; exact hR), hts _ hI⟩ ⟨hp_blind, fun U hU hW => ⟨rfl, by rw [hU]; exact hz, by rw [hU]; exact hH, va_K.moved hW.alike hK, by rw [← hz]; exact Nat.le_trans C.2.2.2.2.2.2.2.2.2.1 hS.1, hp_N.warm hW C.2.2.2.2.2.2.2.2.2.2.2.2⟩⟩ rfl hn hl.1 rfl (lv_room hrest) hd ⟨by omega, by omega⟩) C hl hS hCz hCs hc hs k
theorem hv_callI {index b n : Nat} {As rest : List Value} {y : MethodName} {M1 : hp_M} {o1 : hp_O} (hY : hp_Y y M1 n) (hret : M1.2.2.2.1 = none) (hI : y.name = "<init>" ∧ Cond.instanceMethod y ∈ lw_g) (hL : Cond.methodLink M.1 index y ∈ lw_g)
    (hC : hp_C G M1 y (.ref b :: As) h sz sl o1) (hn : As.length = n) (hrest : (rest.map fun v => v.category).sum ≤ 8) (hR : M1.2.2.2.2.1 + 1 ≤ M.2.2.2.2.1 ∧ 8 + (M1.2.2.1 + 11) + M1.2.2.2.2.2.1 ≤ M.2.2.2.2.2.1)
    (h1 : o1.2.2.1 ≤ o.2.2.1) (h3 : o1.2.2.2 ≤ o.2.2.2) (hst : st = As.reverse ++ .ref b :: rest) (hd : decode M.2.1 pc = .ok (.invokespecial index, 3)) (k : hp_V G M (pc + 3) lv (o1.1.toList ++ rest) o1.2.1 o1.2.2.1 o1.2.2.2 o) : hp_V G M pc lv st h sz sl o := by
  intro p e R s m args below meth c H locs cells slots ls C hH hz hl hS hc hs
  obtain ⟨hCz, hCs, hM⟩ := hC
  have hts := C.2.2.2.2.2.1
  have hK := C.2.2.2.2.2.2.2.2.1
  subst hst
  obtain ⟨c1, c2, c3, c4, c5, c6, c7⟩ := M1
  dsimp only at hret
  subst hret
  exact hv_behind (va_runI (g := F0 m pc ls (As.reverse ++ .ref b :: rest)) (n := n) ⟨C.1, C.2.1, C.2.2.2.1, C.2.2.2.2.1, hts⟩ hM ⟨callB_of n hts (hp_good hY.1) rfl rfl rfl (hts _ hY.2.1) (hts _ hL) hY.2.2 (by rw [C.2.2.2.2.2.2.2.2.2.2.1, C.2.2.2.2.2.2.2.2.2.2.2.1]; exact hR), hI.1, hts _ hI.2⟩ ⟨hp_blind, fun U hU hW => ⟨rfl, by rw [hU]; exact hz, by rw [hU]; exact hH, va_K.moved hW.alike hK, by rw [← hz]; exact Nat.le_trans C.2.2.2.2.2.2.2.2.2.1 hS.1, hp_N.warm hW C.2.2.2.2.2.2.2.2.2.2.2.2⟩⟩ rfl hn hl.1 rfl (lv_room hrest) hd ⟨by omega, by omega⟩) C hl hS hCz hCs hc hs k
theorem hv_callIN {index b n : Nat} {host : String} {As rest : List Value} {y : MethodName} {M1 : hp_M} {o1 : hp_O} (hY : hp_Y y M1 n) (hret : M1.2.2.2.1 = none) (hI : y.name = "<init>" ∧ Cond.instanceMethod y ∈ lw_g) (hL : Cond.methodLinkNest M.1 index y host ∈ hp_nest)
    (hC : hp_C G M1 y (.ref b :: As) h sz sl o1) (hn : As.length = n) (hrest : (rest.map fun v => v.category).sum ≤ 8) (hR : M1.2.2.2.2.1 + 1 ≤ M.2.2.2.2.1 ∧ 8 + (M1.2.2.1 + 11) + M1.2.2.2.2.2.1 ≤ M.2.2.2.2.2.1)
    (h1 : o1.2.2.1 ≤ o.2.2.1) (h3 : o1.2.2.2 ≤ o.2.2.2) (hst : st = As.reverse ++ .ref b :: rest) (hd : decode M.2.1 pc = .ok (.invokespecial index, 3)) (k : hp_V G M (pc + 3) lv (o1.1.toList ++ rest) o1.2.1 o1.2.2.1 o1.2.2.2 o) : hp_V G M pc lv st h sz sl o := by
  intro p e R s m args below meth c H locs cells slots ls C hH hz hl hS hc hs
  obtain ⟨hCz, hCs, hM⟩ := hC
  have hts := C.2.2.2.2.2.1
  have hK := C.2.2.2.2.2.2.2.2.1
  subst hst
  obtain ⟨c1, c2, c3, c4, c5, c6, c7⟩ := M1
  dsimp only at hret
  subst hret
  have hc : Cond.code y c2 c3 none ∈ Cond.code y c2 c3 none :: lw_g := List.mem_cons_self
  have hlen : ∀ sig, parseMethodDescriptor y.desc = some sig → n = sig.parameters.length := fun sig hh => by
    have h2 := hY.2.2.2.2
    rw [hh] at h2
    exact (Option.some.inj h2).symm
  exact hv_behind (va_runIN (g := F0 m pc ls (As.reverse ++ .ref b :: rest)) (n := n) (host := host) ⟨C.1, C.2.1, C.2.2.2.1, C.2.2.2.2.1, hts⟩ hM ⟨⟨⟨rfl, rfl, by rw [C.2.2.2.2.2.2.2.2.2.2.1]; exact hR.1, by rw [C.2.2.2.2.2.2.2.2.2.2.2.1]; exact hR.2, pay_in hts (hp_good hY.1), hc⟩, hts _ hY.1, hts _ hY.2.1, ⟨hY.2.2.1, hY.2.2.2.1⟩, hlen, va_Nw.use rfl (C.2.2.2.2.2.2.2.2.2.2.2.2 _ hL)⟩, hI.1, hts _ hI.2⟩ ⟨hp_blind, fun U hU hW => ⟨rfl, by rw [hU]; exact hz, by rw [hU]; exact hH, va_K.moved hW.alike hK, by rw [← hz]; exact Nat.le_trans C.2.2.2.2.2.2.2.2.2.1 hS.1, hp_N.warm hW C.2.2.2.2.2.2.2.2.2.2.2.2⟩⟩ rfl hn hl.1 rfl (lv_room hrest) hd ⟨by omega, by omega⟩) C hl hS hCz hCs (by assumption) hs k
/-- a contract out of the walk from the entry -/
theorem hp_C_of {y : MethodName} {as : List Value} (hy : plainName y.cls = true) (hown : y.cls = M.1) (hnm : y.name = M.2.2.2.2.2.2) (hlen : (lg_sl as).length ≤ M.2.2.1) (h1 : sz ≤ o.2.2.1) (h3 : sl ≤ o.2.2.2) (k : hp_V G M 0 (lv_args 0 as) [] h sz sl o) : hp_C G M y as h sz sl o := by
  refine ⟨h1, h3, Met.ofW (cc := M.2.1) (maxL := M.2.2.1) (ret := M.2.2.2.1) hy rfl ?_⟩
  intro p e s m args below meth c s₁ B hml hv
  obtain ⟨rfl, hz, hH, hK, hb, hN⟩ := hv
  have hts : ∀ w ∈ lw_g, w.before as.toArray s = true := fun w hw => atoms_spec (ws := .code y M.2.1 M.2.2.1 M.2.2.2.1 :: lw_g) B.pre w (List.mem_cons_of_mem _ hw)
  have ho : s.vm.findClass y.cls = some m.cls := findClass_of_methodNamed B.named
  have hin : meth.name = y.name := (name_of_methodNamed B.named B.method).1
  have hl := lv_entry as (n := M.2.2.1) hlen
  rw [lg_entry_eq]
  exact k p e _ s m _ below meth c s.heap [] 0 0 _ ⟨B.exec, B.bytes, B.returns, hml, by rw [← hown]; exact ho, hts, B.notSynchronized, hin.trans hnm, hK, by rw [hz]; exact hb, rfl, rfl, hN⟩ hH hz hl va_S.rf (by show 0 + _ ≤ (o.2.2.1 - sz) + sz; omega) (by show 0 + _ ≤ (o.2.2.2 - sl) + sl; omega)
end HPC
end
section
/-! More of the calculus: fewer locals, the native copy, loops of the functions that stand for methods -/
theorem hv_sub {G : hp_G} {M : hp_M} {pc : Nat} {lv lv2 : List (Nat × Value)} {st : List Value} {h : hp_H} {sz sl : Nat} {o : hp_O} (ks : List Nat) (hk : lv_pick lv ks = lv2) (k : hp_V G M pc lv2 st h sz sl o) : hp_V G M pc lv st h sz sl o :=
  fun p e R s m args below meth c H locs cells slots ls C hH hz hl hS hc hs => k p e R s m args below meth c H locs cells slots ls C hH hz (lv_sub hl ks hk) hS hc hs
def hp_cp (h : hp_H) (a0 : Nat) (sp : Int32) (a : Nat) (dp n : Int32) : Option hp_H := match h a0, h a with
  | some (.inl (t0, n0, f)), some (.inl (t1, n1, g)) => if t0 = 0 ∧ t1 = 0 ∧ 0 ≤ sp.toInt ∧ 0 ≤ dp.toInt ∧ 0 ≤ n.toInt ∧ sp.toInt + n.toInt ≤ (n0 : Int) ∧ dp.toInt + n.toInt ≤ (n1 : Int) then some (hp_w h a (.inl (0, n1, va_cpy f g sp.toNatClampNeg dp.toNatClampNeg n.toNatClampNeg))) else none
  | _, _ => none
theorem hp_cp_spec {h h2 : hp_H} {a0 a : Nat} {sp dp n : Int32} (e : hp_cp h a0 sp a dp n = some h2) : ∃ n0 f n1 g, h a0 = some (.inl (0, n0, f)) ∧ h a = some (.inl (0, n1, g)) ∧ 0 ≤ sp.toInt ∧ 0 ≤ dp.toInt ∧ 0 ≤ n.toInt ∧ sp.toInt + n.toInt ≤ (n0 : Int) ∧ dp.toInt + n.toInt ≤ (n1 : Int) ∧ h2 = hp_w h a (.inl (0, n1, va_cpy f g sp.toNatClampNeg dp.toNatClampNeg n.toNatClampNeg)) := by
  unfold hp_cp at e
  split at e
  · rename_i t0 n0 f t1 n1 g e0 e1
    split at e
    · rename_i hc
      obtain ⟨rfl, rfl, c1, c2, c3, c4, c5⟩ := hc
      exact ⟨n0, f, n1, g, e0, e1, c1, c2, c3, c4, c5, (Option.some.inj e).symm⟩
    · cases e
  · cases e
theorem hp_nn {z : Int32} (hz : 0 ≤ z.toInt) : ¬ z < 0 ∧ z.toInt = (z.toNatClampNeg : Int) := by
  refine ⟨fun q => ?_, ?_⟩
  · have := Int32.lt_iff_toInt_lt.mp q
    rw [Int32.toInt_zero] at this
    omega
  · show z.toInt = ((z.toInt.toNat : Nat) : Int)
    omega
theorem hv_copy {G : hp_G} {M : hp_M} {pc : Nat} {lv : List (Nat × Value)} {h h2 : hp_H} {sz sl : Nat} {o : hp_O} {index a0 a : Nat} {sp dp n : Int32} (hw : Cond.methodLink M.1 index arraycopyName ∈ lw_g ∧ Cond.native arraycopyName ∈ lw_g ∧ Cond.static arraycopyName ∈ lw_g ∧ Cond.initialized "java/lang/System" ∈ lw_g)
    (hR : 1 ≤ M.2.2.2.2.1 ∧ nativeFrameWords "java/lang/System" "arraycopy" 5 + 11 ≤ M.2.2.2.2.2.1) (hd : decode M.2.1 pc = .ok (.invokestatic index, 3)) (hw2 : hp_cp h a0 sp a dp n = some h2) (kk : hp_V G M (pc + 3) lv [] h2 sz sl o) : hp_V G M pc lv [.int n, .int dp, .ref a, .int sp, .ref a0] h sz sl o := by
  intro p e R s m args below meth c H locs cells slots ls C hH hz hl hS hc hs
  obtain ⟨n0, f, n1, g, ha0, ha1, c1, c2, c3, c4, c5, rfl⟩ := hp_cp_spec hw2
  obtain ⟨hb0, -, hc0⟩ := hH a0 _ ha0
  obtain ⟨hb1, -, hc1⟩ := hH a _ ha1
  have hts := C.2.2.2.2.2.1
  have hK := C.2.2.2.2.2.2.2.2.1
  intro T hT X
  obtain ⟨-, k0, hk0, cm0, hkk0⟩ := (hK.2 0 _ rfl).1 n0 (fun j => .int (f j))
  obtain ⟨-, k1, hk1, cm1, hkk1⟩ := (hK.2 0 _ rfl).1 n1 (fun j => .int (g j))
  have e3 := (hp_nn c1).2
  have e4 := (hp_nn c2).2
  have e5 := (hp_nn c3).2
  obtain ⟨vm', X', step⟩ := X.arraycopy C.1 C.2.2.2.2.1 (hts _ hw.1) (hts _ hw.2.1) (hts _ hw.2.2.1) (hts _ hw.2.2.2) (src := a0) (dst := a) (cs := arrV (G.2.2.2 0) n0 (fun j => .int (f j))) (cd := arrV (G.2.2.2 0) n1 (fun j => .int (g j))) (srcPos := sp) (destPos := dp) (n := n) (by rw [hT]; exact hc0) (by rw [hT]; exact hc1)
    (fun _ h => by cases h) (fun _ h => by cases h) (fun h => by cases h) (fun h => by cases h) hk0 hk1 hkk0 hkk1 (by simp [refKind]) (hp_nn c1).1 (hp_nn c2).1 (hp_nn c3).1
    (by rw [arrV_size]; omega)
    (by rw [arrV_size]; omega)
    (fun vm₁ _ i hi => by
      have e : (arrV (G.2.2.2 0) n0 (fun j => .int (f j))).slots.getD (sp.toNatClampNeg + i) .null = .int (f (sp.toNatClampNeg + i)) := by
        rw [Array.getD_eq_getD_getElem?, arrV_read _ _ (by omega)]
        rfl
      refine ⟨?_, ?_⟩
      · rw [e]
        rfl
      · rw [e]
        exact trivial)
    (g := F0 m pc ls [.int n, .int dp, .ref a, .int sp, .ref a0]) rfl (by rw [hl.1, C.2.2.2.1]) (rest := []) rfl (by rw [C.2.1]; exact hd) (by rw [C.2.2.2.2.2.2.2.2.2.2.1]; exact hR.1) (by rw [C.2.2.2.2.2.2.2.2.2.2.2.1]; show 2 * 0 + 0 + _ ≤ _; have := hR.2; omega)
  have e1 : copied (arrV (G.2.2.2 0) n0 (fun j => .int (f j))) (arrV (G.2.2.2 0) n1 (fun j => .int (g j))) sp dp n = arrV (G.2.2.2 0) n1 (fun j => .int (va_cpy f g sp.toNatClampNeg dp.toNatClampNeg n.toNatClampNeg j)) := va_copied (fun z => .int z) (G.2.2.2 0) (G.2.2.2 0) f g (by omega)
  rw [e1] at X' step
  have hla : a < H.size := (Array.getElem?_eq_some_iff.mp hc1).1
  have hheap : ((T.setVm vm').setCell a (arrV (G.2.2.2 0) n1 (fun j => .int (va_cpy f g sp.toNatClampNeg dp.toNatClampNeg n.toNatClampNeg j)))).heap = H.setIfInBounds a (arrV (G.2.2.2 0) n1 (fun j => .int (va_cpy f g sp.toNatClampNeg dp.toNatClampNeg n.toNatClampNeg j))) := by rw [← hT]; rfl
  have oq : ∀ q : Nat, q ≠ a → (H.setIfInBounds a (arrV (G.2.2.2 0) n1 (fun j => .int (va_cpy f g sp.toNatClampNeg dp.toNatClampNeg n.toNatClampNeg j))))[q]? = H[q]? := fun q hq => by simp [Array.getElem?_setIfInBounds, Ne.symm hq]
  obtain ⟨t, a1, b1⟩ := kk p e R s m args below meth c _ _ cells slots ls C (hH.put hb1 ⟨by decide, (show (H.setIfInBounds a _)[a]? = some _ by simp [Array.getElem?_setIfInBounds, hla])⟩ oq) (by simp; exact hz) hl ⟨by simp; exact hS.1, fun q g1 g2 => by
      rw [oq q (fun e => g2 (by rw [e]; exact hb1))]
      exact hS.2.1 q g1 g2, fun q hq => by
      rcases List.mem_append.mp hq with h | h
      · exact hS.2.2 q h
      · obtain ⟨z, -, hz⟩ := List.mem_map.mp h
        rw [← hz]
        exact hb1⟩ hc hs _ hheap X'
  exact ⟨t, step t a1, b1⟩
/-- the receiver is an object of that class -/
def hp_ck (h : hp_H) (ci a : Nat) : Option Unit := match h a with
  | some (.inr (.inr (c, _))) => if c = ci then some () else none
  | _ => none
theorem hp_ck_spec {h : hp_H} {ci a : Nat} {u : Unit} (e : hp_ck h ci a = some u) : ∃ V, h a = some (.inr (.inr (ci, V))) := by
  unfold hp_ck at e
  split at e
  · rename_i c V he
    split at e
    · rename_i hc
      subst hc
      exact ⟨V, he⟩
    · cases e
  · cases e
def hp_bz (x : Int32) : Option Unit := if x = 0 ∨ x = 1 then some () else none
theorem hp_bz_spec {x : Int32} {u : Unit} (e : hp_bz x = some u) : x = 0 ∨ x = 1 := by
  unfold hp_bz at e
  split at e
  · assumption
  · cases e
theorem hp_bz_nar {x : Int32} (h : x = 0 ∨ x = 1) : narrow .boolean (.int x) = .int x := by rcases h with rfl | rfl <;> rfl
theorem hp_bz_fit {x : Int32} (h : x = 0 ∨ x = 1) : fits .boolean (.int x) = true := by rcases h with rfl | rfl <;> rfl
theorem hp_bd {α β : Type} {x : Option α} {f : α → Option β} {b : β} (h : x.bind f = some b) : ∃ a, x = some a ∧ f a = some b := by
  cases x with
  | none => cases h
  | some a => exact ⟨a, rfl, h⟩
def hp_lp {S X : Type} (b : S → Option (S ⊕ X)) : Nat → S → Option X
  | 0, _ => none
  | n + 1, s => (b s).bind fun r => Sum.elim (fun s2 => hp_lp b n s2) some r
theorem hp_lp_0 {S X : Type} {b : S → Option (S ⊕ X)} {s : S} {x : X} (h : hp_lp b 0 s = some x) : False := by cases h
theorem hp_lp_1 {S X : Type} {b : S → Option (S ⊕ X)} {n : Nat} {s : S} {x : X} (h : hp_lp b (n + 1) s = some x) : ∃ r, b s = some r ∧ ((∃ s2, r = .inl s2 ∧ hp_lp b n s2 = some x) ∨ r = .inr x) := by
  unfold hp_lp at h
  obtain ⟨r, h1, h2⟩ := hp_bd h
  refine ⟨r, h1, ?_⟩
  cases r with
  | inl s2 => exact Or.inl ⟨s2, rfl, h2⟩
  | inr y => exact Or.inr (congrArg Sum.inr (Option.some.inj h2))
end
section
theorem hv_as {G : hp_G} {M : hp_M} {pc : Nat} {lv : List (Nat × Value)} {st : List Value} {h : hp_H} {sz sl : Nat} {o : hp_O} (st2 : List Value) (h2 : hp_H) (e1 : st = st2) (e2 : h = h2) (k : hp_V G M pc lv st2 h2 sz sl o) : hp_V G M pc lv st h sz sl o := by
  subst e1; subst e2; exact k
theorem tb_1 {w : Cond} (h : w ∈ tables_1_1) : w ∈ tables_1 := List.mem_append_left _ h
theorem tb_2 {w : Cond} (h : w ∈ tables_1_2) : w ∈ tables_1 := List.mem_append_right _ (List.mem_append_left _ h)
theorem tb_3 {w : Cond} (h : w ∈ tables_1_3) : w ∈ tables_1 := List.mem_append_right _ (List.mem_append_right _ (List.mem_append_left _ h))
theorem tb_4 {w : Cond} (h : w ∈ tables_1_4) : w ∈ tables_1 := List.mem_append_right _ (List.mem_append_right _ (List.mem_append_right _ (List.mem_append_left _ h)))
theorem tb_5 {w : Cond} (h : w ∈ tables_1_5) : w ∈ tables_1 := List.mem_append_right _ (List.mem_append_right _ (List.mem_append_right _ (List.mem_append_right _ (List.mem_append_left _ h))))
theorem tb_6 {w : Cond} (h : w ∈ tables_1_6) : w ∈ tables_1 := List.mem_append_right _ (List.mem_append_right _ (List.mem_append_right _ (List.mem_append_right _ (List.mem_append_right _ (List.mem_append_left _ h)))))
theorem tb_7 {w : Cond} (h : w ∈ tables_1_7) : w ∈ tables_1 := List.mem_append_right _ (List.mem_append_right _ (List.mem_append_right _ (List.mem_append_right _ (List.mem_append_right _ (List.mem_append_right _ (List.mem_append_left _ h))))))
theorem tb_8 {w : Cond} (h : w ∈ tables_1_8) : w ∈ tables_1 := List.mem_append_right _ (List.mem_append_right _ (List.mem_append_right _ (List.mem_append_right _ (List.mem_append_right _ (List.mem_append_right _ (List.mem_append_right _ (h)))))))
theorem CL0 : hp_CL 0 RX0 TX0 18 tyX0 := ⟨rfl, hp_in0, tyX0_ok, nmX0⟩
theorem CL1 : hp_CL 1 RX1 TX1 6 tyX1 := ⟨rfl, hp_in1, tyX1_ok, nmX1⟩
theorem CL2 : hp_CL 2 RX2 TX2 5 tyX2 := ⟨rfl, hp_in2, tyX2_ok, nmX2⟩
theorem CL3 : hp_CL 3 RX3 TX3 13 tyX3 := ⟨rfl, hp_in3, tyX3_ok, nmX3⟩
theorem CL4 : hp_CL 4 RX4 TX4 11 tyX4 := ⟨rfl, hp_in4, tyX4_ok, nmX4⟩
theorem CL5 : hp_CL 5 RX5 TX5 4 tyX5 := ⟨rfl, hp_in5, tyX5_ok, nmX5⟩
theorem CL6 : hp_CL 6 RX6 TX6 5 tyX6 := ⟨rfl, hp_in6, tyX6_ok, nmX6⟩
theorem CL7 : hp_CL 7 RX7 TX7 13 tyX7 := ⟨rfl, hp_in7, tyX7_ok, nmX7⟩
theorem CL8 : hp_CL 8 RX8 TX8 3 tyX8 := ⟨rfl, hp_in8, tyX8_ok, nmX8⟩
theorem CL9 : hp_CL 9 RX9 TX9 17 tyX9 := ⟨rfl, hp_in9, tyX9_ok, nmX9⟩
theorem CL10 : hp_CL 10 RX10 TX10 11 tyX10 := ⟨rfl, hp_in10, tyX10_ok, nmX10⟩
theorem CL11 : hp_CL 11 RX11 TX11 86 tyX11 := ⟨rfl, hp_in11, tyX11_ok, nmX11⟩
theorem lk_k_L_7 : Cond.classLink RL 7 RX10 ∈ lw_g ∧ Cond.instantiable RX10 11 ∈ lw_g ∧ Cond.initialized RX10 ∈ lw_g := ⟨lw_gin (List.mem_append_right _ (tb_1 (List.mem_of_getElem? (i := 16) rfl))) rfl, lw_gin (List.mem_append_right _ (tb_1 (List.mem_of_getElem? (i := 17) rfl))) rfl, lw_gin (List.mem_append_right _ (tb_1 (List.mem_of_getElem? (i := 1) rfl))) rfl⟩
theorem lk_m_L_9 : Cond.methodLink RL 9 yX10_init ∈ lw_g := lw_gin (List.mem_append_right _ (tb_1 (List.mem_of_getElem? (i := 18) rfl))) rfl
theorem lk_o_X10_3 : Cond.methodLink RX10 3 Lib.objectInit ∈ lw_g ∧ Cond.instanceMethod Lib.objectInit ∈ lw_g ∧ Cond.code Lib.objectInit ⟨#[0xb1]⟩ 1 none ∈ lw_g := ⟨lw_gin (List.mem_append_right _ (tb_1 (List.mem_of_getElem? (i := 21) rfl))) rfl, lw_gin (List.mem_append_right _ (tb_1 (List.mem_of_getElem? (i := 22) rfl))) rfl, lw_gin (List.mem_append_right _ (tb_1 (List.mem_of_getElem? (i := 23) rfl))) rfl⟩
theorem lk_k_X10_9 : Cond.classLink RX10 9 RX0 ∈ lw_g ∧ Cond.instantiable RX0 18 ∈ lw_g ∧ Cond.initialized RX0 ∈ lw_g := ⟨lw_gin (List.mem_append_right _ (tb_1 (List.mem_of_getElem? (i := 24) rfl))) rfl, lw_gin (List.mem_append_right _ (tb_1 (List.mem_of_getElem? (i := 25) rfl))) rfl, lw_gin (List.mem_append_right _ (tb_1 (List.mem_of_getElem? (i := 2) rfl))) rfl⟩
theorem lk_m_X10_11 : Cond.methodLinkNest RX10 11 yX0_init "AxiomBook" ∈ hp_nest := by simp [hp_nest, RX10, yX0_init, RX0]
theorem lk_o_X0_3 : Cond.methodLink RX0 3 Lib.objectInit ∈ lw_g ∧ Cond.instanceMethod Lib.objectInit ∈ lw_g ∧ Cond.code Lib.objectInit ⟨#[0xb1]⟩ 1 none ∈ lw_g := ⟨lw_gin (List.mem_append_right _ (tb_1 (List.mem_of_getElem? (i := 29) rfl))) rfl, lw_gin (List.mem_append_right _ (tb_1 (List.mem_of_getElem? (i := 22) rfl))) rfl, lw_gin (List.mem_append_right _ (tb_1 (List.mem_of_getElem? (i := 23) rfl))) rfl⟩
theorem lk_k_X0_9 : Cond.classLink RX0 9 RX2 ∈ lw_g ∧ Cond.instantiable RX2 5 ∈ lw_g ∧ Cond.initialized RX2 ∈ lw_g := ⟨lw_gin (List.mem_append_right _ (tb_1 (List.mem_of_getElem? (i := 30) rfl))) rfl, lw_gin (List.mem_append_right _ (tb_1 (List.mem_of_getElem? (i := 31) rfl))) rfl, lw_gin (List.mem_append_right _ (tb_1 (List.mem_of_getElem? (i := 3) rfl))) rfl⟩
theorem lk_m_X0_11 : Cond.methodLink RX0 11 yX2_init ∈ lw_g := lw_gin (List.mem_append_right _ (tb_1 (List.mem_of_getElem? (i := 32) rfl))) rfl
theorem lk_o_X2_3 : Cond.methodLink RX2 3 Lib.objectInit ∈ lw_g ∧ Cond.instanceMethod Lib.objectInit ∈ lw_g ∧ Cond.code Lib.objectInit ⟨#[0xb1]⟩ 1 none ∈ lw_g := ⟨lw_gin (List.mem_append_right _ (tb_1 (List.mem_of_getElem? (i := 35) rfl))) rfl, lw_gin (List.mem_append_right _ (tb_1 (List.mem_of_getElem? (i := 22) rfl))) rfl, lw_gin (List.mem_append_right _ (tb_1 (List.mem_of_getElem? (i := 23) rfl))) rfl⟩
theorem lk_m_X2_28 : Cond.methodLink RX2 28 yJ7_fill_53178 ∈ lw_g := lw_gin (List.mem_append_right _ (tb_1 (List.mem_of_getElem? (i := 36) rfl))) rfl
theorem lk_f_X2_9 : hp_FL RX2 9 2 0 true (tyX2 0) := ⟨_, _, _, _, CL2, by decide, rfl, rfl, rfl, lw_gin (List.mem_append_right _ (tb_1 (List.mem_of_getElem? (i := 39) rfl))) rfl⟩
theorem lk_f_X0_18 : hp_FL RX0 18 2 0 true (tyX2 0) := ⟨_, _, _, _, CL2, by decide, rfl, rfl, rfl, lw_gin (List.mem_append_right _ (tb_1 (List.mem_of_getElem? (i := 40) rfl))) rfl⟩
theorem lk_f_X2_15 : hp_FL RX2 15 2 1 true (tyX2 1) := ⟨_, _, _, _, CL2, by decide, rfl, rfl, rfl, lw_gin (List.mem_append_right _ (tb_1 (List.mem_of_getElem? (i := 41) rfl))) rfl⟩
theorem lk_f_X2_19 : hp_FL RX2 19 2 2 true (tyX2 2) := ⟨_, _, _, _, CL2, by decide, rfl, rfl, rfl, lw_gin (List.mem_append_right _ (tb_1 (List.mem_of_getElem? (i := 42) rfl))) rfl⟩
theorem lk_f_X2_22 : hp_FL RX2 22 2 3 true (tyX2 3) := ⟨_, _, _, _, CL2, by decide, rfl, rfl, rfl, lw_gin (List.mem_append_right _ (tb_1 (List.mem_of_getElem? (i := 43) rfl))) rfl⟩
theorem lk_f_X2_25 : hp_FL RX2 25 2 4 true (tyX2 4) := ⟨_, _, _, _, CL2, by decide, rfl, rfl, rfl, lw_gin (List.mem_append_right _ (tb_1 (List.mem_of_getElem? (i := 44) rfl))) rfl⟩
theorem ac_byte : Cond.arrayClass .byte ∈ lw_g := lw_gin (List.mem_append_right _ (tb_1 (List.mem_of_getElem? (i := 56) rfl))) rfl
theorem ac_int : Cond.arrayClass .int ∈ lw_g := lw_gin (List.mem_append_right _ (tb_1 (List.mem_of_getElem? (i := 57) rfl))) rfl
theorem lk_k_X0_36 : Cond.classLink RX0 36 RX5 ∈ lw_g ∧ Cond.instantiable RX5 4 ∈ lw_g ∧ Cond.initialized RX5 ∈ lw_g := ⟨lw_gin (List.mem_append_right _ (tb_1 (List.mem_of_getElem? (i := 58) rfl))) rfl, lw_gin (List.mem_append_right _ (tb_1 (List.mem_of_getElem? (i := 59) rfl))) rfl, lw_gin (List.mem_append_right _ (tb_1 (List.mem_of_getElem? (i := 5) rfl))) rfl⟩
theorem lk_m_X0_38 : Cond.methodLink RX0 38 yX5_init ∈ lw_g := lw_gin (List.mem_append_right _ (tb_1 (List.mem_of_getElem? (i := 60) rfl))) rfl
theorem lk_o_X5_3 : Cond.methodLink RX5 3 Lib.objectInit ∈ lw_g ∧ Cond.instanceMethod Lib.objectInit ∈ lw_g ∧ Cond.code Lib.objectInit ⟨#[0xb1]⟩ 1 none ∈ lw_g := ⟨lw_gin (List.mem_append_right _ (tb_1 (List.mem_of_getElem? (i := 63) rfl))) rfl, lw_gin (List.mem_append_right _ (tb_1 (List.mem_of_getElem? (i := 22) rfl))) rfl, lw_gin (List.mem_append_right _ (tb_1 (List.mem_of_getElem? (i := 23) rfl))) rfl⟩
theorem lk_f_X5_9 : hp_FL RX5 9 5 0 false (tyX5 0) := ⟨_, _, _, _, CL5, by decide, rfl, rfl, rfl, lw_gin (List.mem_append_right _ (tb_1 (List.mem_of_getElem? (i := 64) rfl))) rfl⟩
theorem lk_f_X5_15 : hp_FL RX5 15 5 1 true (tyX5 1) := ⟨_, _, _, _, CL5, by decide, rfl, rfl, rfl, lw_gin (List.mem_append_right _ (tb_1 (List.mem_of_getElem? (i := 65) rfl))) rfl⟩
theorem lk_f_X5_22 : hp_FL RX5 22 5 2 false (tyX5 2) := ⟨_, _, _, _, CL5, by decide, rfl, rfl, rfl, lw_gin (List.mem_append_right _ (tb_1 (List.mem_of_getElem? (i := 66) rfl))) rfl⟩
theorem lk_f_X5_18 : hp_FL RX5 18 5 3 false (tyX5 3) := ⟨_, _, _, _, CL5, by decide, rfl, rfl, rfl, lw_gin (List.mem_append_right _ (tb_1 (List.mem_of_getElem? (i := 67) rfl))) rfl⟩
theorem lk_f_X1_81 : hp_FL RX1 81 5 3 false (tyX5 3) := ⟨_, _, _, _, CL5, by decide, rfl, rfl, rfl, lw_gin (List.mem_append_right _ (tb_1 (List.mem_of_getElem? (i := 68) rfl))) rfl⟩
theorem lk_f_X10_114 : hp_FL RX10 114 5 3 false (tyX5 3) := ⟨_, _, _, _, CL5, by decide, rfl, rfl, rfl, lw_gin (List.mem_append_right _ (tb_1 (List.mem_of_getElem? (i := 69) rfl))) rfl⟩
theorem lk_f_X0_12 : hp_FL RX0 12 0 0 true (tyX0 0) := ⟨_, _, _, _, CL0, by decide, rfl, rfl, rfl, lw_gin (List.mem_append_right _ (tb_1 (List.mem_of_getElem? (i := 79) rfl))) rfl⟩
theorem lk_f_X4_122 : hp_FL RX4 122 0 0 true (tyX0 0) := ⟨_, _, _, _, CL0, by decide, rfl, rfl, rfl, lw_gin (List.mem_append_right _ (tb_1 (List.mem_of_getElem? (i := 80) rfl))) rfl⟩
theorem lk_f_X9_136 : hp_FL RX9 136 0 0 true (tyX0 0) := ⟨_, _, _, _, CL0, by decide, rfl, rfl, rfl, lw_gin (List.mem_append_right _ (tb_1 (List.mem_of_getElem? (i := 81) rfl))) rfl⟩
theorem lk_f_X10_148 : hp_FL RX10 148 0 0 true (tyX0 0) := ⟨_, _, _, _, CL0, by decide, rfl, rfl, rfl, lw_gin (List.mem_append_right _ (tb_1 (List.mem_of_getElem? (i := 82) rfl))) rfl⟩
theorem lk_f_X0_22 : hp_FL RX0 22 0 1 true (tyX0 1) := ⟨_, _, _, _, CL0, by decide, rfl, rfl, rfl, lw_gin (List.mem_append_right _ (tb_1 (List.mem_of_getElem? (i := 83) rfl))) rfl⟩
theorem lk_f_X4_28 : hp_FL RX4 28 0 1 true (tyX0 1) := ⟨_, _, _, _, CL0, by decide, rfl, rfl, rfl, lw_gin (List.mem_append_right _ (tb_1 (List.mem_of_getElem? (i := 84) rfl))) rfl⟩
theorem lk_f_X3_89 : hp_FL RX3 89 0 1 true (tyX0 1) := ⟨_, _, _, _, CL0, by decide, rfl, rfl, rfl, lw_gin (List.mem_append_right _ (tb_1 (List.mem_of_getElem? (i := 85) rfl))) rfl⟩
theorem lk_f_X10_78 : hp_FL RX10 78 0 1 true (tyX0 1) := ⟨_, _, _, _, CL0, by decide, rfl, rfl, rfl, lw_gin (List.mem_append_right _ (tb_1 (List.mem_of_getElem? (i := 86) rfl))) rfl⟩
theorem lk_f_X10_68 : hp_FL RX10 68 0 2 false (tyX0 2) := ⟨_, _, _, _, CL0, by decide, rfl, rfl, rfl, lw_gin (List.mem_append_right _ (tb_1 (List.mem_of_getElem? (i := 87) rfl))) rfl⟩
theorem lk_f_X4_45 : hp_FL RX4 45 0 2 false (tyX0 2) := ⟨_, _, _, _, CL0, by decide, rfl, rfl, rfl, lw_gin (List.mem_append_right _ (tb_1 (List.mem_of_getElem? (i := 88) rfl))) rfl⟩
theorem lk_f_X3_82 : hp_FL RX3 82 0 2 false (tyX0 2) := ⟨_, _, _, _, CL0, by decide, rfl, rfl, rfl, lw_gin (List.mem_append_right _ (tb_1 (List.mem_of_getElem? (i := 89) rfl))) rfl⟩
theorem lk_f_X0_96 : hp_FL RX0 96 0 2 false (tyX0 2) := ⟨_, _, _, _, CL0, by decide, rfl, rfl, rfl, lw_gin (List.mem_append_right _ (tb_1 (List.mem_of_getElem? (i := 90) rfl))) rfl⟩
theorem lk_f_X0_73 : hp_FL RX0 73 0 3 false (tyX0 3) := ⟨_, _, _, _, CL0, by decide, rfl, rfl, rfl, lw_gin (List.mem_append_right _ (tb_1 (List.mem_of_getElem? (i := 91) rfl))) rfl⟩
theorem lk_f_X10_111 : hp_FL RX10 111 0 3 false (tyX0 3) := ⟨_, _, _, _, CL0, by decide, rfl, rfl, rfl, lw_gin (List.mem_append_right _ (tb_1 (List.mem_of_getElem? (i := 92) rfl))) rfl⟩
theorem lk_f_X4_152 : hp_FL RX4 152 0 3 false (tyX0 3) := ⟨_, _, _, _, CL0, by decide, rfl, rfl, rfl, lw_gin (List.mem_append_right _ (tb_1 (List.mem_of_getElem? (i := 93) rfl))) rfl⟩
theorem lk_f_X0_23 : hp_FL RX0 23 0 4 true (tyX0 4) := ⟨_, _, _, _, CL0, by decide, rfl, rfl, rfl, lw_gin (List.mem_append_right _ (tb_1 (List.mem_of_getElem? (i := 94) rfl))) rfl⟩
theorem lk_f_X0_77 : hp_FL RX0 77 0 5 false (tyX0 5) := ⟨_, _, _, _, CL0, by decide, rfl, rfl, rfl, lw_gin (List.mem_append_right _ (tb_1 (List.mem_of_getElem? (i := 95) rfl))) rfl⟩
theorem lk_f_X4_104 : hp_FL RX4 104 0 5 false (tyX0 5) := ⟨_, _, _, _, CL0, by decide, rfl, rfl, rfl, lw_gin (List.mem_append_right _ (tb_1 (List.mem_of_getElem? (i := 96) rfl))) rfl⟩
theorem lk_f_X7_74 : hp_FL RX7 74 0 5 false (tyX0 5) := ⟨_, _, _, _, CL0, by decide, rfl, rfl, rfl, lw_gin (List.mem_append_right _ (tb_1 (List.mem_of_getElem? (i := 97) rfl))) rfl⟩
theorem lk_f_X10_95 : hp_FL RX10 95 0 5 false (tyX0 5) := ⟨_, _, _, _, CL0, by decide, rfl, rfl, rfl, lw_gin (List.mem_append_right _ (tb_1 (List.mem_of_getElem? (i := 98) rfl))) rfl⟩
theorem lk_f_X0_26 : hp_FL RX0 26 0 6 true (tyX0 6) := ⟨_, _, _, _, CL0, by decide, rfl, rfl, rfl, lw_gin (List.mem_append_right _ (tb_1 (List.mem_of_getElem? (i := 99) rfl))) rfl⟩
theorem lk_f_X1_62 : hp_FL RX1 62 0 6 true (tyX0 6) := ⟨_, _, _, _, CL0, by decide, rfl, rfl, rfl, lw_gin (List.mem_append_right _ (tb_1 (List.mem_of_getElem? (i := 100) rfl))) rfl⟩
theorem lk_f_X3_92 : hp_FL RX3 92 0 6 true (tyX0 6) := ⟨_, _, _, _, CL0, by decide, rfl, rfl, rfl, lw_gin (List.mem_append_right _ (tb_1 (List.mem_of_getElem? (i := 101) rfl))) rfl⟩
theorem lk_f_X7_77 : hp_FL RX7 77 0 6 true (tyX0 6) := ⟨_, _, _, _, CL0, by decide, rfl, rfl, rfl, lw_gin (List.mem_append_right _ (tb_1 (List.mem_of_getElem? (i := 102) rfl))) rfl⟩
theorem lk_f_X10_121 : hp_FL RX10 121 0 6 true (tyX0 6) := ⟨_, _, _, _, CL0, by decide, rfl, rfl, rfl, lw_gin (List.mem_append_right _ (tb_1 (List.mem_of_getElem? (i := 103) rfl))) rfl⟩
theorem lk_f_X4_198 : hp_FL RX4 198 0 6 true (tyX0 6) := ⟨_, _, _, _, CL0, by decide, rfl, rfl, rfl, lw_gin (List.mem_append_right _ (tb_1 (List.mem_of_getElem? (i := 104) rfl))) rfl⟩
theorem lk_f_X0_30 : hp_FL RX0 30 0 7 true (tyX0 7) := ⟨_, _, _, _, CL0, by decide, rfl, rfl, rfl, lw_gin (List.mem_append_right _ (tb_1 (List.mem_of_getElem? (i := 105) rfl))) rfl⟩
theorem lk_f_X10_132 : hp_FL RX10 132 0 7 true (tyX0 7) := ⟨_, _, _, _, CL0, by decide, rfl, rfl, rfl, lw_gin (List.mem_append_right _ (tb_1 (List.mem_of_getElem? (i := 106) rfl))) rfl⟩
theorem lk_f_X4_201 : hp_FL RX4 201 0 7 true (tyX0 7) := ⟨_, _, _, _, CL0, by decide, rfl, rfl, rfl, lw_gin (List.mem_append_right _ (tb_1 (List.mem_of_getElem? (i := 107) rfl))) rfl⟩
theorem lk_f_X0_33 : hp_FL RX0 33 0 8 true (tyX0 8) := ⟨_, _, _, _, CL0, by decide, rfl, rfl, rfl, lw_gin (List.mem_append_right _ (tb_1 (List.mem_of_getElem? (i := 108) rfl))) rfl⟩
theorem lk_f_X3_95 : hp_FL RX3 95 0 8 true (tyX0 8) := ⟨_, _, _, _, CL0, by decide, rfl, rfl, rfl, lw_gin (List.mem_append_right _ (tb_1 (List.mem_of_getElem? (i := 109) rfl))) rfl⟩
theorem lk_f_X7_69 : hp_FL RX7 69 0 8 true (tyX0 8) := ⟨_, _, _, _, CL0, by decide, rfl, rfl, rfl, lw_gin (List.mem_append_right _ (tb_1 (List.mem_of_getElem? (i := 110) rfl))) rfl⟩
theorem lk_f_X0_41 : hp_FL RX0 41 0 9 true (tyX0 9) := ⟨_, _, _, _, CL0, by decide, rfl, rfl, rfl, lw_gin (List.mem_append_right _ (tb_1 (List.mem_of_getElem? (i := 111) rfl))) rfl⟩
theorem lk_f_X1_91 : hp_FL RX1 91 0 9 true (tyX0 9) := ⟨_, _, _, _, CL0, by decide, rfl, rfl, rfl, lw_gin (List.mem_append_right _ (tb_1 (List.mem_of_getElem? (i := 112) rfl))) rfl⟩
theorem lk_f_X7_80 : hp_FL RX7 80 0 9 true (tyX0 9) := ⟨_, _, _, _, CL0, by decide, rfl, rfl, rfl, lw_gin (List.mem_append_right _ (tb_1 (List.mem_of_getElem? (i := 113) rfl))) rfl⟩
theorem lk_f_X10_125 : hp_FL RX10 125 0 9 true (tyX0 9) := ⟨_, _, _, _, CL0, by decide, rfl, rfl, rfl, lw_gin (List.mem_append_right _ (tb_1 (List.mem_of_getElem? (i := 114) rfl))) rfl⟩
theorem lk_f_X4_177 : hp_FL RX4 177 0 9 true (tyX0 9) := ⟨_, _, _, _, CL0, by decide, rfl, rfl, rfl, lw_gin (List.mem_append_right _ (tb_1 (List.mem_of_getElem? (i := 115) rfl))) rfl⟩
theorem lk_f_X0_45 : hp_FL RX0 45 0 10 true (tyX0 10) := ⟨_, _, _, _, CL0, by decide, rfl, rfl, rfl, lw_gin (List.mem_append_right _ (tb_1 (List.mem_of_getElem? (i := 116) rfl))) rfl⟩
theorem lk_f_X3_46 : hp_FL RX3 46 0 10 true (tyX0 10) := ⟨_, _, _, _, CL0, by decide, rfl, rfl, rfl, lw_gin (List.mem_append_right _ (tb_1 (List.mem_of_getElem? (i := 117) rfl))) rfl⟩
theorem lk_f_X10_141 : hp_FL RX10 141 0 10 true (tyX0 10) := ⟨_, _, _, _, CL0, by decide, rfl, rfl, rfl, lw_gin (List.mem_append_right _ (tb_1 (List.mem_of_getElem? (i := 118) rfl))) rfl⟩
theorem lk_f_X4_192 : hp_FL RX4 192 0 10 true (tyX0 10) := ⟨_, _, _, _, CL0, by decide, rfl, rfl, rfl, lw_gin (List.mem_append_right _ (tb_1 (List.mem_of_getElem? (i := 119) rfl))) rfl⟩
theorem lk_f_X0_48 : hp_FL RX0 48 0 11 true (tyX0 11) := ⟨_, _, _, _, CL0, by decide, rfl, rfl, rfl, lw_gin (List.mem_append_right _ (tb_1 (List.mem_of_getElem? (i := 120) rfl))) rfl⟩
theorem lk_f_X3_98 : hp_FL RX3 98 0 11 true (tyX0 11) := ⟨_, _, _, _, CL0, by decide, rfl, rfl, rfl, lw_gin (List.mem_append_right _ (tb_1 (List.mem_of_getElem? (i := 121) rfl))) rfl⟩
theorem lk_f_X4_195 : hp_FL RX4 195 0 11 true (tyX0 11) := ⟨_, _, _, _, CL0, by decide, rfl, rfl, rfl, lw_gin (List.mem_append_right _ (tb_1 (List.mem_of_getElem? (i := 122) rfl))) rfl⟩
theorem lk_f_X0_51 : hp_FL RX0 51 0 12 true (tyX0 12) := ⟨_, _, _, _, CL0, by decide, rfl, rfl, rfl, lw_gin (List.mem_append_right _ (tb_1 (List.mem_of_getElem? (i := 123) rfl))) rfl⟩
theorem lk_f_X9_80 : hp_FL RX9 80 0 12 true (tyX0 12) := ⟨_, _, _, _, CL0, by decide, rfl, rfl, rfl, lw_gin (List.mem_append_right _ (tb_1 (List.mem_of_getElem? (i := 124) rfl))) rfl⟩
theorem lk_f_X1_117 : hp_FL RX1 117 0 12 true (tyX0 12) := ⟨_, _, _, _, CL0, by decide, rfl, rfl, rfl, lw_gin (List.mem_append_right _ (tb_1 (List.mem_of_getElem? (i := 125) rfl))) rfl⟩
theorem lk_f_X3_126 : hp_FL RX3 126 0 12 true (tyX0 12) := ⟨_, _, _, _, CL0, by decide, rfl, rfl, rfl, lw_gin (List.mem_append_right _ (tb_1 (List.mem_of_getElem? (i := 126) rfl))) rfl⟩
theorem lk_f_X10_135 : hp_FL RX10 135 0 12 true (tyX0 12) := ⟨_, _, _, _, CL0, by decide, rfl, rfl, rfl, lw_gin (List.mem_append_right _ (tb_1 (List.mem_of_getElem? (i := 127) rfl))) rfl⟩
theorem lk_f_X7_112 : hp_FL RX7 112 0 12 true (tyX0 12) := ⟨_, _, _, _, CL0, by decide, rfl, rfl, rfl, lw_gin (List.mem_append_right _ (tb_1 (List.mem_of_getElem? (i := 128) rfl))) rfl⟩
theorem lk_f_X4_217 : hp_FL RX4 217 0 12 true (tyX0 12) := ⟨_, _, _, _, CL0, by decide, rfl, rfl, rfl, lw_gin (List.mem_append_right _ (tb_1 (List.mem_of_getElem? (i := 129) rfl))) rfl⟩
theorem lk_f_X0_54 : hp_FL RX0 54 0 13 true (tyX0 13) := ⟨_, _, _, _, CL0, by decide, rfl, rfl, rfl, lw_gin (List.mem_append_right _ (tb_1 (List.mem_of_getElem? (i := 130) rfl))) rfl⟩
theorem lk_f_X10_138 : hp_FL RX10 138 0 13 true (tyX0 13) := ⟨_, _, _, _, CL0, by decide, rfl, rfl, rfl, lw_gin (List.mem_append_right _ (tb_1 (List.mem_of_getElem? (i := 131) rfl))) rfl⟩
theorem lk_f_X1_143 : hp_FL RX1 143 0 13 true (tyX0 13) := ⟨_, _, _, _, CL0, by decide, rfl, rfl, rfl, lw_gin (List.mem_append_right _ (tb_1 (List.mem_of_getElem? (i := 132) rfl))) rfl⟩
theorem lk_f_X7_118 : hp_FL RX7 118 0 13 true (tyX0 13) := ⟨_, _, _, _, CL0, by decide, rfl, rfl, rfl, lw_gin (List.mem_append_right _ (tb_1 (List.mem_of_getElem? (i := 133) rfl))) rfl⟩
theorem lk_f_X4_220 : hp_FL RX4 220 0 13 true (tyX0 13) := ⟨_, _, _, _, CL0, by decide, rfl, rfl, rfl, lw_gin (List.mem_append_right _ (tb_1 (List.mem_of_getElem? (i := 134) rfl))) rfl⟩
theorem lk_f_X0_57 : hp_FL RX0 57 0 14 true (tyX0 14) := ⟨_, _, _, _, CL0, by decide, rfl, rfl, rfl, lw_gin (List.mem_append_right _ (tb_1 (List.mem_of_getElem? (i := 135) rfl))) rfl⟩
theorem lk_f_X1_104 : hp_FL RX1 104 0 14 true (tyX0 14) := ⟨_, _, _, _, CL0, by decide, rfl, rfl, rfl, lw_gin (List.mem_append_right _ (tb_1 (List.mem_of_getElem? (i := 136) rfl))) rfl⟩
theorem lk_f_X7_121 : hp_FL RX7 121 0 14 true (tyX0 14) := ⟨_, _, _, _, CL0, by decide, rfl, rfl, rfl, lw_gin (List.mem_append_right _ (tb_1 (List.mem_of_getElem? (i := 137) rfl))) rfl⟩
theorem lk_f_X4_223 : hp_FL RX4 223 0 14 true (tyX0 14) := ⟨_, _, _, _, CL0, by decide, rfl, rfl, rfl, lw_gin (List.mem_append_right _ (tb_1 (List.mem_of_getElem? (i := 138) rfl))) rfl⟩
theorem lk_f_X0_60 : hp_FL RX0 60 0 15 true (tyX0 15) := ⟨_, _, _, _, CL0, by decide, rfl, rfl, rfl, lw_gin (List.mem_append_right _ (tb_1 (List.mem_of_getElem? (i := 139) rfl))) rfl⟩
theorem lk_f_X3_58 : hp_FL RX3 58 0 15 true (tyX0 15) := ⟨_, _, _, _, CL0, by decide, rfl, rfl, rfl, lw_gin (List.mem_append_right _ (tb_1 (List.mem_of_getElem? (i := 140) rfl))) rfl⟩
theorem lk_f_X0_63 : hp_FL RX0 63 0 16 true (tyX0 16) := ⟨_, _, _, _, CL0, by decide, rfl, rfl, rfl, lw_gin (List.mem_append_right _ (tb_1 (List.mem_of_getElem? (i := 141) rfl))) rfl⟩
theorem lk_f_X3_75 : hp_FL RX3 75 0 16 true (tyX0 16) := ⟨_, _, _, _, CL0, by decide, rfl, rfl, rfl, lw_gin (List.mem_append_right _ (tb_1 (List.mem_of_getElem? (i := 142) rfl))) rfl⟩
theorem lk_f_X0_66 : hp_FL RX0 66 0 17 true (tyX0 17) := ⟨_, _, _, _, CL0, by decide, rfl, rfl, rfl, lw_gin (List.mem_append_right _ (tb_1 (List.mem_of_getElem? (i := 143) rfl))) rfl⟩
theorem ac_long : Cond.arrayClass .long ∈ lw_g := lw_gin (List.mem_append_right _ (tb_1 (List.mem_of_getElem? (i := 181) rfl))) rfl
theorem lk_k_X10_19 : Cond.classLink RX10 19 RX4 ∈ lw_g ∧ Cond.instantiable RX4 11 ∈ lw_g ∧ Cond.initialized RX4 ∈ lw_g := ⟨lw_gin (List.mem_append_right _ (tb_1 (List.mem_of_getElem? (i := 182) rfl))) rfl, lw_gin (List.mem_append_right _ (tb_1 (List.mem_of_getElem? (i := 183) rfl))) rfl, lw_gin (List.mem_append_right _ (tb_1 (List.mem_of_getElem? (i := 6) rfl))) rfl⟩
theorem lk_m_X10_21 : Cond.methodLink RX10 21 yX4_init ∈ lw_g := lw_gin (List.mem_append_right _ (tb_1 (List.mem_of_getElem? (i := 184) rfl))) rfl
theorem lk_o_X4_3 : Cond.methodLink RX4 3 Lib.objectInit ∈ lw_g ∧ Cond.instanceMethod Lib.objectInit ∈ lw_g ∧ Cond.code Lib.objectInit ⟨#[0xb1]⟩ 1 none ∈ lw_g := ⟨lw_gin (List.mem_append_right _ (tb_1 (List.mem_of_getElem? (i := 187) rfl))) rfl, lw_gin (List.mem_append_right _ (tb_1 (List.mem_of_getElem? (i := 22) rfl))) rfl, lw_gin (List.mem_append_right _ (tb_1 (List.mem_of_getElem? (i := 23) rfl))) rfl⟩
theorem lk_k_X4_9 : Cond.classLink RX4 9 RX7 ∈ lw_g ∧ Cond.instantiable RX7 13 ∈ lw_g ∧ Cond.initialized RX7 ∈ lw_g := ⟨lw_gin (List.mem_append_right _ (tb_1 (List.mem_of_getElem? (i := 188) rfl))) rfl, lw_gin (List.mem_append_right _ (tb_1 (List.mem_of_getElem? (i := 189) rfl))) rfl, lw_gin (List.mem_append_right _ (tb_1 (List.mem_of_getElem? (i := 7) rfl))) rfl⟩
theorem lk_m_X4_11 : Cond.methodLinkNest RX4 11 yX7_init "AxiomBook" ∈ hp_nest := by simp [hp_nest, RX4, yX7_init, RX7]
theorem lk_o_X7_3 : Cond.methodLink RX7 3 Lib.objectInit ∈ lw_g ∧ Cond.instanceMethod Lib.objectInit ∈ lw_g ∧ Cond.code Lib.objectInit ⟨#[0xb1]⟩ 1 none ∈ lw_g := ⟨lw_gin (List.mem_append_right _ (tb_1 (List.mem_of_getElem? (i := 193) rfl))) rfl, lw_gin (List.mem_append_right _ (tb_1 (List.mem_of_getElem? (i := 22) rfl))) rfl, lw_gin (List.mem_append_right _ (tb_1 (List.mem_of_getElem? (i := 23) rfl))) rfl⟩
theorem lk_f_X7_40 : hp_FL RX7 40 7 0 false (tyX7 0) := ⟨_, _, _, _, CL7, by decide, rfl, rfl, rfl, lw_gin (List.mem_append_right _ (tb_1 (List.mem_of_getElem? (i := 194) rfl))) rfl⟩
theorem lk_f_X4_101 : hp_FL RX4 101 7 0 false (tyX7 0) := ⟨_, _, _, _, CL7, by decide, rfl, rfl, rfl, lw_gin (List.mem_append_right _ (tb_1 (List.mem_of_getElem? (i := 195) rfl))) rfl⟩
theorem lk_f_X7_9 : hp_FL RX7 9 7 1 true (tyX7 1) := ⟨_, _, _, _, CL7, by decide, rfl, rfl, rfl, lw_gin (List.mem_append_right _ (tb_1 (List.mem_of_getElem? (i := 196) rfl))) rfl⟩
theorem lk_f_X7_15 : hp_FL RX7 15 7 2 true (tyX7 2) := ⟨_, _, _, _, CL7, by decide, rfl, rfl, rfl, lw_gin (List.mem_append_right _ (tb_1 (List.mem_of_getElem? (i := 197) rfl))) rfl⟩
theorem lk_f_X7_18 : hp_FL RX7 18 7 3 true (tyX7 3) := ⟨_, _, _, _, CL7, by decide, rfl, rfl, rfl, lw_gin (List.mem_append_right _ (tb_1 (List.mem_of_getElem? (i := 198) rfl))) rfl⟩
theorem lk_f_X7_44 : hp_FL RX7 44 7 4 false (tyX7 4) := ⟨_, _, _, _, CL7, by decide, rfl, rfl, rfl, lw_gin (List.mem_append_right _ (tb_1 (List.mem_of_getElem? (i := 199) rfl))) rfl⟩
theorem lk_f_X7_21 : hp_FL RX7 21 7 5 true (tyX7 5) := ⟨_, _, _, _, CL7, by decide, rfl, rfl, rfl, lw_gin (List.mem_append_right _ (tb_1 (List.mem_of_getElem? (i := 200) rfl))) rfl⟩
theorem lk_f_X7_25 : hp_FL RX7 25 7 6 true (tyX7 6) := ⟨_, _, _, _, CL7, by decide, rfl, rfl, rfl, lw_gin (List.mem_append_right _ (tb_1 (List.mem_of_getElem? (i := 201) rfl))) rfl⟩
theorem lk_f_X7_28 : hp_FL RX7 28 7 7 true (tyX7 7) := ⟨_, _, _, _, CL7, by decide, rfl, rfl, rfl, lw_gin (List.mem_append_right _ (tb_1 (List.mem_of_getElem? (i := 202) rfl))) rfl⟩
theorem lk_f_X7_31 : hp_FL RX7 31 7 8 true (tyX7 8) := ⟨_, _, _, _, CL7, by decide, rfl, rfl, rfl, lw_gin (List.mem_append_right _ (tb_1 (List.mem_of_getElem? (i := 203) rfl))) rfl⟩
theorem lk_f_X7_47 : hp_FL RX7 47 7 9 false (tyX7 9) := ⟨_, _, _, _, CL7, by decide, rfl, rfl, rfl, lw_gin (List.mem_append_right _ (tb_1 (List.mem_of_getElem? (i := 204) rfl))) rfl⟩
theorem lk_f_X7_34 : hp_FL RX7 34 7 10 true (tyX7 10) := ⟨_, _, _, _, CL7, by decide, rfl, rfl, rfl, lw_gin (List.mem_append_right _ (tb_1 (List.mem_of_getElem? (i := 205) rfl))) rfl⟩
theorem lk_f_X7_37 : hp_FL RX7 37 7 11 true (tyX7 11) := ⟨_, _, _, _, CL7, by decide, rfl, rfl, rfl, lw_gin (List.mem_append_right _ (tb_1 (List.mem_of_getElem? (i := 206) rfl))) rfl⟩
theorem lk_f_X7_50 : hp_FL RX7 50 7 12 false (tyX7 12) := ⟨_, _, _, _, CL7, by decide, rfl, rfl, rfl, lw_gin (List.mem_append_right _ (tb_1 (List.mem_of_getElem? (i := 207) rfl))) rfl⟩
theorem lk_k_X4_26 : Cond.classLink RX4 26 RX6 ∈ lw_g ∧ Cond.instantiable RX6 5 ∈ lw_g ∧ Cond.initialized RX6 ∈ lw_g := ⟨lw_gin (List.mem_append_right _ (tb_1 (List.mem_of_getElem? (i := 235) rfl))) rfl, lw_gin (List.mem_append_right _ (tb_1 (List.mem_of_getElem? (i := 236) rfl))) rfl, lw_gin (List.mem_append_right _ (tb_1 (List.mem_of_getElem? (i := 8) rfl))) rfl⟩
theorem lk_m_X4_34 : Cond.methodLink RX4 34 yX6_init ∈ lw_g := lw_gin (List.mem_append_right _ (tb_1 (List.mem_of_getElem? (i := 237) rfl))) rfl
theorem lk_o_X6_3 : Cond.methodLink RX6 3 Lib.objectInit ∈ lw_g ∧ Cond.instanceMethod Lib.objectInit ∈ lw_g ∧ Cond.code Lib.objectInit ⟨#[0xb1]⟩ 1 none ∈ lw_g := ⟨lw_gin (List.mem_append_right _ (tb_2 (List.mem_of_getElem? (i := 0) rfl))) rfl, lw_gin (List.mem_append_right _ (tb_1 (List.mem_of_getElem? (i := 22) rfl))) rfl, lw_gin (List.mem_append_right _ (tb_1 (List.mem_of_getElem? (i := 23) rfl))) rfl⟩
theorem lk_f_X6_19 : hp_FL RX6 19 6 0 false (tyX6 0) := ⟨_, _, _, _, CL6, by decide, rfl, rfl, rfl, lw_gin (List.mem_append_right _ (tb_2 (List.mem_of_getElem? (i := 1) rfl))) rfl⟩
theorem lk_f_X4_92 : hp_FL RX4 92 6 0 false (tyX6 0) := ⟨_, _, _, _, CL6, by decide, rfl, rfl, rfl, lw_gin (List.mem_append_right _ (tb_2 (List.mem_of_getElem? (i := 2) rfl))) rfl⟩
theorem lk_f_X6_22 : hp_FL RX6 22 6 1 false (tyX6 1) := ⟨_, _, _, _, CL6, by decide, rfl, rfl, rfl, lw_gin (List.mem_append_right _ (tb_2 (List.mem_of_getElem? (i := 3) rfl))) rfl⟩
theorem lk_f_X4_116 : hp_FL RX4 116 6 1 false (tyX6 1) := ⟨_, _, _, _, CL6, by decide, rfl, rfl, rfl, lw_gin (List.mem_append_right _ (tb_2 (List.mem_of_getElem? (i := 4) rfl))) rfl⟩
theorem lk_f_X6_25 : hp_FL RX6 25 6 2 false (tyX6 2) := ⟨_, _, _, _, CL6, by decide, rfl, rfl, rfl, lw_gin (List.mem_append_right _ (tb_2 (List.mem_of_getElem? (i := 5) rfl))) rfl⟩
theorem lk_f_X4_98 : hp_FL RX4 98 6 2 false (tyX6 2) := ⟨_, _, _, _, CL6, by decide, rfl, rfl, rfl, lw_gin (List.mem_append_right _ (tb_2 (List.mem_of_getElem? (i := 6) rfl))) rfl⟩
theorem lk_f_X6_9 : hp_FL RX6 9 6 3 false (tyX6 3) := ⟨_, _, _, _, CL6, by decide, rfl, rfl, rfl, lw_gin (List.mem_append_right _ (tb_2 (List.mem_of_getElem? (i := 7) rfl))) rfl⟩
theorem lk_f_X6_15 : hp_FL RX6 15 6 4 false (tyX6 4) := ⟨_, _, _, _, CL6, by decide, rfl, rfl, rfl, lw_gin (List.mem_append_right _ (tb_2 (List.mem_of_getElem? (i := 8) rfl))) rfl⟩
theorem lk_f_X4_95 : hp_FL RX4 95 4 0 false (tyX4 0) := ⟨_, _, _, _, CL4, by decide, rfl, rfl, rfl, lw_gin (List.mem_append_right _ (tb_2 (List.mem_of_getElem? (i := 20) rfl))) rfl⟩
theorem lk_f_X10_89 : hp_FL RX10 89 4 0 false (tyX4 0) := ⟨_, _, _, _, CL4, by decide, rfl, rfl, rfl, lw_gin (List.mem_append_right _ (tb_2 (List.mem_of_getElem? (i := 21) rfl))) rfl⟩
theorem lk_f_X4_22 : hp_FL RX4 22 4 1 false (tyX4 1) := ⟨_, _, _, _, CL4, by decide, rfl, rfl, rfl, lw_gin (List.mem_append_right _ (tb_2 (List.mem_of_getElem? (i := 22) rfl))) rfl⟩
theorem lk_f_X4_37 : hp_FL RX4 37 4 2 true (tyX4 2) := ⟨_, _, _, _, CL4, by decide, rfl, rfl, rfl, lw_gin (List.mem_append_right _ (tb_2 (List.mem_of_getElem? (i := 23) rfl))) rfl⟩
theorem lk_f_X4_12 : hp_FL RX4 12 4 3 true (tyX4 3) := ⟨_, _, _, _, CL4, by decide, rfl, rfl, rfl, lw_gin (List.mem_append_right _ (tb_2 (List.mem_of_getElem? (i := 24) rfl))) rfl⟩
theorem lk_f_X4_53 : hp_FL RX4 53 4 4 false (tyX4 4) := ⟨_, _, _, _, CL4, by decide, rfl, rfl, rfl, lw_gin (List.mem_append_right _ (tb_2 (List.mem_of_getElem? (i := 25) rfl))) rfl⟩
theorem lk_f_X4_132 : hp_FL RX4 132 4 5 false (tyX4 5) := ⟨_, _, _, _, CL4, by decide, rfl, rfl, rfl, lw_gin (List.mem_append_right _ (tb_2 (List.mem_of_getElem? (i := 26) rfl))) rfl⟩
theorem lk_f_X4_149 : hp_FL RX4 149 4 6 false (tyX4 6) := ⟨_, _, _, _, CL4, by decide, rfl, rfl, rfl, lw_gin (List.mem_append_right _ (tb_2 (List.mem_of_getElem? (i := 27) rfl))) rfl⟩
theorem lk_f_X4_113 : hp_FL RX4 113 4 7 false (tyX4 7) := ⟨_, _, _, _, CL4, by decide, rfl, rfl, rfl, lw_gin (List.mem_append_right _ (tb_2 (List.mem_of_getElem? (i := 28) rfl))) rfl⟩
theorem lk_f_X4_119 : hp_FL RX4 119 4 8 false (tyX4 8) := ⟨_, _, _, _, CL4, by decide, rfl, rfl, rfl, lw_gin (List.mem_append_right _ (tb_2 (List.mem_of_getElem? (i := 29) rfl))) rfl⟩
theorem lk_f_X4_146 : hp_FL RX4 146 4 9 false (tyX4 9) := ⟨_, _, _, _, CL4, by decide, rfl, rfl, rfl, lw_gin (List.mem_append_right _ (tb_2 (List.mem_of_getElem? (i := 30) rfl))) rfl⟩
theorem lk_f_X4_18 : hp_FL RX4 18 4 10 true (tyX4 10) := ⟨_, _, _, _, CL4, by decide, rfl, rfl, rfl, lw_gin (List.mem_append_right _ (tb_2 (List.mem_of_getElem? (i := 31) rfl))) rfl⟩
theorem lk_k_X10_28 : Cond.classLink RX10 28 RX3 ∈ lw_g ∧ Cond.instantiable RX3 13 ∈ lw_g ∧ Cond.initialized RX3 ∈ lw_g := ⟨lw_gin (List.mem_append_right _ (tb_2 (List.mem_of_getElem? (i := 55) rfl))) rfl, lw_gin (List.mem_append_right _ (tb_2 (List.mem_of_getElem? (i := 56) rfl))) rfl, lw_gin (List.mem_append_right _ (tb_1 (List.mem_of_getElem? (i := 9) rfl))) rfl⟩
theorem lk_m_X10_30 : Cond.methodLink RX10 30 yX3_init ∈ lw_g := lw_gin (List.mem_append_right _ (tb_2 (List.mem_of_getElem? (i := 57) rfl))) rfl
theorem lk_o_X3_3 : Cond.methodLink RX3 3 Lib.objectInit ∈ lw_g ∧ Cond.instanceMethod Lib.objectInit ∈ lw_g ∧ Cond.code Lib.objectInit ⟨#[0xb1]⟩ 1 none ∈ lw_g := ⟨lw_gin (List.mem_append_right _ (tb_2 (List.mem_of_getElem? (i := 60) rfl))) rfl, lw_gin (List.mem_append_right _ (tb_1 (List.mem_of_getElem? (i := 22) rfl))) rfl, lw_gin (List.mem_append_right _ (tb_1 (List.mem_of_getElem? (i := 23) rfl))) rfl⟩
theorem lk_f_X3_29 : hp_FL RX3 29 3 0 false (tyX3 0) := ⟨_, _, _, _, CL3, by decide, rfl, rfl, rfl, lw_gin (List.mem_append_right _ (tb_2 (List.mem_of_getElem? (i := 61) rfl))) rfl⟩
theorem lk_f_X1_41 : hp_FL RX1 41 3 0 false (tyX3 0) := ⟨_, _, _, _, CL3, by decide, rfl, rfl, rfl, lw_gin (List.mem_append_right _ (tb_2 (List.mem_of_getElem? (i := 62) rfl))) rfl⟩
theorem lk_f_X9_157 : hp_FL RX9 157 3 0 false (tyX3 0) := ⟨_, _, _, _, CL3, by decide, rfl, rfl, rfl, lw_gin (List.mem_append_right _ (tb_2 (List.mem_of_getElem? (i := 63) rfl))) rfl⟩
theorem lk_f_X3_33 : hp_FL RX3 33 3 1 false (tyX3 1) := ⟨_, _, _, _, CL3, by decide, rfl, rfl, rfl, lw_gin (List.mem_append_right _ (tb_2 (List.mem_of_getElem? (i := 64) rfl))) rfl⟩
theorem lk_f_X1_50 : hp_FL RX1 50 3 1 false (tyX3 1) := ⟨_, _, _, _, CL3, by decide, rfl, rfl, rfl, lw_gin (List.mem_append_right _ (tb_2 (List.mem_of_getElem? (i := 65) rfl))) rfl⟩
theorem lk_f_X9_72 : hp_FL RX9 72 3 1 false (tyX3 1) := ⟨_, _, _, _, CL3, by decide, rfl, rfl, rfl, lw_gin (List.mem_append_right _ (tb_2 (List.mem_of_getElem? (i := 66) rfl))) rfl⟩
theorem lk_f_X10_173 : hp_FL RX10 173 3 1 false (tyX3 1) := ⟨_, _, _, _, CL3, by decide, rfl, rfl, rfl, lw_gin (List.mem_append_right _ (tb_2 (List.mem_of_getElem? (i := 67) rfl))) rfl⟩
theorem lk_f_X3_39 : hp_FL RX3 39 3 2 false (tyX3 2) := ⟨_, _, _, _, CL3, by decide, rfl, rfl, rfl, lw_gin (List.mem_append_right _ (tb_2 (List.mem_of_getElem? (i := 68) rfl))) rfl⟩
theorem lk_f_X1_74 : hp_FL RX1 74 3 2 false (tyX3 2) := ⟨_, _, _, _, CL3, by decide, rfl, rfl, rfl, lw_gin (List.mem_append_right _ (tb_2 (List.mem_of_getElem? (i := 69) rfl))) rfl⟩
theorem lk_f_X10_166 : hp_FL RX10 166 3 2 false (tyX3 2) := ⟨_, _, _, _, CL3, by decide, rfl, rfl, rfl, lw_gin (List.mem_append_right _ (tb_2 (List.mem_of_getElem? (i := 70) rfl))) rfl⟩
theorem lk_f_X3_9 : hp_FL RX3 9 3 3 true (tyX3 3) := ⟨_, _, _, _, CL3, by decide, rfl, rfl, rfl, lw_gin (List.mem_append_right _ (tb_2 (List.mem_of_getElem? (i := 71) rfl))) rfl⟩
theorem lk_f_X1_59 : hp_FL RX1 59 3 3 true (tyX3 3) := ⟨_, _, _, _, CL3, by decide, rfl, rfl, rfl, lw_gin (List.mem_append_right _ (tb_2 (List.mem_of_getElem? (i := 72) rfl))) rfl⟩
theorem lk_f_X9_77 : hp_FL RX9 77 3 3 true (tyX3 3) := ⟨_, _, _, _, CL3, by decide, rfl, rfl, rfl, lw_gin (List.mem_append_right _ (tb_2 (List.mem_of_getElem? (i := 73) rfl))) rfl⟩
theorem lk_f_X3_15 : hp_FL RX3 15 3 4 true (tyX3 4) := ⟨_, _, _, _, CL3, by decide, rfl, rfl, rfl, lw_gin (List.mem_append_right _ (tb_2 (List.mem_of_getElem? (i := 74) rfl))) rfl⟩
theorem lk_f_X1_77 : hp_FL RX1 77 3 4 true (tyX3 4) := ⟨_, _, _, _, CL3, by decide, rfl, rfl, rfl, lw_gin (List.mem_append_right _ (tb_2 (List.mem_of_getElem? (i := 75) rfl))) rfl⟩
theorem lk_f_X9_93 : hp_FL RX9 93 3 4 true (tyX3 4) := ⟨_, _, _, _, CL3, by decide, rfl, rfl, rfl, lw_gin (List.mem_append_right _ (tb_2 (List.mem_of_getElem? (i := 76) rfl))) rfl⟩
theorem lk_f_X3_36 : hp_FL RX3 36 3 5 false (tyX3 5) := ⟨_, _, _, _, CL3, by decide, rfl, rfl, rfl, lw_gin (List.mem_append_right _ (tb_2 (List.mem_of_getElem? (i := 77) rfl))) rfl⟩
theorem lk_f_X3_25 : hp_FL RX3 25 3 6 false (tyX3 6) := ⟨_, _, _, _, CL3, by decide, rfl, rfl, rfl, lw_gin (List.mem_append_right _ (tb_2 (List.mem_of_getElem? (i := 78) rfl))) rfl⟩
theorem lk_f_X3_19 : hp_FL RX3 19 3 7 true (tyX3 7) := ⟨_, _, _, _, CL3, by decide, rfl, rfl, rfl, lw_gin (List.mem_append_right _ (tb_2 (List.mem_of_getElem? (i := 79) rfl))) rfl⟩
theorem lk_f_X3_117 : hp_FL RX3 117 3 8 false (tyX3 8) := ⟨_, _, _, _, CL3, by decide, rfl, rfl, rfl, lw_gin (List.mem_append_right _ (tb_2 (List.mem_of_getElem? (i := 80) rfl))) rfl⟩
theorem lk_f_X3_22 : hp_FL RX3 22 3 9 true (tyX3 9) := ⟨_, _, _, _, CL3, by decide, rfl, rfl, rfl, lw_gin (List.mem_append_right _ (tb_2 (List.mem_of_getElem? (i := 81) rfl))) rfl⟩
theorem lk_f_X3_129 : hp_FL RX3 129 3 10 false (tyX3 10) := ⟨_, _, _, _, CL3, by decide, rfl, rfl, rfl, lw_gin (List.mem_append_right _ (tb_2 (List.mem_of_getElem? (i := 82) rfl))) rfl⟩
theorem lk_f_X3_132 : hp_FL RX3 132 3 11 false (tyX3 11) := ⟨_, _, _, _, CL3, by decide, rfl, rfl, rfl, lw_gin (List.mem_append_right _ (tb_2 (List.mem_of_getElem? (i := 83) rfl))) rfl⟩
theorem lk_f_X3_136 : hp_FL RX3 136 3 12 false (tyX3 12) := ⟨_, _, _, _, CL3, by decide, rfl, rfl, rfl, lw_gin (List.mem_append_right _ (tb_2 (List.mem_of_getElem? (i := 84) rfl))) rfl⟩
theorem lk_k_X10_35 : Cond.classLink RX10 35 RX1 ∈ lw_g ∧ Cond.instantiable RX1 6 ∈ lw_g ∧ Cond.initialized RX1 ∈ lw_g := ⟨lw_gin (List.mem_append_right _ (tb_2 (List.mem_of_getElem? (i := 112) rfl))) rfl, lw_gin (List.mem_append_right _ (tb_2 (List.mem_of_getElem? (i := 113) rfl))) rfl, lw_gin (List.mem_append_right _ (tb_1 (List.mem_of_getElem? (i := 10) rfl))) rfl⟩
theorem lk_m_X10_37 : Cond.methodLink RX10 37 yX1_init ∈ lw_g := lw_gin (List.mem_append_right _ (tb_2 (List.mem_of_getElem? (i := 114) rfl))) rfl
theorem lk_o_X1_3 : Cond.methodLink RX1 3 Lib.objectInit ∈ lw_g ∧ Cond.instanceMethod Lib.objectInit ∈ lw_g ∧ Cond.code Lib.objectInit ⟨#[0xb1]⟩ 1 none ∈ lw_g := ⟨lw_gin (List.mem_append_right _ (tb_2 (List.mem_of_getElem? (i := 117) rfl))) rfl, lw_gin (List.mem_append_right _ (tb_1 (List.mem_of_getElem? (i := 22) rfl))) rfl, lw_gin (List.mem_append_right _ (tb_1 (List.mem_of_getElem? (i := 23) rfl))) rfl⟩
theorem lk_k_X1_9 : Cond.classLink RX1 9 RX5 ∈ lw_g ∧ Cond.instantiable RX5 4 ∈ lw_g ∧ Cond.initialized RX5 ∈ lw_g := ⟨lw_gin (List.mem_append_right _ (tb_2 (List.mem_of_getElem? (i := 118) rfl))) rfl, lw_gin (List.mem_append_right _ (tb_1 (List.mem_of_getElem? (i := 59) rfl))) rfl, lw_gin (List.mem_append_right _ (tb_1 (List.mem_of_getElem? (i := 5) rfl))) rfl⟩
theorem lk_m_X1_11 : Cond.methodLink RX1 11 yX5_init ∈ lw_g := lw_gin (List.mem_append_right _ (tb_2 (List.mem_of_getElem? (i := 119) rfl))) rfl
theorem lk_f_X1_14 : hp_FL RX1 14 1 0 true (tyX1 0) := ⟨_, _, _, _, CL1, by decide, rfl, rfl, rfl, lw_gin (List.mem_append_right _ (tb_2 (List.mem_of_getElem? (i := 120) rfl))) rfl⟩
theorem lk_f_X10_101 : hp_FL RX10 101 1 0 true (tyX1 0) := ⟨_, _, _, _, CL1, by decide, rfl, rfl, rfl, lw_gin (List.mem_append_right _ (tb_2 (List.mem_of_getElem? (i := 121) rfl))) rfl⟩
theorem lk_f_X1_20 : hp_FL RX1 20 1 1 true (tyX1 1) := ⟨_, _, _, _, CL1, by decide, rfl, rfl, rfl, lw_gin (List.mem_append_right _ (tb_2 (List.mem_of_getElem? (i := 122) rfl))) rfl⟩
theorem lk_f_X1_34 : hp_FL RX1 34 1 2 false (tyX1 2) := ⟨_, _, _, _, CL1, by decide, rfl, rfl, rfl, lw_gin (List.mem_append_right _ (tb_2 (List.mem_of_getElem? (i := 123) rfl))) rfl⟩
theorem lk_f_X1_23 : hp_FL RX1 23 1 3 true (tyX1 3) := ⟨_, _, _, _, CL1, by decide, rfl, rfl, rfl, lw_gin (List.mem_append_right _ (tb_2 (List.mem_of_getElem? (i := 124) rfl))) rfl⟩
theorem lk_f_X1_27 : hp_FL RX1 27 1 4 true (tyX1 4) := ⟨_, _, _, _, CL1, by decide, rfl, rfl, rfl, lw_gin (List.mem_append_right _ (tb_2 (List.mem_of_getElem? (i := 125) rfl))) rfl⟩
theorem lk_f_X1_31 : hp_FL RX1 31 1 5 true (tyX1 5) := ⟨_, _, _, _, CL1, by decide, rfl, rfl, rfl, lw_gin (List.mem_append_right _ (tb_2 (List.mem_of_getElem? (i := 126) rfl))) rfl⟩
theorem lk_k_X10_45 : Cond.classLink RX10 45 RX9 ∈ lw_g ∧ Cond.instantiable RX9 17 ∈ lw_g ∧ Cond.initialized RX9 ∈ lw_g := ⟨lw_gin (List.mem_append_right _ (tb_2 (List.mem_of_getElem? (i := 140) rfl))) rfl, lw_gin (List.mem_append_right _ (tb_2 (List.mem_of_getElem? (i := 141) rfl))) rfl, lw_gin (List.mem_append_right _ (tb_1 (List.mem_of_getElem? (i := 11) rfl))) rfl⟩
theorem lk_m_X10_47 : Cond.methodLink RX10 47 yX9_init ∈ lw_g := lw_gin (List.mem_append_right _ (tb_2 (List.mem_of_getElem? (i := 142) rfl))) rfl
theorem lk_o_X9_3 : Cond.methodLink RX9 3 Lib.objectInit ∈ lw_g ∧ Cond.instanceMethod Lib.objectInit ∈ lw_g ∧ Cond.code Lib.objectInit ⟨#[0xb1]⟩ 1 none ∈ lw_g := ⟨lw_gin (List.mem_append_right _ (tb_2 (List.mem_of_getElem? (i := 145) rfl))) rfl, lw_gin (List.mem_append_right _ (tb_1 (List.mem_of_getElem? (i := 22) rfl))) rfl, lw_gin (List.mem_append_right _ (tb_1 (List.mem_of_getElem? (i := 23) rfl))) rfl⟩
theorem lk_k_X9_15 : Cond.classLink RX9 15 RX5 ∈ lw_g ∧ Cond.instantiable RX5 4 ∈ lw_g ∧ Cond.initialized RX5 ∈ lw_g := ⟨lw_gin (List.mem_append_right _ (tb_2 (List.mem_of_getElem? (i := 146) rfl))) rfl, lw_gin (List.mem_append_right _ (tb_1 (List.mem_of_getElem? (i := 59) rfl))) rfl, lw_gin (List.mem_append_right _ (tb_1 (List.mem_of_getElem? (i := 5) rfl))) rfl⟩
theorem lk_m_X9_17 : Cond.methodLink RX9 17 yX5_init ∈ lw_g := lw_gin (List.mem_append_right _ (tb_2 (List.mem_of_getElem? (i := 147) rfl))) rfl
theorem lk_f_X9_51 : hp_FL RX9 51 9 0 false (tyX9 0) := ⟨_, _, _, _, CL9, by decide, rfl, rfl, rfl, lw_gin (List.mem_append_right _ (tb_2 (List.mem_of_getElem? (i := 148) rfl))) rfl⟩
theorem lk_f_X9_55 : hp_FL RX9 55 9 1 false (tyX9 1) := ⟨_, _, _, _, CL9, by decide, rfl, rfl, rfl, lw_gin (List.mem_append_right _ (tb_2 (List.mem_of_getElem? (i := 149) rfl))) rfl⟩
theorem lk_f_X9_59 : hp_FL RX9 59 9 2 false (tyX9 2) := ⟨_, _, _, _, CL9, by decide, rfl, rfl, rfl, lw_gin (List.mem_append_right _ (tb_2 (List.mem_of_getElem? (i := 150) rfl))) rfl⟩
theorem lk_f_X9_97 : hp_FL RX9 97 9 3 false (tyX9 3) := ⟨_, _, _, _, CL9, by decide, rfl, rfl, rfl, lw_gin (List.mem_append_right _ (tb_2 (List.mem_of_getElem? (i := 151) rfl))) rfl⟩
theorem lk_f_X9_9 : hp_FL RX9 9 9 4 true (tyX9 4) := ⟨_, _, _, _, CL9, by decide, rfl, rfl, rfl, lw_gin (List.mem_append_right _ (tb_2 (List.mem_of_getElem? (i := 152) rfl))) rfl⟩
theorem lk_f_X9_20 : hp_FL RX9 20 9 5 true (tyX9 5) := ⟨_, _, _, _, CL9, by decide, rfl, rfl, rfl, lw_gin (List.mem_append_right _ (tb_2 (List.mem_of_getElem? (i := 153) rfl))) rfl⟩
theorem lk_f_X9_24 : hp_FL RX9 24 9 6 true (tyX9 6) := ⟨_, _, _, _, CL9, by decide, rfl, rfl, rfl, lw_gin (List.mem_append_right _ (tb_2 (List.mem_of_getElem? (i := 154) rfl))) rfl⟩
theorem lk_f_X9_27 : hp_FL RX9 27 9 7 true (tyX9 7) := ⟨_, _, _, _, CL9, by decide, rfl, rfl, rfl, lw_gin (List.mem_append_right _ (tb_2 (List.mem_of_getElem? (i := 155) rfl))) rfl⟩
theorem lk_f_X9_30 : hp_FL RX9 30 9 8 true (tyX9 8) := ⟨_, _, _, _, CL9, by decide, rfl, rfl, rfl, lw_gin (List.mem_append_right _ (tb_2 (List.mem_of_getElem? (i := 156) rfl))) rfl⟩
theorem lk_f_X9_33 : hp_FL RX9 33 9 9 true (tyX9 9) := ⟨_, _, _, _, CL9, by decide, rfl, rfl, rfl, lw_gin (List.mem_append_right _ (tb_2 (List.mem_of_getElem? (i := 157) rfl))) rfl⟩
theorem lk_f_X9_36 : hp_FL RX9 36 9 10 true (tyX9 10) := ⟨_, _, _, _, CL9, by decide, rfl, rfl, rfl, lw_gin (List.mem_append_right _ (tb_2 (List.mem_of_getElem? (i := 158) rfl))) rfl⟩
theorem lk_f_X9_39 : hp_FL RX9 39 9 11 true (tyX9 11) := ⟨_, _, _, _, CL9, by decide, rfl, rfl, rfl, lw_gin (List.mem_append_right _ (tb_2 (List.mem_of_getElem? (i := 159) rfl))) rfl⟩
theorem lk_f_X9_121 : hp_FL RX9 121 9 12 false (tyX9 12) := ⟨_, _, _, _, CL9, by decide, rfl, rfl, rfl, lw_gin (List.mem_append_right _ (tb_2 (List.mem_of_getElem? (i := 160) rfl))) rfl⟩
theorem lk_f_X9_42 : hp_FL RX9 42 9 13 true (tyX9 13) := ⟨_, _, _, _, CL9, by decide, rfl, rfl, rfl, lw_gin (List.mem_append_right _ (tb_2 (List.mem_of_getElem? (i := 161) rfl))) rfl⟩
theorem lk_f_X9_45 : hp_FL RX9 45 9 14 true (tyX9 14) := ⟨_, _, _, _, CL9, by decide, rfl, rfl, rfl, lw_gin (List.mem_append_right _ (tb_2 (List.mem_of_getElem? (i := 162) rfl))) rfl⟩
theorem lk_f_X9_154 : hp_FL RX9 154 9 15 false (tyX9 15) := ⟨_, _, _, _, CL9, by decide, rfl, rfl, rfl, lw_gin (List.mem_append_right _ (tb_2 (List.mem_of_getElem? (i := 163) rfl))) rfl⟩
theorem lk_f_X9_48 : hp_FL RX9 48 9 16 true (tyX9 16) := ⟨_, _, _, _, CL9, by decide, rfl, rfl, rfl, lw_gin (List.mem_append_right _ (tb_2 (List.mem_of_getElem? (i := 164) rfl))) rfl⟩
theorem lk_k_X10_54 : Cond.classLink RX10 54 RX8 ∈ lw_g ∧ Cond.instantiable RX8 3 ∈ lw_g ∧ Cond.initialized RX8 ∈ lw_g := ⟨lw_gin (List.mem_append_right _ (tb_2 (List.mem_of_getElem? (i := 200) rfl))) rfl, lw_gin (List.mem_append_right _ (tb_2 (List.mem_of_getElem? (i := 201) rfl))) rfl, lw_gin (List.mem_append_right _ (tb_1 (List.mem_of_getElem? (i := 12) rfl))) rfl⟩
theorem lk_m_X10_56 : Cond.methodLinkNest RX10 56 yX8_init "AxiomBook" ∈ hp_nest := by simp [hp_nest, RX10, yX8_init, RX8]
theorem lk_o_X8_3 : Cond.methodLink RX8 3 Lib.objectInit ∈ lw_g ∧ Cond.instanceMethod Lib.objectInit ∈ lw_g ∧ Cond.code Lib.objectInit ⟨#[0xb1]⟩ 1 none ∈ lw_g := ⟨lw_gin (List.mem_append_right _ (tb_2 (List.mem_of_getElem? (i := 205) rfl))) rfl, lw_gin (List.mem_append_right _ (tb_1 (List.mem_of_getElem? (i := 22) rfl))) rfl, lw_gin (List.mem_append_right _ (tb_1 (List.mem_of_getElem? (i := 23) rfl))) rfl⟩
theorem lk_f_X8_9 : hp_FL RX8 9 8 0 true (tyX8 0) := ⟨_, _, _, _, CL8, by decide, rfl, rfl, rfl, lw_gin (List.mem_append_right _ (tb_2 (List.mem_of_getElem? (i := 206) rfl))) rfl⟩
theorem lk_f_X10_224 : hp_FL RX10 224 8 0 true (tyX8 0) := ⟨_, _, _, _, CL8, by decide, rfl, rfl, rfl, lw_gin (List.mem_append_right _ (tb_2 (List.mem_of_getElem? (i := 207) rfl))) rfl⟩
theorem lk_f_X8_15 : hp_FL RX8 15 8 1 false (tyX8 1) := ⟨_, _, _, _, CL8, by decide, rfl, rfl, rfl, lw_gin (List.mem_append_right _ (tb_2 (List.mem_of_getElem? (i := 208) rfl))) rfl⟩
theorem lk_f_X10_110 : hp_FL RX10 110 8 1 false (tyX8 1) := ⟨_, _, _, _, CL8, by decide, rfl, rfl, rfl, lw_gin (List.mem_append_right _ (tb_2 (List.mem_of_getElem? (i := 209) rfl))) rfl⟩
theorem lk_f_X8_19 : hp_FL RX8 19 8 2 false (tyX8 2) := ⟨_, _, _, _, CL8, by decide, rfl, rfl, rfl, lw_gin (List.mem_append_right _ (tb_2 (List.mem_of_getElem? (i := 210) rfl))) rfl⟩
theorem lk_f_X10_220 : hp_FL RX10 220 8 2 false (tyX8 2) := ⟨_, _, _, _, CL8, by decide, rfl, rfl, rfl, lw_gin (List.mem_append_right _ (tb_2 (List.mem_of_getElem? (i := 211) rfl))) rfl⟩
theorem lk_f_X10_12 : hp_FL RX10 12 10 0 false (tyX10 0) := ⟨_, _, _, _, CL10, by decide, rfl, rfl, rfl, lw_gin (List.mem_append_right _ (tb_2 (List.mem_of_getElem? (i := 219) rfl))) rfl⟩
theorem lk_f_X10_16 : hp_FL RX10 16 10 1 false (tyX10 1) := ⟨_, _, _, _, CL10, by decide, rfl, rfl, rfl, lw_gin (List.mem_append_right _ (tb_2 (List.mem_of_getElem? (i := 220) rfl))) rfl⟩
theorem lk_f_X10_24 : hp_FL RX10 24 10 2 true (tyX10 2) := ⟨_, _, _, _, CL10, by decide, rfl, rfl, rfl, lw_gin (List.mem_append_right _ (tb_2 (List.mem_of_getElem? (i := 221) rfl))) rfl⟩
theorem lk_f_X10_31 : hp_FL RX10 31 10 3 true (tyX10 3) := ⟨_, _, _, _, CL10, by decide, rfl, rfl, rfl, lw_gin (List.mem_append_right _ (tb_2 (List.mem_of_getElem? (i := 222) rfl))) rfl⟩
theorem lk_f_X10_38 : hp_FL RX10 38 10 4 true (tyX10 4) := ⟨_, _, _, _, CL10, by decide, rfl, rfl, rfl, lw_gin (List.mem_append_right _ (tb_2 (List.mem_of_getElem? (i := 223) rfl))) rfl⟩
theorem lk_f_X10_42 : hp_FL RX10 42 10 5 true (tyX10 5) := ⟨_, _, _, _, CL10, by decide, rfl, rfl, rfl, lw_gin (List.mem_append_right _ (tb_2 (List.mem_of_getElem? (i := 224) rfl))) rfl⟩
theorem lk_f_X10_50 : hp_FL RX10 50 10 6 true (tyX10 6) := ⟨_, _, _, _, CL10, by decide, rfl, rfl, rfl, lw_gin (List.mem_append_right _ (tb_2 (List.mem_of_getElem? (i := 225) rfl))) rfl⟩
theorem lk_f_X10_57 : hp_FL RX10 57 10 7 false (tyX10 7) := ⟨_, _, _, _, CL10, by decide, rfl, rfl, rfl, lw_gin (List.mem_append_right _ (tb_2 (List.mem_of_getElem? (i := 226) rfl))) rfl⟩
theorem lk_f_X10_61 : hp_FL RX10 61 10 8 false (tyX10 8) := ⟨_, _, _, _, CL10, by decide, rfl, rfl, rfl, lw_gin (List.mem_append_right _ (tb_2 (List.mem_of_getElem? (i := 227) rfl))) rfl⟩
theorem lk_f_X10_92 : hp_FL RX10 92 10 9 false (tyX10 9) := ⟨_, _, _, _, CL10, by decide, rfl, rfl, rfl, lw_gin (List.mem_append_right _ (tb_2 (List.mem_of_getElem? (i := 228) rfl))) rfl⟩
theorem lk_f_X10_98 : hp_FL RX10 98 10 10 false (tyX10 10) := ⟨_, _, _, _, CL10, by decide, rfl, rfl, rfl, lw_gin (List.mem_append_right _ (tb_2 (List.mem_of_getElem? (i := 229) rfl))) rfl⟩
theorem lk_m_L_15 : Cond.methodLink RL 15 yX10_feed ∈ lw_g := lw_gin (List.mem_append_right _ (tb_3 (List.mem_of_getElem? (i := 13) rfl))) rfl
theorem lk_m_X10_64 : Cond.methodLink RX10 64 yX10_bytesIn ∈ lw_g := lw_gin (List.mem_append_right _ (tb_3 (List.mem_of_getElem? (i := 17) rfl))) rfl
theorem lk_c_X10_76 : Cond.constantLong RX10 76 (255) ∈ lw_g := lw_gin (List.mem_append_right _ (tb_3 (List.mem_of_getElem? (i := 20) rfl))) rfl
theorem lk_m_X10_72 : Cond.methodLink RX10 72 yX10_append ∈ lw_g := lw_gin (List.mem_append_right _ (tb_3 (List.mem_of_getElem? (i := 21) rfl))) rfl
theorem lk_m_L_20 : Cond.methodLink RL 20 yX10_read ∈ lw_g := lw_gin (List.mem_append_right _ (tb_3 (List.mem_of_getElem? (i := 25) rfl))) rfl
theorem lk_m_X10_82 : Cond.methodLink RX10 82 yX10_forgetAnswers ∈ lw_g := lw_gin (List.mem_append_right _ (tb_3 (List.mem_of_getElem? (i := 29) rfl))) rfl
theorem lk_m_X10_105 : Cond.methodLink RX10 105 yX5_clear ∈ lw_g := lw_gin (List.mem_append_right _ (tb_3 (List.mem_of_getElem? (i := 33) rfl))) rfl
theorem lk_m_X10_85 : Cond.methodLink RX10 85 yX4_readBook ∈ lw_g := lw_gin (List.mem_append_right _ (tb_3 (List.mem_of_getElem? (i := 37) rfl))) rfl
theorem lk_m_X4_41 : Cond.methodLink RX4 41 yX0_clear ∈ lw_g := lw_gin (List.mem_append_right _ (tb_3 (List.mem_of_getElem? (i := 41) rfl))) rfl
theorem lk_m_X0_70 : Cond.methodLink RX0 70 yX2_clear ∈ lw_g := lw_gin (List.mem_append_right _ (tb_3 (List.mem_of_getElem? (i := 45) rfl))) rfl
theorem lk_m_X0_80 : Cond.methodLink RX0 80 yX5_clear ∈ lw_g := lw_gin (List.mem_append_right _ (tb_3 (List.mem_of_getElem? (i := 49) rfl))) rfl
theorem lk_m_X4_44 : Cond.methodLink RX4 44 yX7_clear ∈ lw_g := lw_gin (List.mem_append_right _ (tb_3 (List.mem_of_getElem? (i := 50) rfl))) rfl
theorem lk_m_X7_53 : Cond.methodLink RX7 53 yJ7_fill_031fb ∈ lw_g := lw_gin (List.mem_append_right _ (tb_3 (List.mem_of_getElem? (i := 54) rfl))) rfl
theorem lk_m_X7_59 : Cond.methodLink RX7 59 yJ7_fill_53178 ∈ lw_g := lw_gin (List.mem_append_right _ (tb_3 (List.mem_of_getElem? (i := 57) rfl))) rfl
theorem lk_m_X4_49 : Cond.methodLink RX4 49 yX6_open ∈ lw_g := lw_gin (List.mem_append_right _ (tb_3 (List.mem_of_getElem? (i := 58) rfl))) rfl
theorem lk_m_X4_56 : Cond.methodLink RX4 56 yX6_advance ∈ lw_g := lw_gin (List.mem_append_right _ (tb_3 (List.mem_of_getElem? (i := 62) rfl))) rfl
theorem lk_m_X6_28 : Cond.methodLink RX6 28 yX6_cut ∈ lw_g := lw_gin (List.mem_append_right _ (tb_3 (List.mem_of_getElem? (i := 66) rfl))) rfl
theorem lk_m_X6_42 : Cond.methodLink RX6 42 yX6_isBlank ∈ lw_g := lw_gin (List.mem_append_right _ (tb_3 (List.mem_of_getElem? (i := 70) rfl))) rfl
theorem lk_m_X6_31 : Cond.methodLink RX6 31 yX6_hasWrongByte ∈ lw_g := lw_gin (List.mem_append_right _ (tb_3 (List.mem_of_getElem? (i := 73) rfl))) rfl
theorem lk_m_X6_35 : Cond.methodLink RX6 35 yX6_isDollarAnd ∈ lw_g := lw_gin (List.mem_append_right _ (tb_3 (List.mem_of_getElem? (i := 77) rfl))) rfl
theorem lk_m_X6_39 : Cond.methodLink RX6 39 yX6_hasCommentMark ∈ lw_g := lw_gin (List.mem_append_right _ (tb_3 (List.mem_of_getElem? (i := 81) rfl))) rfl
theorem lk_m_X4_60 : Cond.methodLink RX4 60 yX6_word ∈ lw_g := lw_gin (List.mem_append_right _ (tb_3 (List.mem_of_getElem? (i := 85) rfl))) rfl
theorem lk_m_X6_45 : Cond.methodLink RX6 45 yX6_keyword ∈ lw_g := lw_gin (List.mem_append_right _ (tb_3 (List.mem_of_getElem? (i := 89) rfl))) rfl
theorem lk_m_X4_64 : Cond.methodLink RX4 64 yX4_takeLabel ∈ lw_g := lw_gin (List.mem_append_right _ (tb_3 (List.mem_of_getElem? (i := 93) rfl))) rfl
theorem lk_m_X4_107 : Cond.methodLink RX4 107 yX6_isLabel ∈ lw_g := lw_gin (List.mem_append_right _ (tb_3 (List.mem_of_getElem? (i := 97) rfl))) rfl
theorem lk_m_X4_110 : Cond.methodLink RX4 110 yX4_namedByToken ∈ lw_g := lw_gin (List.mem_append_right _ (tb_3 (List.mem_of_getElem? (i := 101) rfl))) rfl
theorem lk_m_X4_126 : Cond.methodLink RX4 126 yX2_lookUp ∈ lw_g := lw_gin (List.mem_append_right _ (tb_3 (List.mem_of_getElem? (i := 105) rfl))) rfl
theorem lk_m_X2_34 : Cond.methodLink RX2 34 yX2_headOf ∈ lw_g := lw_gin (List.mem_append_right _ (tb_3 (List.mem_of_getElem? (i := 109) rfl))) rfl
theorem lk_m_X2_38 : Cond.methodLink RX2 38 yX2_isSame ∈ lw_g := lw_gin (List.mem_append_right _ (tb_3 (List.mem_of_getElem? (i := 112) rfl))) rfl
theorem lk_m_X4_67 : Cond.methodLink RX4 67 yX4_takeOutside ∈ lw_g := lw_gin (List.mem_append_right _ (tb_3 (List.mem_of_getElem? (i := 116) rfl))) rfl
theorem lk_m_X4_136 : Cond.methodLink RX4 136 yX4_begin ∈ lw_g := lw_gin (List.mem_append_right _ (tb_3 (List.mem_of_getElem? (i := 120) rfl))) rfl
theorem lk_m_X4_139 : Cond.methodLink RX4 139 yX7_openBlock ∈ lw_g := lw_gin (List.mem_append_right _ (tb_3 (List.mem_of_getElem? (i := 124) rfl))) rfl
theorem lk_m_X4_142 : Cond.methodLink RX4 142 yX7_closeBlock ∈ lw_g := lw_gin (List.mem_append_right _ (tb_3 (List.mem_of_getElem? (i := 128) rfl))) rfl
theorem lk_m_X7_62 : Cond.methodLink RX7 62 yX7_dropPairs ∈ lw_g := lw_gin (List.mem_append_right _ (tb_3 (List.mem_of_getElem? (i := 132) rfl))) rfl
theorem lk_m_X7_65 : Cond.methodLink RX7 65 yX7_dropHypothesis ∈ lw_g := lw_gin (List.mem_append_right _ (tb_3 (List.mem_of_getElem? (i := 136) rfl))) rfl
theorem lk_m_X7_84 : Cond.methodLink RX7 84 yX5_get ∈ lw_g := lw_gin (List.mem_append_right _ (tb_3 (List.mem_of_getElem? (i := 140) rfl))) rfl
theorem lk_m_X7_90 : Cond.methodLink RX7 90 yX7_addNeeds ∈ lw_g := lw_gin (List.mem_append_right _ (tb_3 (List.mem_of_getElem? (i := 144) rfl))) rfl
theorem lk_m_X7_94 : Cond.methodLink RX7 94 yX5_size ∈ lw_g := lw_gin (List.mem_append_right _ (tb_3 (List.mem_of_getElem? (i := 148) rfl))) rfl
theorem lk_m_X4_71 : Cond.methodLink RX4 71 yX4_takeKind ∈ lw_g := lw_gin (List.mem_append_right _ (tb_3 (List.mem_of_getElem? (i := 152) rfl))) rfl
theorem lk_m_X4_74 : Cond.methodLink RX4 74 yX4_takeDeclared ∈ lw_g := lw_gin (List.mem_append_right _ (tb_3 (List.mem_of_getElem? (i := 156) rfl))) rfl
theorem lk_m_X4_155 : Cond.methodLink RX4 155 yX0_isVariable ∈ lw_g := lw_gin (List.mem_append_right _ (tb_3 (List.mem_of_getElem? (i := 160) rfl))) rfl
theorem lk_m_X4_159 : Cond.methodLink RX4 159 yX7_isActive ∈ lw_g := lw_gin (List.mem_append_right _ (tb_3 (List.mem_of_getElem? (i := 164) rfl))) rfl
theorem lk_m_X4_162 : Cond.methodLink RX4 162 yX0_addSymbol ∈ lw_g := lw_gin (List.mem_append_right _ (tb_3 (List.mem_of_getElem? (i := 168) rfl))) rfl
theorem lk_m_X0_85 : Cond.methodLink RX0 85 yX2_add ∈ lw_g := lw_gin (List.mem_append_right _ (tb_3 (List.mem_of_getElem? (i := 172) rfl))) rfl
theorem lk_m_X4_166 : Cond.methodLink RX4 166 yX7_activate ∈ lw_g := lw_gin (List.mem_append_right _ (tb_3 (List.mem_of_getElem? (i := 176) rfl))) rfl
theorem lk_m_X4_77 : Cond.methodLink RX4 77 yX4_takeSeparated ∈ lw_g := lw_gin (List.mem_append_right _ (tb_3 (List.mem_of_getElem? (i := 180) rfl))) rfl
theorem lk_m_X4_170 : Cond.methodLink RX4 170 yX7_addPair ∈ lw_g := lw_gin (List.mem_append_right _ (tb_3 (List.mem_of_getElem? (i := 184) rfl))) rfl
theorem lk_m_X7_98 : Cond.methodLink RX7 98 yJ9_min_7cf53 ∈ lw_g := lw_gin (List.mem_append_right _ (tb_3 (List.mem_of_getElem? (i := 188) rfl))) rfl
theorem lk_m_X7_103 : Cond.methodLink RX7 103 yJ9_max_7cf53 ∈ lw_g := lw_gin (List.mem_append_right _ (tb_3 (List.mem_of_getElem? (i := 191) rfl))) rfl
theorem lk_a_X7_106 : Cond.methodLink RX7 106 arraycopyName ∈ lw_g ∧ Cond.native arraycopyName ∈ lw_g ∧ Cond.static arraycopyName ∈ lw_g ∧ Cond.initialized "java/lang/System" ∈ lw_g := ⟨lw_gin (List.mem_append_right _ (tb_3 (List.mem_of_getElem? (i := 194) rfl))) rfl, lw_gin (List.mem_append_right _ (tb_3 (List.mem_of_getElem? (i := 196) rfl))) rfl, lw_gin (List.mem_append_right _ (tb_3 (List.mem_of_getElem? (i := 195) rfl))) rfl, lw_gin (List.mem_append_right _ (tb_1 (List.mem_of_getElem? (i := 15) rfl))) rfl⟩
theorem lk_m_X4_80 : Cond.methodLink RX4 80 yX4_takeSymbol ∈ lw_g := lw_gin (List.mem_append_right _ (tb_3 (List.mem_of_getElem? (i := 197) rfl))) rfl
theorem lk_m_X4_174 : Cond.methodLink RX4 174 yX4_mayStand ∈ lw_g := lw_gin (List.mem_append_right _ (tb_3 (List.mem_of_getElem? (i := 201) rfl))) rfl
theorem lk_m_X4_186 : Cond.methodLink RX4 186 yX0_isConstant ∈ lw_g := lw_gin (List.mem_append_right _ (tb_3 (List.mem_of_getElem? (i := 205) rfl))) rfl
theorem lk_m_X4_189 : Cond.methodLink RX4 189 yX7_isTyped ∈ lw_g := lw_gin (List.mem_append_right _ (tb_3 (List.mem_of_getElem? (i := 209) rfl))) rfl
theorem lk_m_X4_181 : Cond.methodLink RX4 181 yX5_add ∈ lw_g := lw_gin (List.mem_append_right _ (tb_3 (List.mem_of_getElem? (i := 213) rfl))) rfl
theorem lk_m_X5_25 : Cond.methodLink RX5 25 yJ7_copyOf_59c91 ∈ lw_g := lw_gin (List.mem_append_right _ (tb_3 (List.mem_of_getElem? (i := 217) rfl))) rfl
theorem lk_m_J7_304 : Cond.methodLink RJ7 304 yJ9_min_7cf53 ∈ lw_g := lw_gin (List.mem_append_right _ (tb_3 (List.mem_of_getElem? (i := 227) rfl))) rfl
theorem lk_a_J7_150 : Cond.methodLink RJ7 150 arraycopyName ∈ lw_g ∧ Cond.native arraycopyName ∈ lw_g ∧ Cond.static arraycopyName ∈ lw_g ∧ Cond.initialized "java/lang/System" ∈ lw_g := ⟨lw_gin (List.mem_append_right _ (tb_3 (List.mem_of_getElem? (i := 228) rfl))) rfl, lw_gin (List.mem_append_right _ (tb_3 (List.mem_of_getElem? (i := 196) rfl))) rfl, lw_gin (List.mem_append_right _ (tb_3 (List.mem_of_getElem? (i := 195) rfl))) rfl, lw_gin (List.mem_append_right _ (tb_1 (List.mem_of_getElem? (i := 15) rfl))) rfl⟩
theorem lk_m_X4_83 : Cond.methodLink RX4 83 yX4_takeEnd ∈ lw_g := lw_gin (List.mem_append_right _ (tb_3 (List.mem_of_getElem? (i := 229) rfl))) rfl
theorem lk_m_X4_86 : Cond.methodLink RX4 86 yX4_takeProofToken ∈ lw_g := lw_gin (List.mem_append_right _ (tb_3 (List.mem_of_getElem? (i := 233) rfl))) rfl
theorem lk_m_X4_89 : Cond.methodLink RX4 89 yX4_endStatement ∈ lw_g := lw_gin (List.mem_append_right _ (tb_3 (List.mem_of_getElem? (i := 237) rfl))) rfl
theorem lk_m_X4_204 : Cond.methodLink RX4 204 yX2_add ∈ lw_g := lw_gin (List.mem_append_right _ (tb_4 (List.mem_of_getElem? (i := 1) rfl))) rfl
theorem lk_m_X4_207 : Cond.methodLink RX4 207 yX5_endRow ∈ lw_g := lw_gin (List.mem_append_right _ (tb_4 (List.mem_of_getElem? (i := 2) rfl))) rfl
theorem lk_m_X4_210 : Cond.methodLink RX4 210 yX7_makeFrame ∈ lw_g := lw_gin (List.mem_append_right _ (tb_4 (List.mem_of_getElem? (i := 6) rfl))) rfl
theorem lk_m_X7_114 : Cond.methodLink RX7 114 yX5_add ∈ lw_g := lw_gin (List.mem_append_right _ (tb_4 (List.mem_of_getElem? (i := 10) rfl))) rfl
theorem lk_m_X4_214 : Cond.methodLink RX4 214 yX7_addHypothesis ∈ lw_g := lw_gin (List.mem_append_right _ (tb_4 (List.mem_of_getElem? (i := 11) rfl))) rfl
theorem lk_m_X4_226 : Cond.methodLink RX4 226 yX0_noteForm ∈ lw_g := lw_gin (List.mem_append_right _ (tb_4 (List.mem_of_getElem? (i := 15) rfl))) rfl
theorem lk_m_X0_99 : Cond.methodLink RX0 99 yX5_size ∈ lw_g := lw_gin (List.mem_append_right _ (tb_4 (List.mem_of_getElem? (i := 19) rfl))) rfl
theorem lk_m_X0_103 : Cond.methodLink RX0 103 yX0_isJust ∈ lw_g := lw_gin (List.mem_append_right _ (tb_4 (List.mem_of_getElem? (i := 20) rfl))) rfl
theorem lk_m_X0_89 : Cond.methodLink RX0 89 yX5_get ∈ lw_g := lw_gin (List.mem_append_right _ (tb_4 (List.mem_of_getElem? (i := 24) rfl))) rfl
theorem lk_m_X0_93 : Cond.methodLink RX0 93 yX0_isInToken ∈ lw_g := lw_gin (List.mem_append_right _ (tb_4 (List.mem_of_getElem? (i := 25) rfl))) rfl
theorem lk_m_X4_229 : Cond.methodLink RX4 229 yX0_noteAxioms ∈ lw_g := lw_gin (List.mem_append_right _ (tb_4 (List.mem_of_getElem? (i := 29) rfl))) rfl
theorem lk_m_L_25 : Cond.methodLink RL 25 yX10_place ∈ lw_g := lw_gin (List.mem_append_right _ (tb_4 (List.mem_of_getElem? (i := 33) rfl))) rfl
theorem lk_m_L_29 : Cond.methodLink RL 29 yX10_count ∈ lw_g := lw_gin (List.mem_append_right _ (tb_4 (List.mem_of_getElem? (i := 37) rfl))) rfl
theorem lk_m_L_34 : Cond.methodLink RL 34 yX10_statement ∈ lw_g := lw_gin (List.mem_append_right _ (tb_4 (List.mem_of_getElem? (i := 41) rfl))) rfl
theorem lk_m_X10_117 : Cond.methodLink RX10 117 yX0_isStatement ∈ lw_g := lw_gin (List.mem_append_right _ (tb_4 (List.mem_of_getElem? (i := 45) rfl))) rfl
theorem lk_m_X10_128 : Cond.methodLink RX10 128 yX5_size ∈ lw_g := lw_gin (List.mem_append_right _ (tb_4 (List.mem_of_getElem? (i := 49) rfl))) rfl
theorem lk_m_L_39 : Cond.methodLink RL 39 yX10_symbol ∈ lw_g := lw_gin (List.mem_append_right _ (tb_4 (List.mem_of_getElem? (i := 50) rfl))) rfl
theorem lk_m_X10_144 : Cond.methodLink RX10 144 yX5_get ∈ lw_g := lw_gin (List.mem_append_right _ (tb_4 (List.mem_of_getElem? (i := 54) rfl))) rfl
theorem lk_m_L_43 : Cond.methodLink RL 43 yX10_name ∈ lw_g := lw_gin (List.mem_append_right _ (tb_4 (List.mem_of_getElem? (i := 55) rfl))) rfl
theorem lk_m_X10_152 : Cond.methodLink RX10 152 yX2_byteOf ∈ lw_g := lw_gin (List.mem_append_right _ (tb_4 (List.mem_of_getElem? (i := 59) rfl))) rfl
theorem lk_m_L_48 : Cond.methodLink RL 48 yX10_frame ∈ lw_g := lw_gin (List.mem_append_right _ (tb_4 (List.mem_of_getElem? (i := 63) rfl))) rfl
theorem lk_m_X10_157 : Cond.methodLink RX10 157 yX0_isAssertion ∈ lw_g := lw_gin (List.mem_append_right _ (tb_4 (List.mem_of_getElem? (i := 67) rfl))) rfl
theorem lk_m_X0_81 : Cond.methodLink RX0 81 yX0_isStatement ∈ lw_g := lw_gin (List.mem_append_right _ (tb_4 (List.mem_of_getElem? (i := 71) rfl))) rfl
theorem lk_m_L_52 : Cond.methodLink RL 52 yX10_check ∈ lw_g := lw_gin (List.mem_append_right _ (tb_4 (List.mem_of_getElem? (i := 72) rfl))) rfl
theorem lk_m_X10_160 : Cond.methodLink RX10 160 yX0_isProvable ∈ lw_g := lw_gin (List.mem_append_right _ (tb_4 (List.mem_of_getElem? (i := 76) rfl))) rfl
theorem lk_m_X10_163 : Cond.methodLink RX10 163 yX10_examine ∈ lw_g := lw_gin (List.mem_append_right _ (tb_4 (List.mem_of_getElem? (i := 80) rfl))) rfl
theorem lk_m_X10_169 : Cond.methodLink RX10 169 yX3_decode ∈ lw_g := lw_gin (List.mem_append_right _ (tb_4 (List.mem_of_getElem? (i := 84) rfl))) rfl
theorem lk_m_X3_42 : Cond.methodLink RX3 42 yX3_isOpen ∈ lw_g := lw_gin (List.mem_append_right _ (tb_4 (List.mem_of_getElem? (i := 88) rfl))) rfl
theorem lk_m_X3_52 : Cond.methodLink RX3 52 yX5_size ∈ lw_g := lw_gin (List.mem_append_right _ (tb_4 (List.mem_of_getElem? (i := 92) rfl))) rfl
theorem lk_m_X3_71 : Cond.methodLink RX3 71 yX0_isJust ∈ lw_g := lw_gin (List.mem_append_right _ (tb_4 (List.mem_of_getElem? (i := 93) rfl))) rfl
theorem lk_m_X3_78 : Cond.methodLink RX3 78 yX5_get ∈ lw_g := lw_gin (List.mem_append_right _ (tb_4 (List.mem_of_getElem? (i := 94) rfl))) rfl
theorem lk_m_X3_85 : Cond.methodLink RX3 85 yX0_isInToken ∈ lw_g := lw_gin (List.mem_append_right _ (tb_4 (List.mem_of_getElem? (i := 95) rfl))) rfl
theorem lk_m_X3_61 : Cond.methodLink RX3 61 yX3_decodeList ∈ lw_g := lw_gin (List.mem_append_right _ (tb_4 (List.mem_of_getElem? (i := 96) rfl))) rfl
theorem lk_m_X3_111 : Cond.methodLink RX3 111 yX3_knowHypotheses ∈ lw_g := lw_gin (List.mem_append_right _ (tb_4 (List.mem_of_getElem? (i := 100) rfl))) rfl
theorem lk_m_X3_120 : Cond.methodLink RX3 120 yJ7_fill_031fb ∈ lw_g := lw_gin (List.mem_append_right _ (tb_4 (List.mem_of_getElem? (i := 104) rfl))) rfl
theorem lk_m_X3_114 : Cond.methodLink RX3 114 yX3_know ∈ lw_g := lw_gin (List.mem_append_right _ (tb_4 (List.mem_of_getElem? (i := 105) rfl))) rfl
theorem lk_m_X3_101 : Cond.methodLink RX3 101 yX3_mayName ∈ lw_g := lw_gin (List.mem_append_right _ (tb_4 (List.mem_of_getElem? (i := 109) rfl))) rfl
theorem lk_m_X3_104 : Cond.methodLink RX3 104 yX3_fail ∈ lw_g := lw_gin (List.mem_append_right _ (tb_4 (List.mem_of_getElem? (i := 113) rfl))) rfl
theorem lk_m_X3_65 : Cond.methodLink RX3 65 yX3_decodeLabels ∈ lw_g := lw_gin (List.mem_append_right _ (tb_4 (List.mem_of_getElem? (i := 117) rfl))) rfl
theorem lk_m_X3_107 : Cond.methodLink RX3 107 yX3_addStep ∈ lw_g := lw_gin (List.mem_append_right _ (tb_4 (List.mem_of_getElem? (i := 121) rfl))) rfl
theorem lk_m_X3_68 : Cond.methodLink RX3 68 yX3_decodeLetters ∈ lw_g := lw_gin (List.mem_append_right _ (tb_4 (List.mem_of_getElem? (i := 125) rfl))) rfl
theorem lk_m_X3_139 : Cond.methodLink RX3 139 yX3_takeLetter ∈ lw_g := lw_gin (List.mem_append_right _ (tb_4 (List.mem_of_getElem? (i := 129) rfl))) rfl
theorem lk_m_X3_142 : Cond.methodLink RX3 142 yX3_mark ∈ lw_g := lw_gin (List.mem_append_right _ (tb_4 (List.mem_of_getElem? (i := 133) rfl))) rfl
theorem lk_c_X3_145 : Cond.constant RX3 145 (100000) ∈ lw_g := lw_gin (List.mem_append_right _ (tb_4 (List.mem_of_getElem? (i := 137) rfl))) rfl
theorem lk_m_X3_146 : Cond.methodLink RX3 146 yJ9_min_7cf53 ∈ lw_g := lw_gin (List.mem_append_right _ (tb_4 (List.mem_of_getElem? (i := 138) rfl))) rfl
theorem lk_m_X3_151 : Cond.methodLink RX3 151 yX3_takeNumber ∈ lw_g := lw_gin (List.mem_append_right _ (tb_4 (List.mem_of_getElem? (i := 139) rfl))) rfl
theorem lk_m_X10_176 : Cond.methodLink RX10 176 yX1_run ∈ lw_g := lw_gin (List.mem_append_right _ (tb_4 (List.mem_of_getElem? (i := 143) rfl))) rfl
theorem lk_m_X1_38 : Cond.methodLink RX1 38 yX5_clear ∈ lw_g := lw_gin (List.mem_append_right _ (tb_4 (List.mem_of_getElem? (i := 147) rfl))) rfl
theorem lk_m_X1_47 : Cond.methodLink RX1 47 yX1_notePartners ∈ lw_g := lw_gin (List.mem_append_right _ (tb_4 (List.mem_of_getElem? (i := 148) rfl))) rfl
theorem lk_m_X1_98 : Cond.methodLink RX1 98 yJ7_fill_d0a16 ∈ lw_g := lw_gin (List.mem_append_right _ (tb_4 (List.mem_of_getElem? (i := 152) rfl))) rfl
theorem lk_m_X1_107 : Cond.methodLink RX1 107 yX5_size ∈ lw_g := lw_gin (List.mem_append_right _ (tb_4 (List.mem_of_getElem? (i := 155) rfl))) rfl
theorem lk_m_X1_110 : Cond.methodLink RX1 110 yX5_get ∈ lw_g := lw_gin (List.mem_append_right _ (tb_4 (List.mem_of_getElem? (i := 156) rfl))) rfl
theorem lk_m_X1_113 : Cond.methodLink RX1 113 yX1_addPartner ∈ lw_g := lw_gin (List.mem_append_right _ (tb_4 (List.mem_of_getElem? (i := 157) rfl))) rfl
theorem lk_m_X1_53 : Cond.methodLink RX1 53 yJ9_min_7cf53 ∈ lw_g := lw_gin (List.mem_append_right _ (tb_4 (List.mem_of_getElem? (i := 161) rfl))) rfl
theorem lk_m_X1_67 : Cond.methodLink RX1 67 yX1_apply ∈ lw_g := lw_gin (List.mem_append_right _ (tb_4 (List.mem_of_getElem? (i := 162) rfl))) rfl
theorem lk_m_X1_120 : Cond.methodLink RX1 120 yX1_fit ∈ lw_g := lw_gin (List.mem_append_right _ (tb_4 (List.mem_of_getElem? (i := 166) rfl))) rfl
theorem lk_m_X1_136 : Cond.methodLink RX1 136 yX1_isInstance ∈ lw_g := lw_gin (List.mem_append_right _ (tb_4 (List.mem_of_getElem? (i := 170) rfl))) rfl
theorem lk_m_X1_140 : Cond.methodLink RX1 140 yX0_isVariable ∈ lw_g := lw_gin (List.mem_append_right _ (tb_4 (List.mem_of_getElem? (i := 174) rfl))) rfl
theorem lk_m_X1_123 : Cond.methodLink RX1 123 yX1_keepsApart ∈ lw_g := lw_gin (List.mem_append_right _ (tb_4 (List.mem_of_getElem? (i := 175) rfl))) rfl
theorem lk_m_X1_146 : Cond.methodLink RX1 146 yX1_areApart ∈ lw_g := lw_gin (List.mem_append_right _ (tb_4 (List.mem_of_getElem? (i := 179) rfl))) rfl
theorem lk_m_X1_149 : Cond.methodLink RX1 149 yX1_isPartnerOfOthers ∈ lw_g := lw_gin (List.mem_append_right _ (tb_4 (List.mem_of_getElem? (i := 183) rfl))) rfl
theorem lk_c_X1_152 : Cond.constantLong RX1 152 (-1) ∈ lw_g := lw_gin (List.mem_append_right _ (tb_4 (List.mem_of_getElem? (i := 187) rfl))) rfl
theorem lk_m_X1_127 : Cond.methodLink RX1 127 yX1_sizeOf ∈ lw_g := lw_gin (List.mem_append_right _ (tb_4 (List.mem_of_getElem? (i := 188) rfl))) rfl
theorem lk_m_X1_130 : Cond.methodLink RX1 130 yX1_pushInstance ∈ lw_g := lw_gin (List.mem_append_right _ (tb_4 (List.mem_of_getElem? (i := 192) rfl))) rfl
theorem lk_m_X1_84 : Cond.methodLink RX1 84 yX5_addFrom ∈ lw_g := lw_gin (List.mem_append_right _ (tb_4 (List.mem_of_getElem? (i := 196) rfl))) rfl
theorem lk_m_X5_31 : Cond.methodLink RX5 31 yX5_size ∈ lw_g := lw_gin (List.mem_append_right _ (tb_4 (List.mem_of_getElem? (i := 200) rfl))) rfl
theorem lk_m_X5_35 : Cond.methodLink RX5 35 yX5_get ∈ lw_g := lw_gin (List.mem_append_right _ (tb_4 (List.mem_of_getElem? (i := 201) rfl))) rfl
theorem lk_m_X5_39 : Cond.methodLink RX5 39 yX5_add ∈ lw_g := lw_gin (List.mem_append_right _ (tb_4 (List.mem_of_getElem? (i := 202) rfl))) rfl
theorem lk_m_X1_154 : Cond.methodLink RX1 154 yX5_add ∈ lw_g := lw_gin (List.mem_append_right _ (tb_4 (List.mem_of_getElem? (i := 203) rfl))) rfl
theorem lk_m_X1_88 : Cond.methodLink RX1 88 yX5_endRow ∈ lw_g := lw_gin (List.mem_append_right _ (tb_4 (List.mem_of_getElem? (i := 204) rfl))) rfl
theorem lk_m_X1_133 : Cond.methodLink RX1 133 yX5_dropUnderLast ∈ lw_g := lw_gin (List.mem_append_right _ (tb_4 (List.mem_of_getElem? (i := 205) rfl))) rfl
theorem lk_a_X5_43 : Cond.methodLink RX5 43 arraycopyName ∈ lw_g ∧ Cond.native arraycopyName ∈ lw_g ∧ Cond.static arraycopyName ∈ lw_g ∧ Cond.initialized "java/lang/System" ∈ lw_g := ⟨lw_gin (List.mem_append_right _ (tb_4 (List.mem_of_getElem? (i := 209) rfl))) rfl, lw_gin (List.mem_append_right _ (tb_3 (List.mem_of_getElem? (i := 196) rfl))) rfl, lw_gin (List.mem_append_right _ (tb_3 (List.mem_of_getElem? (i := 195) rfl))) rfl, lw_gin (List.mem_append_right _ (tb_1 (List.mem_of_getElem? (i := 15) rfl))) rfl⟩
theorem lk_m_X1_71 : Cond.methodLink RX1 71 yX1_push ∈ lw_g := lw_gin (List.mem_append_right _ (tb_4 (List.mem_of_getElem? (i := 210) rfl))) rfl
theorem lk_m_X10_180 : Cond.methodLink RX10 180 yX1_verdict ∈ lw_g := lw_gin (List.mem_append_right _ (tb_4 (List.mem_of_getElem? (i := 214) rfl))) rfl
theorem lk_m_X1_94 : Cond.methodLink RX1 94 yX5_hasRow ∈ lw_g := lw_gin (List.mem_append_right _ (tb_4 (List.mem_of_getElem? (i := 218) rfl))) rfl
theorem lk_m_L_56 : Cond.methodLink RL 56 yX10_step ∈ lw_g := lw_gin (List.mem_append_right _ (tb_4 (List.mem_of_getElem? (i := 222) rfl))) rfl
theorem lk_m_L_60 : Cond.methodLink RL 60 yX10_trace ∈ lw_g := lw_gin (List.mem_append_right _ (tb_4 (List.mem_of_getElem? (i := 226) rfl))) rfl
theorem lk_m_X10_184 : Cond.methodLink RX10 184 yJ9_min_7cf53 ∈ lw_g := lw_gin (List.mem_append_right _ (tb_4 (List.mem_of_getElem? (i := 230) rfl))) rfl
theorem lk_m_L_64 : Cond.methodLink RL 64 yX10_thing ∈ lw_g := lw_gin (List.mem_append_right _ (tb_4 (List.mem_of_getElem? (i := 231) rfl))) rfl
theorem lk_m_L_68 : Cond.methodLink RL 68 yX10_tell ∈ lw_g := lw_gin (List.mem_append_right _ (tb_4 (List.mem_of_getElem? (i := 235) rfl))) rfl
theorem lk_m_X10_189 : Cond.methodLink RX10 189 yX8_clear ∈ lw_g := lw_gin (List.mem_append_right _ (tb_4 (List.mem_of_getElem? (i := 239) rfl))) rfl
theorem lk_m_X10_190 : Cond.methodLink RX10 190 yX9_plant ∈ lw_g := lw_gin (List.mem_append_right _ (tb_5 (List.mem_of_getElem? (i := 3) rfl))) rfl
theorem lk_m_X9_63 : Cond.methodLink RX9 63 yX5_clear ∈ lw_g := lw_gin (List.mem_append_right _ (tb_5 (List.mem_of_getElem? (i := 7) rfl))) rfl
theorem lk_m_X9_66 : Cond.methodLink RX9 66 yJ7_fill_53178 ∈ lw_g := lw_gin (List.mem_append_right _ (tb_5 (List.mem_of_getElem? (i := 8) rfl))) rfl
theorem lk_m_X9_85 : Cond.methodLink RX9 85 yX5_size ∈ lw_g := lw_gin (List.mem_append_right _ (tb_5 (List.mem_of_getElem? (i := 9) rfl))) rfl
theorem lk_m_X9_89 : Cond.methodLink RX9 89 yX9_nodeOf ∈ lw_g := lw_gin (List.mem_append_right _ (tb_5 (List.mem_of_getElem? (i := 10) rfl))) rfl
theorem lk_m_X9_100 : Cond.methodLink RX9 100 yX9_takesStack ∈ lw_g := lw_gin (List.mem_append_right _ (tb_5 (List.mem_of_getElem? (i := 14) rfl))) rfl
theorem lk_m_X9_108 : Cond.methodLink RX9 108 yX5_get ∈ lw_g := lw_gin (List.mem_append_right _ (tb_5 (List.mem_of_getElem? (i := 18) rfl))) rfl
theorem lk_m_X9_104 : Cond.methodLink RX9 104 yX9_addNode ∈ lw_g := lw_gin (List.mem_append_right _ (tb_5 (List.mem_of_getElem? (i := 19) rfl))) rfl
theorem lk_m_X9_112 : Cond.methodLink RX9 112 yX5_add ∈ lw_g := lw_gin (List.mem_append_right _ (tb_5 (List.mem_of_getElem? (i := 23) rfl))) rfl
theorem lk_m_X9_115 : Cond.methodLink RX9 115 yX5_endRow ∈ lw_g := lw_gin (List.mem_append_right _ (tb_5 (List.mem_of_getElem? (i := 24) rfl))) rfl
theorem lk_m_X10_193 : Cond.methodLink RX10 193 yX9_compress ∈ lw_g := lw_gin (List.mem_append_right _ (tb_5 (List.mem_of_getElem? (i := 25) rfl))) rfl
theorem lk_m_X9_143 : Cond.methodLink RX9 143 yX9_numberLabels ∈ lw_g := lw_gin (List.mem_append_right _ (tb_5 (List.mem_of_getElem? (i := 29) rfl))) rfl
theorem lk_m_X9_131 : Cond.methodLink RX9 131 yX8_put ∈ lw_g := lw_gin (List.mem_append_right _ (tb_5 (List.mem_of_getElem? (i := 33) rfl))) rfl
theorem lk_m_X9_139 : Cond.methodLink RX9 139 yX8_putName ∈ lw_g := lw_gin (List.mem_append_right _ (tb_5 (List.mem_of_getElem? (i := 37) rfl))) rfl
theorem lk_m_X8_23 : Cond.methodLink RX8 23 yX2_lengthOf ∈ lw_g := lw_gin (List.mem_append_right _ (tb_5 (List.mem_of_getElem? (i := 41) rfl))) rfl
theorem lk_m_X8_29 : Cond.methodLink RX8 29 yX2_byteOf ∈ lw_g := lw_gin (List.mem_append_right _ (tb_5 (List.mem_of_getElem? (i := 45) rfl))) rfl
theorem lk_m_X8_33 : Cond.methodLink RX8 33 yX8_put ∈ lw_g := lw_gin (List.mem_append_right _ (tb_5 (List.mem_of_getElem? (i := 46) rfl))) rfl
theorem lk_m_X9_118 : Cond.methodLink RX9 118 yX9_enterRoot ∈ lw_g := lw_gin (List.mem_append_right _ (tb_5 (List.mem_of_getElem? (i := 47) rfl))) rfl
theorem lk_m_X9_128 : Cond.methodLink RX9 128 yX9_enter ∈ lw_g := lw_gin (List.mem_append_right _ (tb_5 (List.mem_of_getElem? (i := 51) rfl))) rfl
theorem lk_m_X9_124 : Cond.methodLink RX9 124 yX9_nextTaken ∈ lw_g := lw_gin (List.mem_append_right _ (tb_5 (List.mem_of_getElem? (i := 55) rfl))) rfl
theorem lk_m_X9_147 : Cond.methodLink RX9 147 yX9_leave ∈ lw_g := lw_gin (List.mem_append_right _ (tb_5 (List.mem_of_getElem? (i := 59) rfl))) rfl
theorem lk_m_X9_150 : Cond.methodLink RX9 150 yX9_putNumber ∈ lw_g := lw_gin (List.mem_append_right _ (tb_5 (List.mem_of_getElem? (i := 63) rfl))) rfl
theorem lk_m_X10_197 : Cond.methodLink RX10 197 yX10_publish ∈ lw_g := lw_gin (List.mem_append_right _ (tb_5 (List.mem_of_getElem? (i := 67) rfl))) rfl
theorem lk_m_X10_201 : Cond.methodLink RX10 201 yX9_writeOut ∈ lw_g := lw_gin (List.mem_append_right _ (tb_5 (List.mem_of_getElem? (i := 71) rfl))) rfl
theorem lk_m_L_72 : Cond.methodLink RL 72 yX10_print ∈ lw_g := lw_gin (List.mem_append_right _ (tb_5 (List.mem_of_getElem? (i := 75) rfl))) rfl
theorem lk_m_X10_205 : Cond.methodLink RX10 205 yX10_writeStatement ∈ lw_g := lw_gin (List.mem_append_right _ (tb_5 (List.mem_of_getElem? (i := 79) rfl))) rfl
theorem lk_m_X10_209 : Cond.methodLink RX10 209 yX8_putName ∈ lw_g := lw_gin (List.mem_append_right _ (tb_5 (List.mem_of_getElem? (i := 83) rfl))) rfl
theorem lk_m_X10_213 : Cond.methodLink RX10 213 yX8_put ∈ lw_g := lw_gin (List.mem_append_right _ (tb_5 (List.mem_of_getElem? (i := 84) rfl))) rfl
theorem lk_m_X10_217 : Cond.methodLink RX10 217 yX10_keywordOf ∈ lw_g := lw_gin (List.mem_append_right _ (tb_5 (List.mem_of_getElem? (i := 85) rfl))) rfl
theorem lk_m_L_76 : Cond.methodLink RL 76 yX10_out ∈ lw_g := lw_gin (List.mem_append_right _ (tb_5 (List.mem_of_getElem? (i := 88) rfl))) rfl
theorem lk_m_L_80 : Cond.methodLink RL 80 yX10_rests ∈ lw_g := lw_gin (List.mem_append_right _ (tb_5 (List.mem_of_getElem? (i := 92) rfl))) rfl
theorem lk_m_X10_227 : Cond.methodLink RX10 227 yX0_axiomUnder ∈ lw_g := lw_gin (List.mem_append_right _ (tb_5 (List.mem_of_getElem? (i := 96) rfl))) rfl
theorem lk_m_L_84 : Cond.methodLink RL 84 yX10_find ∈ lw_g := lw_gin (List.mem_append_right _ (tb_5 (List.mem_of_getElem? (i := 100) rfl))) rfl
theorem lk_m_X10_230 : Cond.methodLink RX10 230 yX2_lookUp ∈ lw_g := lw_gin (List.mem_append_right _ (tb_5 (List.mem_of_getElem? (i := 104) rfl))) rfl
theorem lk_k_L_10 : Cond.classLink RL 10 RX11 ∈ lw_g ∧ Cond.instantiable RX11 86 ∈ lw_g ∧ Cond.initialized RX11 ∈ lw_g := ⟨lw_gin (List.mem_append_right _ (tb_5 (List.mem_of_getElem? (i := 105) rfl))) rfl, lw_gin (List.mem_append_right _ (tb_5 (List.mem_of_getElem? (i := 106) rfl))) rfl, lw_gin (List.mem_append_right _ (tb_1 (List.mem_of_getElem? (i := 13) rfl))) rfl⟩
theorem lk_m_L_12 : Cond.methodLink RL 12 yX11_init ∈ lw_g := lw_gin (List.mem_append_right _ (tb_5 (List.mem_of_getElem? (i := 107) rfl))) rfl
theorem lk_o_X11_1 : Cond.methodLink RX11 1 Lib.objectInit ∈ lw_g ∧ Cond.instanceMethod Lib.objectInit ∈ lw_g ∧ Cond.code Lib.objectInit ⟨#[0xb1]⟩ 1 none ∈ lw_g := ⟨lw_gin (List.mem_append_right _ (tb_5 (List.mem_of_getElem? (i := 110) rfl))) rfl, lw_gin (List.mem_append_right _ (tb_1 (List.mem_of_getElem? (i := 22) rfl))) rfl, lw_gin (List.mem_append_right _ (tb_1 (List.mem_of_getElem? (i := 23) rfl))) rfl⟩
theorem lk_c_X11_129 : Cond.constant RX11 129 (40000) ∈ lw_g := lw_gin (List.mem_append_right _ (tb_5 (List.mem_of_getElem? (i := 111) rfl))) rfl
theorem lk_f_X11_7 : hp_FL RX11 7 11 0 true (tyX11 0) := ⟨_, _, _, _, CL11, by decide, rfl, rfl, rfl, lw_gin (List.mem_append_right _ (tb_5 (List.mem_of_getElem? (i := 112) rfl))) rfl⟩
theorem lk_f_X11_197 : hp_FL RX11 197 11 1 false (tyX11 1) := ⟨_, _, _, _, CL11, by decide, rfl, rfl, rfl, lw_gin (List.mem_append_right _ (tb_5 (List.mem_of_getElem? (i := 113) rfl))) rfl⟩
theorem lk_f_X11_338 : hp_FL RX11 338 11 2 false (tyX11 2) := ⟨_, _, _, _, CL11, by decide, rfl, rfl, rfl, lw_gin (List.mem_append_right _ (tb_5 (List.mem_of_getElem? (i := 114) rfl))) rfl⟩
theorem lk_f_X11_326 : hp_FL RX11 326 11 3 false (tyX11 3) := ⟨_, _, _, _, CL11, by decide, rfl, rfl, rfl, lw_gin (List.mem_append_right _ (tb_5 (List.mem_of_getElem? (i := 115) rfl))) rfl⟩
theorem lk_f_X11_226 : hp_FL RX11 226 11 4 false (tyX11 4) := ⟨_, _, _, _, CL11, by decide, rfl, rfl, rfl, lw_gin (List.mem_append_right _ (tb_5 (List.mem_of_getElem? (i := 116) rfl))) rfl⟩
theorem lk_f_X11_13 : hp_FL RX11 13 11 5 true (tyX11 5) := ⟨_, _, _, _, CL11, by decide, rfl, rfl, rfl, lw_gin (List.mem_append_right _ (tb_5 (List.mem_of_getElem? (i := 117) rfl))) rfl⟩
theorem lk_f_X11_16 : hp_FL RX11 16 11 6 true (tyX11 6) := ⟨_, _, _, _, CL11, by decide, rfl, rfl, rfl, lw_gin (List.mem_append_right _ (tb_5 (List.mem_of_getElem? (i := 118) rfl))) rfl⟩
theorem lk_f_X11_19 : hp_FL RX11 19 11 7 true (tyX11 7) := ⟨_, _, _, _, CL11, by decide, rfl, rfl, rfl, lw_gin (List.mem_append_right _ (tb_5 (List.mem_of_getElem? (i := 119) rfl))) rfl⟩
theorem lk_f_X11_22 : hp_FL RX11 22 11 8 true (tyX11 8) := ⟨_, _, _, _, CL11, by decide, rfl, rfl, rfl, lw_gin (List.mem_append_right _ (tb_5 (List.mem_of_getElem? (i := 120) rfl))) rfl⟩
theorem lk_f_X11_26 : hp_FL RX11 26 11 9 true (tyX11 9) := ⟨_, _, _, _, CL11, by decide, rfl, rfl, rfl, lw_gin (List.mem_append_right _ (tb_5 (List.mem_of_getElem? (i := 121) rfl))) rfl⟩
theorem lk_f_X11_29 : hp_FL RX11 29 11 10 true (tyX11 10) := ⟨_, _, _, _, CL11, by decide, rfl, rfl, rfl, lw_gin (List.mem_append_right _ (tb_5 (List.mem_of_getElem? (i := 122) rfl))) rfl⟩
theorem lk_f_X11_32 : hp_FL RX11 32 11 11 true (tyX11 11) := ⟨_, _, _, _, CL11, by decide, rfl, rfl, rfl, lw_gin (List.mem_append_right _ (tb_5 (List.mem_of_getElem? (i := 123) rfl))) rfl⟩
theorem lk_f_X11_35 : hp_FL RX11 35 11 12 true (tyX11 12) := ⟨_, _, _, _, CL11, by decide, rfl, rfl, rfl, lw_gin (List.mem_append_right _ (tb_5 (List.mem_of_getElem? (i := 124) rfl))) rfl⟩
theorem lk_f_X11_38 : hp_FL RX11 38 11 13 true (tyX11 13) := ⟨_, _, _, _, CL11, by decide, rfl, rfl, rfl, lw_gin (List.mem_append_right _ (tb_5 (List.mem_of_getElem? (i := 125) rfl))) rfl⟩
theorem lk_f_X11_41 : hp_FL RX11 41 11 14 true (tyX11 14) := ⟨_, _, _, _, CL11, by decide, rfl, rfl, rfl, lw_gin (List.mem_append_right _ (tb_5 (List.mem_of_getElem? (i := 126) rfl))) rfl⟩
theorem lk_f_X11_44 : hp_FL RX11 44 11 15 true (tyX11 15) := ⟨_, _, _, _, CL11, by decide, rfl, rfl, rfl, lw_gin (List.mem_append_right _ (tb_5 (List.mem_of_getElem? (i := 127) rfl))) rfl⟩
theorem lk_f_X11_47 : hp_FL RX11 47 11 16 true (tyX11 16) := ⟨_, _, _, _, CL11, by decide, rfl, rfl, rfl, lw_gin (List.mem_append_right _ (tb_5 (List.mem_of_getElem? (i := 128) rfl))) rfl⟩
theorem lk_f_X11_50 : hp_FL RX11 50 11 17 true (tyX11 17) := ⟨_, _, _, _, CL11, by decide, rfl, rfl, rfl, lw_gin (List.mem_append_right _ (tb_5 (List.mem_of_getElem? (i := 129) rfl))) rfl⟩
theorem lk_f_X11_53 : hp_FL RX11 53 11 18 true (tyX11 18) := ⟨_, _, _, _, CL11, by decide, rfl, rfl, rfl, lw_gin (List.mem_append_right _ (tb_5 (List.mem_of_getElem? (i := 130) rfl))) rfl⟩
theorem lk_f_X11_56 : hp_FL RX11 56 11 19 true (tyX11 19) := ⟨_, _, _, _, CL11, by decide, rfl, rfl, rfl, lw_gin (List.mem_append_right _ (tb_5 (List.mem_of_getElem? (i := 131) rfl))) rfl⟩
theorem lk_f_X11_59 : hp_FL RX11 59 11 20 true (tyX11 20) := ⟨_, _, _, _, CL11, by decide, rfl, rfl, rfl, lw_gin (List.mem_append_right _ (tb_5 (List.mem_of_getElem? (i := 132) rfl))) rfl⟩
theorem lk_f_X11_62 : hp_FL RX11 62 11 21 true (tyX11 21) := ⟨_, _, _, _, CL11, by decide, rfl, rfl, rfl, lw_gin (List.mem_append_right _ (tb_5 (List.mem_of_getElem? (i := 133) rfl))) rfl⟩
theorem lk_f_X11_65 : hp_FL RX11 65 11 22 true (tyX11 22) := ⟨_, _, _, _, CL11, by decide, rfl, rfl, rfl, lw_gin (List.mem_append_right _ (tb_5 (List.mem_of_getElem? (i := 134) rfl))) rfl⟩
theorem lk_f_X11_69 : hp_FL RX11 69 11 23 true (tyX11 23) := ⟨_, _, _, _, CL11, by decide, rfl, rfl, rfl, lw_gin (List.mem_append_right _ (tb_5 (List.mem_of_getElem? (i := 135) rfl))) rfl⟩
theorem lk_f_X11_72 : hp_FL RX11 72 11 24 true (tyX11 24) := ⟨_, _, _, _, CL11, by decide, rfl, rfl, rfl, lw_gin (List.mem_append_right _ (tb_5 (List.mem_of_getElem? (i := 136) rfl))) rfl⟩
theorem lk_f_X11_75 : hp_FL RX11 75 11 25 true (tyX11 25) := ⟨_, _, _, _, CL11, by decide, rfl, rfl, rfl, lw_gin (List.mem_append_right _ (tb_5 (List.mem_of_getElem? (i := 137) rfl))) rfl⟩
theorem lk_f_X11_78 : hp_FL RX11 78 11 26 true (tyX11 26) := ⟨_, _, _, _, CL11, by decide, rfl, rfl, rfl, lw_gin (List.mem_append_right _ (tb_5 (List.mem_of_getElem? (i := 138) rfl))) rfl⟩
theorem lk_f_X11_81 : hp_FL RX11 81 11 27 true (tyX11 27) := ⟨_, _, _, _, CL11, by decide, rfl, rfl, rfl, lw_gin (List.mem_append_right _ (tb_5 (List.mem_of_getElem? (i := 139) rfl))) rfl⟩
theorem lk_f_X11_84 : hp_FL RX11 84 11 28 true (tyX11 28) := ⟨_, _, _, _, CL11, by decide, rfl, rfl, rfl, lw_gin (List.mem_append_right _ (tb_5 (List.mem_of_getElem? (i := 140) rfl))) rfl⟩
theorem lk_f_X11_210 : hp_FL RX11 210 11 29 false (tyX11 29) := ⟨_, _, _, _, CL11, by decide, rfl, rfl, rfl, lw_gin (List.mem_append_right _ (tb_5 (List.mem_of_getElem? (i := 141) rfl))) rfl⟩
theorem lk_f_X11_213 : hp_FL RX11 213 11 30 false (tyX11 30) := ⟨_, _, _, _, CL11, by decide, rfl, rfl, rfl, lw_gin (List.mem_append_right _ (tb_5 (List.mem_of_getElem? (i := 142) rfl))) rfl⟩
theorem lk_f_X11_203 : hp_FL RX11 203 11 31 false (tyX11 31) := ⟨_, _, _, _, CL11, by decide, rfl, rfl, rfl, lw_gin (List.mem_append_right _ (tb_5 (List.mem_of_getElem? (i := 143) rfl))) rfl⟩
theorem lk_f_X11_219 : hp_FL RX11 219 11 32 false (tyX11 32) := ⟨_, _, _, _, CL11, by decide, rfl, rfl, rfl, lw_gin (List.mem_append_right _ (tb_5 (List.mem_of_getElem? (i := 144) rfl))) rfl⟩
theorem lk_f_X11_229 : hp_FL RX11 229 11 33 false (tyX11 33) := ⟨_, _, _, _, CL11, by decide, rfl, rfl, rfl, lw_gin (List.mem_append_right _ (tb_5 (List.mem_of_getElem? (i := 145) rfl))) rfl⟩
theorem lk_f_X11_232 : hp_FL RX11 232 11 34 false (tyX11 34) := ⟨_, _, _, _, CL11, by decide, rfl, rfl, rfl, lw_gin (List.mem_append_right _ (tb_5 (List.mem_of_getElem? (i := 146) rfl))) rfl⟩
theorem lk_f_X11_288 : hp_FL RX11 288 11 35 false (tyX11 35) := ⟨_, _, _, _, CL11, by decide, rfl, rfl, rfl, lw_gin (List.mem_append_right _ (tb_5 (List.mem_of_getElem? (i := 147) rfl))) rfl⟩
theorem lk_f_X11_235 : hp_FL RX11 235 11 36 false (tyX11 36) := ⟨_, _, _, _, CL11, by decide, rfl, rfl, rfl, lw_gin (List.mem_append_right _ (tb_5 (List.mem_of_getElem? (i := 148) rfl))) rfl⟩
theorem lk_f_X11_238 : hp_FL RX11 238 11 37 false (tyX11 37) := ⟨_, _, _, _, CL11, by decide, rfl, rfl, rfl, lw_gin (List.mem_append_right _ (tb_5 (List.mem_of_getElem? (i := 149) rfl))) rfl⟩
theorem lk_f_X11_87 : hp_FL RX11 87 11 38 true (tyX11 38) := ⟨_, _, _, _, CL11, by decide, rfl, rfl, rfl, lw_gin (List.mem_append_right _ (tb_5 (List.mem_of_getElem? (i := 150) rfl))) rfl⟩
theorem lk_f_X11_90 : hp_FL RX11 90 11 39 true (tyX11 39) := ⟨_, _, _, _, CL11, by decide, rfl, rfl, rfl, lw_gin (List.mem_append_right _ (tb_5 (List.mem_of_getElem? (i := 151) rfl))) rfl⟩
theorem lk_f_X11_93 : hp_FL RX11 93 11 40 true (tyX11 40) := ⟨_, _, _, _, CL11, by decide, rfl, rfl, rfl, lw_gin (List.mem_append_right _ (tb_5 (List.mem_of_getElem? (i := 152) rfl))) rfl⟩
theorem lk_f_X11_96 : hp_FL RX11 96 11 41 true (tyX11 41) := ⟨_, _, _, _, CL11, by decide, rfl, rfl, rfl, lw_gin (List.mem_append_right _ (tb_5 (List.mem_of_getElem? (i := 153) rfl))) rfl⟩
theorem lk_f_X11_99 : hp_FL RX11 99 11 42 true (tyX11 42) := ⟨_, _, _, _, CL11, by decide, rfl, rfl, rfl, lw_gin (List.mem_append_right _ (tb_5 (List.mem_of_getElem? (i := 154) rfl))) rfl⟩
theorem lk_f_X11_241 : hp_FL RX11 241 11 43 false (tyX11 43) := ⟨_, _, _, _, CL11, by decide, rfl, rfl, rfl, lw_gin (List.mem_append_right _ (tb_5 (List.mem_of_getElem? (i := 155) rfl))) rfl⟩
theorem lk_f_X11_102 : hp_FL RX11 102 11 44 true (tyX11 44) := ⟨_, _, _, _, CL11, by decide, rfl, rfl, rfl, lw_gin (List.mem_append_right _ (tb_5 (List.mem_of_getElem? (i := 156) rfl))) rfl⟩
theorem lk_f_X11_105 : hp_FL RX11 105 11 45 true (tyX11 45) := ⟨_, _, _, _, CL11, by decide, rfl, rfl, rfl, lw_gin (List.mem_append_right _ (tb_5 (List.mem_of_getElem? (i := 157) rfl))) rfl⟩
theorem lk_f_X11_407 : hp_FL RX11 407 11 46 false (tyX11 46) := ⟨_, _, _, _, CL11, by decide, rfl, rfl, rfl, lw_gin (List.mem_append_right _ (tb_5 (List.mem_of_getElem? (i := 158) rfl))) rfl⟩
theorem lk_f_X11_108 : hp_FL RX11 108 11 47 true (tyX11 47) := ⟨_, _, _, _, CL11, by decide, rfl, rfl, rfl, lw_gin (List.mem_append_right _ (tb_5 (List.mem_of_getElem? (i := 159) rfl))) rfl⟩
theorem lk_f_X11_383 : hp_FL RX11 383 11 48 false (tyX11 48) := ⟨_, _, _, _, CL11, by decide, rfl, rfl, rfl, lw_gin (List.mem_append_right _ (tb_5 (List.mem_of_getElem? (i := 160) rfl))) rfl⟩
theorem lk_f_X11_111 : hp_FL RX11 111 11 49 true (tyX11 49) := ⟨_, _, _, _, CL11, by decide, rfl, rfl, rfl, lw_gin (List.mem_append_right _ (tb_5 (List.mem_of_getElem? (i := 161) rfl))) rfl⟩
theorem lk_f_X11_401 : hp_FL RX11 401 11 50 false (tyX11 50) := ⟨_, _, _, _, CL11, by decide, rfl, rfl, rfl, lw_gin (List.mem_append_right _ (tb_5 (List.mem_of_getElem? (i := 162) rfl))) rfl⟩
theorem lk_f_X11_114 : hp_FL RX11 114 11 51 true (tyX11 51) := ⟨_, _, _, _, CL11, by decide, rfl, rfl, rfl, lw_gin (List.mem_append_right _ (tb_5 (List.mem_of_getElem? (i := 163) rfl))) rfl⟩
theorem lk_f_X11_117 : hp_FL RX11 117 11 52 true (tyX11 52) := ⟨_, _, _, _, CL11, by decide, rfl, rfl, rfl, lw_gin (List.mem_append_right _ (tb_5 (List.mem_of_getElem? (i := 164) rfl))) rfl⟩
theorem lk_f_X11_404 : hp_FL RX11 404 11 53 false (tyX11 53) := ⟨_, _, _, _, CL11, by decide, rfl, rfl, rfl, lw_gin (List.mem_append_right _ (tb_5 (List.mem_of_getElem? (i := 165) rfl))) rfl⟩
theorem lk_f_X11_395 : hp_FL RX11 395 11 54 false (tyX11 54) := ⟨_, _, _, _, CL11, by decide, rfl, rfl, rfl, lw_gin (List.mem_append_right _ (tb_5 (List.mem_of_getElem? (i := 166) rfl))) rfl⟩
theorem lk_f_X11_398 : hp_FL RX11 398 11 55 false (tyX11 55) := ⟨_, _, _, _, CL11, by decide, rfl, rfl, rfl, lw_gin (List.mem_append_right _ (tb_5 (List.mem_of_getElem? (i := 167) rfl))) rfl⟩
theorem lk_f_X11_120 : hp_FL RX11 120 11 56 true (tyX11 56) := ⟨_, _, _, _, CL11, by decide, rfl, rfl, rfl, lw_gin (List.mem_append_right _ (tb_5 (List.mem_of_getElem? (i := 168) rfl))) rfl⟩
theorem lk_f_X11_123 : hp_FL RX11 123 11 57 true (tyX11 57) := ⟨_, _, _, _, CL11, by decide, rfl, rfl, rfl, lw_gin (List.mem_append_right _ (tb_5 (List.mem_of_getElem? (i := 169) rfl))) rfl⟩
theorem lk_f_X11_126 : hp_FL RX11 126 11 58 true (tyX11 58) := ⟨_, _, _, _, CL11, by decide, rfl, rfl, rfl, lw_gin (List.mem_append_right _ (tb_5 (List.mem_of_getElem? (i := 170) rfl))) rfl⟩
theorem lk_f_X11_426 : hp_FL RX11 426 11 59 false (tyX11 59) := ⟨_, _, _, _, CL11, by decide, rfl, rfl, rfl, lw_gin (List.mem_append_right _ (tb_5 (List.mem_of_getElem? (i := 171) rfl))) rfl⟩
theorem lk_f_X11_130 : hp_FL RX11 130 11 60 true (tyX11 60) := ⟨_, _, _, _, CL11, by decide, rfl, rfl, rfl, lw_gin (List.mem_append_right _ (tb_5 (List.mem_of_getElem? (i := 172) rfl))) rfl⟩
theorem lk_f_X11_133 : hp_FL RX11 133 11 61 true (tyX11 61) := ⟨_, _, _, _, CL11, by decide, rfl, rfl, rfl, lw_gin (List.mem_append_right _ (tb_5 (List.mem_of_getElem? (i := 173) rfl))) rfl⟩
theorem lk_f_X11_136 : hp_FL RX11 136 11 62 true (tyX11 62) := ⟨_, _, _, _, CL11, by decide, rfl, rfl, rfl, lw_gin (List.mem_append_right _ (tb_5 (List.mem_of_getElem? (i := 174) rfl))) rfl⟩
theorem lk_f_X11_139 : hp_FL RX11 139 11 63 true (tyX11 63) := ⟨_, _, _, _, CL11, by decide, rfl, rfl, rfl, lw_gin (List.mem_append_right _ (tb_5 (List.mem_of_getElem? (i := 175) rfl))) rfl⟩
theorem lk_f_X11_142 : hp_FL RX11 142 11 64 true (tyX11 64) := ⟨_, _, _, _, CL11, by decide, rfl, rfl, rfl, lw_gin (List.mem_append_right _ (tb_5 (List.mem_of_getElem? (i := 176) rfl))) rfl⟩
theorem lk_f_X11_145 : hp_FL RX11 145 11 65 true (tyX11 65) := ⟨_, _, _, _, CL11, by decide, rfl, rfl, rfl, lw_gin (List.mem_append_right _ (tb_5 (List.mem_of_getElem? (i := 177) rfl))) rfl⟩
theorem lk_f_X11_148 : hp_FL RX11 148 11 66 true (tyX11 66) := ⟨_, _, _, _, CL11, by decide, rfl, rfl, rfl, lw_gin (List.mem_append_right _ (tb_5 (List.mem_of_getElem? (i := 178) rfl))) rfl⟩
theorem lk_f_X11_432 : hp_FL RX11 432 11 67 false (tyX11 67) := ⟨_, _, _, _, CL11, by decide, rfl, rfl, rfl, lw_gin (List.mem_append_right _ (tb_5 (List.mem_of_getElem? (i := 179) rfl))) rfl⟩
theorem lk_f_X11_151 : hp_FL RX11 151 11 68 true (tyX11 68) := ⟨_, _, _, _, CL11, by decide, rfl, rfl, rfl, lw_gin (List.mem_append_right _ (tb_5 (List.mem_of_getElem? (i := 180) rfl))) rfl⟩
theorem lk_f_X11_154 : hp_FL RX11 154 11 69 true (tyX11 69) := ⟨_, _, _, _, CL11, by decide, rfl, rfl, rfl, lw_gin (List.mem_append_right _ (tb_5 (List.mem_of_getElem? (i := 181) rfl))) rfl⟩
theorem lk_f_X11_157 : hp_FL RX11 157 11 70 true (tyX11 70) := ⟨_, _, _, _, CL11, by decide, rfl, rfl, rfl, lw_gin (List.mem_append_right _ (tb_5 (List.mem_of_getElem? (i := 182) rfl))) rfl⟩
theorem lk_f_X11_329 : hp_FL RX11 329 11 71 false (tyX11 71) := ⟨_, _, _, _, CL11, by decide, rfl, rfl, rfl, lw_gin (List.mem_append_right _ (tb_5 (List.mem_of_getElem? (i := 183) rfl))) rfl⟩
theorem lk_f_X11_160 : hp_FL RX11 160 11 72 true (tyX11 72) := ⟨_, _, _, _, CL11, by decide, rfl, rfl, rfl, lw_gin (List.mem_append_right _ (tb_5 (List.mem_of_getElem? (i := 184) rfl))) rfl⟩
theorem lk_f_X11_163 : hp_FL RX11 163 11 73 true (tyX11 73) := ⟨_, _, _, _, CL11, by decide, rfl, rfl, rfl, lw_gin (List.mem_append_right _ (tb_5 (List.mem_of_getElem? (i := 185) rfl))) rfl⟩
theorem lk_f_X11_166 : hp_FL RX11 166 11 74 true (tyX11 74) := ⟨_, _, _, _, CL11, by decide, rfl, rfl, rfl, lw_gin (List.mem_append_right _ (tb_5 (List.mem_of_getElem? (i := 186) rfl))) rfl⟩
theorem lk_f_X11_169 : hp_FL RX11 169 11 75 true (tyX11 75) := ⟨_, _, _, _, CL11, by decide, rfl, rfl, rfl, lw_gin (List.mem_append_right _ (tb_5 (List.mem_of_getElem? (i := 187) rfl))) rfl⟩
theorem lk_f_X11_172 : hp_FL RX11 172 11 76 true (tyX11 76) := ⟨_, _, _, _, CL11, by decide, rfl, rfl, rfl, lw_gin (List.mem_append_right _ (tb_5 (List.mem_of_getElem? (i := 188) rfl))) rfl⟩
theorem lk_f_X11_175 : hp_FL RX11 175 11 77 true (tyX11 77) := ⟨_, _, _, _, CL11, by decide, rfl, rfl, rfl, lw_gin (List.mem_append_right _ (tb_5 (List.mem_of_getElem? (i := 189) rfl))) rfl⟩
theorem lk_f_X11_178 : hp_FL RX11 178 11 78 true (tyX11 78) := ⟨_, _, _, _, CL11, by decide, rfl, rfl, rfl, lw_gin (List.mem_append_right _ (tb_5 (List.mem_of_getElem? (i := 190) rfl))) rfl⟩
theorem lk_f_X11_181 : hp_FL RX11 181 11 79 true (tyX11 79) := ⟨_, _, _, _, CL11, by decide, rfl, rfl, rfl, lw_gin (List.mem_append_right _ (tb_5 (List.mem_of_getElem? (i := 191) rfl))) rfl⟩
theorem lk_f_X11_332 : hp_FL RX11 332 11 80 false (tyX11 80) := ⟨_, _, _, _, CL11, by decide, rfl, rfl, rfl, lw_gin (List.mem_append_right _ (tb_5 (List.mem_of_getElem? (i := 192) rfl))) rfl⟩
theorem lk_f_X11_184 : hp_FL RX11 184 11 81 true (tyX11 81) := ⟨_, _, _, _, CL11, by decide, rfl, rfl, rfl, lw_gin (List.mem_append_right _ (tb_5 (List.mem_of_getElem? (i := 193) rfl))) rfl⟩
theorem lk_f_X11_468 : hp_FL RX11 468 11 82 false (tyX11 82) := ⟨_, _, _, _, CL11, by decide, rfl, rfl, rfl, lw_gin (List.mem_append_right _ (tb_5 (List.mem_of_getElem? (i := 194) rfl))) rfl⟩
theorem lk_f_X11_187 : hp_FL RX11 187 11 83 true (tyX11 83) := ⟨_, _, _, _, CL11, by decide, rfl, rfl, rfl, lw_gin (List.mem_append_right _ (tb_5 (List.mem_of_getElem? (i := 195) rfl))) rfl⟩
theorem lk_f_X11_190 : hp_FL RX11 190 11 84 true (tyX11 84) := ⟨_, _, _, _, CL11, by decide, rfl, rfl, rfl, lw_gin (List.mem_append_right _ (tb_5 (List.mem_of_getElem? (i := 196) rfl))) rfl⟩
theorem lk_f_X11_480 : hp_FL RX11 480 11 85 false (tyX11 85) := ⟨_, _, _, _, CL11, by decide, rfl, rfl, rfl, lw_gin (List.mem_append_right _ (tb_5 (List.mem_of_getElem? (i := 197) rfl))) rfl⟩
theorem ac_boolean : Cond.arrayClass .boolean ∈ lw_g := lw_gin (List.mem_append_right _ (tb_6 (List.mem_of_getElem? (i := 131) rfl))) rfl
theorem lk_m_L_19 : Cond.methodLink RL 19 yX11_feed ∈ lw_g := lw_gin (List.mem_append_right _ (tb_6 (List.mem_of_getElem? (i := 132) rfl))) rfl
theorem lk_m_X11_193 : Cond.methodLink RX11 193 yX11_byteOf ∈ lw_g := lw_gin (List.mem_append_right _ (tb_6 (List.mem_of_getElem? (i := 136) rfl))) rfl
theorem lk_c_X11_201 : Cond.constantLong RX11 201 (255) ∈ lw_g := lw_gin (List.mem_append_right _ (tb_6 (List.mem_of_getElem? (i := 139) rfl))) rfl
theorem lk_m_L_24 : Cond.methodLink RL 24 yX11_read ∈ lw_g := lw_gin (List.mem_append_right _ (tb_6 (List.mem_of_getElem? (i := 140) rfl))) rfl
theorem lk_m_X11_335 : Cond.methodLink RX11 335 yX11_readBook ∈ lw_g := lw_gin (List.mem_append_right _ (tb_6 (List.mem_of_getElem? (i := 144) rfl))) rfl
theorem lk_m_X11_244 : Cond.methodLink RX11 244 yX11_beginBook ∈ lw_g := lw_gin (List.mem_append_right _ (tb_6 (List.mem_of_getElem? (i := 148) rfl))) rfl
theorem lk_m_X11_247 : Cond.methodLink RX11 247 yX11_nextToken ∈ lw_g := lw_gin (List.mem_append_right _ (tb_6 (List.mem_of_getElem? (i := 152) rfl))) rfl
theorem lk_m_X11_206 : Cond.methodLink RX11 206 yX11_isBlank ∈ lw_g := lw_gin (List.mem_append_right _ (tb_6 (List.mem_of_getElem? (i := 156) rfl))) rfl
theorem lk_m_X11_251 : Cond.methodLink RX11 251 yX11_hasBad ∈ lw_g := lw_gin (List.mem_append_right _ (tb_6 (List.mem_of_getElem? (i := 159) rfl))) rfl
theorem lk_m_X11_216 : Cond.methodLink RX11 216 yX11_isWord ∈ lw_g := lw_gin (List.mem_append_right _ (tb_6 (List.mem_of_getElem? (i := 163) rfl))) rfl
theorem lk_m_X11_254 : Cond.methodLink RX11 254 yX11_hasPart ∈ lw_g := lw_gin (List.mem_append_right _ (tb_6 (List.mem_of_getElem? (i := 167) rfl))) rfl
theorem lk_m_X11_257 : Cond.methodLink RX11 257 yX11_hasDollar ∈ lw_g := lw_gin (List.mem_append_right _ (tb_6 (List.mem_of_getElem? (i := 171) rfl))) rfl
theorem lk_m_X11_260 : Cond.methodLink RX11 260 yX11_isKeyword ∈ lw_g := lw_gin (List.mem_append_right _ (tb_6 (List.mem_of_getElem? (i := 175) rfl))) rfl
theorem lk_m_X11_263 : Cond.methodLink RX11 263 yX11_token ∈ lw_g := lw_gin (List.mem_append_right _ (tb_6 (List.mem_of_getElem? (i := 179) rfl))) rfl
theorem lk_m_X11_267 : Cond.methodLink RX11 267 yX11_outside ∈ lw_g := lw_gin (List.mem_append_right _ (tb_6 (List.mem_of_getElem? (i := 183) rfl))) rfl
theorem lk_m_X11_291 : Cond.methodLink RX11 291 yX11_closeBlock ∈ lw_g := lw_gin (List.mem_append_right _ (tb_6 (List.mem_of_getElem? (i := 187) rfl))) rfl
theorem lk_m_X11_294 : Cond.methodLink RX11 294 yX11_isLabel ∈ lw_g := lw_gin (List.mem_append_right _ (tb_6 (List.mem_of_getElem? (i := 191) rfl))) rfl
theorem lk_m_X11_297 : Cond.methodLink RX11 297 yX11_labelHere ∈ lw_g := lw_gin (List.mem_append_right _ (tb_6 (List.mem_of_getElem? (i := 195) rfl))) rfl
theorem lk_m_X11_222 : Cond.methodLink RX11 222 yX11_same ∈ lw_g := lw_gin (List.mem_append_right _ (tb_6 (List.mem_of_getElem? (i := 199) rfl))) rfl
theorem lk_m_X11_300 : Cond.methodLink RX11 300 yX11_symbolHere ∈ lw_g := lw_gin (List.mem_append_right _ (tb_6 (List.mem_of_getElem? (i := 203) rfl))) rfl
theorem lk_m_X11_270 : Cond.methodLink RX11 270 yX11_kindOf ∈ lw_g := lw_gin (List.mem_append_right _ (tb_6 (List.mem_of_getElem? (i := 207) rfl))) rfl
theorem lk_m_X11_273 : Cond.methodLink RX11 273 yX11_declared ∈ lw_g := lw_gin (List.mem_append_right _ (tb_6 (List.mem_of_getElem? (i := 211) rfl))) rfl
theorem lk_m_X11_276 : Cond.methodLink RX11 276 yX11_distinct ∈ lw_g := lw_gin (List.mem_append_right _ (tb_6 (List.mem_of_getElem? (i := 215) rfl))) rfl
theorem lk_m_X11_303 : Cond.methodLink RX11 303 yX11_isOpenPair ∈ lw_g := lw_gin (List.mem_append_right _ (tb_6 (List.mem_of_getElem? (i := 219) rfl))) rfl
theorem lk_m_X11_306 : Cond.methodLink RX11 306 yX11_openPair ∈ lw_g := lw_gin (List.mem_append_right _ (tb_6 (List.mem_of_getElem? (i := 223) rfl))) rfl
theorem lk_m_X11_279 : Cond.methodLink RX11 279 yX11_typed ∈ lw_g := lw_gin (List.mem_append_right _ (tb_6 (List.mem_of_getElem? (i := 227) rfl))) rfl
theorem lk_m_X11_310 : Cond.methodLink RX11 310 yX11_endStatement ∈ lw_g := lw_gin (List.mem_append_right _ (tb_6 (List.mem_of_getElem? (i := 231) rfl))) rfl
theorem lk_m_X11_320 : Cond.methodLink RX11 320 yX11_frameOf ∈ lw_g := lw_gin (List.mem_append_right _ (tb_6 (List.mem_of_getElem? (i := 235) rfl))) rfl
theorem lk_m_X11_323 : Cond.methodLink RX11 323 yX11_needs ∈ lw_g := lw_gin (List.mem_append_right _ (tb_6 (List.mem_of_getElem? (i := 239) rfl))) rfl
theorem lk_m_X11_313 : Cond.methodLink RX11 313 yX11_isConstant ∈ lw_g := lw_gin (List.mem_append_right _ (tb_7 (List.mem_of_getElem? (i := 3) rfl))) rfl
theorem lk_m_X11_316 : Cond.methodLink RX11 316 yX11_takeSymbol ∈ lw_g := lw_gin (List.mem_append_right _ (tb_7 (List.mem_of_getElem? (i := 7) rfl))) rfl
theorem lk_m_X11_282 : Cond.methodLink RX11 282 yX11_formula ∈ lw_g := lw_gin (List.mem_append_right _ (tb_7 (List.mem_of_getElem? (i := 11) rfl))) rfl
theorem lk_m_X11_285 : Cond.methodLink RX11 285 yX11_proof ∈ lw_g := lw_gin (List.mem_append_right _ (tb_7 (List.mem_of_getElem? (i := 15) rfl))) rfl
theorem lk_m_X11_341 : Cond.methodLink RX11 341 yX11_forgetWork ∈ lw_g := lw_gin (List.mem_append_right _ (tb_7 (List.mem_of_getElem? (i := 19) rfl))) rfl
theorem lk_m_L_28 : Cond.methodLink RL 28 yX11_place ∈ lw_g := lw_gin (List.mem_append_right _ (tb_7 (List.mem_of_getElem? (i := 23) rfl))) rfl
theorem lk_m_L_33 : Cond.methodLink RL 33 yX11_count ∈ lw_g := lw_gin (List.mem_append_right _ (tb_7 (List.mem_of_getElem? (i := 27) rfl))) rfl
theorem lk_m_L_38 : Cond.methodLink RL 38 yX11_statement ∈ lw_g := lw_gin (List.mem_append_right _ (tb_7 (List.mem_of_getElem? (i := 31) rfl))) rfl
theorem lk_m_X11_347 : Cond.methodLink RX11 347 yX11_isStatement ∈ lw_g := lw_gin (List.mem_append_right _ (tb_7 (List.mem_of_getElem? (i := 35) rfl))) rfl
theorem lk_m_X11_344 : Cond.methodLink RX11 344 yX11_at ∈ lw_g := lw_gin (List.mem_append_right _ (tb_7 (List.mem_of_getElem? (i := 39) rfl))) rfl
theorem lk_m_X11_364 : Cond.methodLink RX11 364 yX11_hypotheses ∈ lw_g := lw_gin (List.mem_append_right _ (tb_7 (List.mem_of_getElem? (i := 43) rfl))) rfl
theorem lk_m_X11_350 : Cond.methodLink RX11 350 yX11_isBit ∈ lw_g := lw_gin (List.mem_append_right _ (tb_7 (List.mem_of_getElem? (i := 47) rfl))) rfl
theorem lk_m_X11_367 : Cond.methodLink RX11 367 yX11_framePair ∈ lw_g := lw_gin (List.mem_append_right _ (tb_7 (List.mem_of_getElem? (i := 51) rfl))) rfl
theorem lk_m_X11_357 : Cond.methodLink RX11 357 yX11_isMandatory ∈ lw_g := lw_gin (List.mem_append_right _ (tb_7 (List.mem_of_getElem? (i := 55) rfl))) rfl
theorem lk_m_X11_360 : Cond.methodLink RX11 360 yX11_apart ∈ lw_g := lw_gin (List.mem_append_right _ (tb_7 (List.mem_of_getElem? (i := 59) rfl))) rfl
theorem lk_m_X11_354 : Cond.methodLink RX11 354 yX11_isPairAt ∈ lw_g := lw_gin (List.mem_append_right _ (tb_7 (List.mem_of_getElem? (i := 63) rfl))) rfl
theorem lk_m_L_42 : Cond.methodLink RL 42 yX11_symbol ∈ lw_g := lw_gin (List.mem_append_right _ (tb_7 (List.mem_of_getElem? (i := 67) rfl))) rfl
theorem lk_m_L_47 : Cond.methodLink RL 47 yX11_name ∈ lw_g := lw_gin (List.mem_append_right _ (tb_7 (List.mem_of_getElem? (i := 71) rfl))) rfl
theorem lk_m_L_51 : Cond.methodLink RL 51 yX11_frame ∈ lw_g := lw_gin (List.mem_append_right _ (tb_7 (List.mem_of_getElem? (i := 75) rfl))) rfl
theorem lk_m_X11_371 : Cond.methodLink RX11 371 yX11_isKind ∈ lw_g := lw_gin (List.mem_append_right _ (tb_7 (List.mem_of_getElem? (i := 79) rfl))) rfl
theorem lk_m_X11_374 : Cond.methodLink RX11 374 yX11_hypothesis ∈ lw_g := lw_gin (List.mem_append_right _ (tb_7 (List.mem_of_getElem? (i := 83) rfl))) rfl
theorem lk_m_L_55 : Cond.methodLink RL 55 yX11_check ∈ lw_g := lw_gin (List.mem_append_right _ (tb_7 (List.mem_of_getElem? (i := 87) rfl))) rfl
theorem lk_m_X11_465 : Cond.methodLink RX11 465 yX11_judge ∈ lw_g := lw_gin (List.mem_append_right _ (tb_7 (List.mem_of_getElem? (i := 91) rfl))) rfl
theorem lk_m_X11_456 : Cond.methodLink RX11 456 yX11_isOpen ∈ lw_g := lw_gin (List.mem_append_right _ (tb_7 (List.mem_of_getElem? (i := 95) rfl))) rfl
theorem lk_m_X11_380 : Cond.methodLink RX11 380 yX11_isOne ∈ lw_g := lw_gin (List.mem_append_right _ (tb_7 (List.mem_of_getElem? (i := 99) rfl))) rfl
theorem lk_m_X11_377 : Cond.methodLink RX11 377 yX11_proofToken ∈ lw_g := lw_gin (List.mem_append_right _ (tb_7 (List.mem_of_getElem? (i := 103) rfl))) rfl
theorem lk_m_X11_389 : Cond.methodLink RX11 389 yX11_isCompressed ∈ lw_g := lw_gin (List.mem_append_right _ (tb_7 (List.mem_of_getElem? (i := 107) rfl))) rfl
theorem lk_m_X11_392 : Cond.methodLink RX11 392 yX11_takeLetters ∈ lw_g := lw_gin (List.mem_append_right _ (tb_7 (List.mem_of_getElem? (i := 111) rfl))) rfl
theorem lk_m_X11_386 : Cond.methodLink RX11 386 yX11_listEnd ∈ lw_g := lw_gin (List.mem_append_right _ (tb_7 (List.mem_of_getElem? (i := 115) rfl))) rfl
theorem lk_m_X11_459 : Cond.methodLink RX11 459 yX11_readProof ∈ lw_g := lw_gin (List.mem_append_right _ (tb_7 (List.mem_of_getElem? (i := 119) rfl))) rfl
theorem lk_m_X11_410 : Cond.methodLink RX11 410 yX11_fails ∈ lw_g := lw_gin (List.mem_append_right _ (tb_7 (List.mem_of_getElem? (i := 123) rfl))) rfl
theorem lk_m_X11_413 : Cond.methodLink RX11 413 yX11_readList ∈ lw_g := lw_gin (List.mem_append_right _ (tb_7 (List.mem_of_getElem? (i := 127) rfl))) rfl
theorem lk_m_X11_419 : Cond.methodLink RX11 419 yX11_namedBy ∈ lw_g := lw_gin (List.mem_append_right _ (tb_7 (List.mem_of_getElem? (i := 131) rfl))) rfl
theorem lk_m_X11_422 : Cond.methodLink RX11 422 yX11_mayName ∈ lw_g := lw_gin (List.mem_append_right _ (tb_7 (List.mem_of_getElem? (i := 135) rfl))) rfl
theorem lk_m_X11_416 : Cond.methodLink RX11 416 yX11_readLetters ∈ lw_g := lw_gin (List.mem_append_right _ (tb_7 (List.mem_of_getElem? (i := 139) rfl))) rfl
theorem lk_c_X11_425 : Cond.constant RX11 425 (100000) ∈ lw_g := lw_gin (List.mem_append_right _ (tb_7 (List.mem_of_getElem? (i := 143) rfl))) rfl
theorem lk_m_X11_462 : Cond.methodLink RX11 462 yX11_runSteps ∈ lw_g := lw_gin (List.mem_append_right _ (tb_7 (List.mem_of_getElem? (i := 144) rfl))) rfl
theorem lk_m_X11_447 : Cond.methodLink RX11 447 yX11_pushMarked ∈ lw_g := lw_gin (List.mem_append_right _ (tb_7 (List.mem_of_getElem? (i := 148) rfl))) rfl
theorem lk_m_X11_429 : Cond.methodLink RX11 429 yX11_thing ∈ lw_g := lw_gin (List.mem_append_right _ (tb_7 (List.mem_of_getElem? (i := 152) rfl))) rfl
theorem lk_m_X11_435 : Cond.methodLink RX11 435 yX11_endThing ∈ lw_g := lw_gin (List.mem_append_right _ (tb_7 (List.mem_of_getElem? (i := 156) rfl))) rfl
theorem lk_m_X11_450 : Cond.methodLink RX11 450 yX11_pushHypothesis ∈ lw_g := lw_gin (List.mem_append_right _ (tb_7 (List.mem_of_getElem? (i := 160) rfl))) rfl
theorem lk_m_X11_453 : Cond.methodLink RX11 453 yX11_pushAssertion ∈ lw_g := lw_gin (List.mem_append_right _ (tb_7 (List.mem_of_getElem? (i := 164) rfl))) rfl
theorem lk_m_X11_441 : Cond.methodLink RX11 441 yX11_meets ∈ lw_g := lw_gin (List.mem_append_right _ (tb_7 (List.mem_of_getElem? (i := 168) rfl))) rfl
theorem lk_m_X11_438 : Cond.methodLink RX11 438 yX11_substitute ∈ lw_g := lw_gin (List.mem_append_right _ (tb_7 (List.mem_of_getElem? (i := 172) rfl))) rfl
theorem lk_m_X11_444 : Cond.methodLink RX11 444 yX11_keepApart ∈ lw_g := lw_gin (List.mem_append_right _ (tb_7 (List.mem_of_getElem? (i := 176) rfl))) rfl
theorem lk_m_L_59 : Cond.methodLink RL 59 yX11_step ∈ lw_g := lw_gin (List.mem_append_right _ (tb_7 (List.mem_of_getElem? (i := 180) rfl))) rfl
theorem lk_m_L_63 : Cond.methodLink RL 63 yX11_trace ∈ lw_g := lw_gin (List.mem_append_right _ (tb_7 (List.mem_of_getElem? (i := 184) rfl))) rfl
theorem lk_m_L_67 : Cond.methodLink RL 67 yX11_thing_ ∈ lw_g := lw_gin (List.mem_append_right _ (tb_7 (List.mem_of_getElem? (i := 188) rfl))) rfl
theorem lk_m_L_71 : Cond.methodLink RL 71 yX11_tell ∈ lw_g := lw_gin (List.mem_append_right _ (tb_7 (List.mem_of_getElem? (i := 192) rfl))) rfl
theorem lk_m_X11_492 : Cond.methodLink RX11 492 yX11_compare ∈ lw_g := lw_gin (List.mem_append_right _ (tb_7 (List.mem_of_getElem? (i := 196) rfl))) rfl
theorem lk_m_X11_495 : Cond.methodLink RX11 495 yX11_writeOut ∈ lw_g := lw_gin (List.mem_append_right _ (tb_7 (List.mem_of_getElem? (i := 200) rfl))) rfl
theorem lk_m_X11_471 : Cond.methodLink RX11 471 yX11_say ∈ lw_g := lw_gin (List.mem_append_right _ (tb_7 (List.mem_of_getElem? (i := 204) rfl))) rfl
theorem lk_m_X11_474 : Cond.methodLink RX11 474 yX11_sayLabel ∈ lw_g := lw_gin (List.mem_append_right _ (tb_7 (List.mem_of_getElem? (i := 208) rfl))) rfl
theorem lk_m_X11_477 : Cond.methodLink RX11 477 yX11_told ∈ lw_g := lw_gin (List.mem_append_right _ (tb_7 (List.mem_of_getElem? (i := 212) rfl))) rfl
theorem lk_m_X11_498 : Cond.methodLink RX11 498 yX11_compressed ∈ lw_g := lw_gin (List.mem_append_right _ (tb_7 (List.mem_of_getElem? (i := 216) rfl))) rfl
theorem lk_m_X11_483 : Cond.methodLink RX11 483 yX11_goDown ∈ lw_g := lw_gin (List.mem_append_right _ (tb_7 (List.mem_of_getElem? (i := 220) rfl))) rfl
theorem lk_m_X11_486 : Cond.methodLink RX11 486 yX11_indexOf ∈ lw_g := lw_gin (List.mem_append_right _ (tb_7 (List.mem_of_getElem? (i := 224) rfl))) rfl
theorem lk_m_X11_489 : Cond.methodLink RX11 489 yX11_sayNumber ∈ lw_g := lw_gin (List.mem_append_right _ (tb_7 (List.mem_of_getElem? (i := 228) rfl))) rfl
theorem lk_m_L_75 : Cond.methodLink RL 75 yX11_print ∈ lw_g := lw_gin (List.mem_append_right _ (tb_7 (List.mem_of_getElem? (i := 232) rfl))) rfl
theorem lk_m_L_79 : Cond.methodLink RL 79 yX11_out ∈ lw_g := lw_gin (List.mem_append_right _ (tb_7 (List.mem_of_getElem? (i := 236) rfl))) rfl
theorem lk_m_L_83 : Cond.methodLink RL 83 yX11_rests ∈ lw_g := lw_gin (List.mem_append_right _ (tb_8 (List.mem_of_getElem? (i := 0) rfl))) rfl
theorem lk_m_X11_501 : Cond.methodLink RX11 501 yX11_restOn ∈ lw_g := lw_gin (List.mem_append_right _ (tb_8 (List.mem_of_getElem? (i := 4) rfl))) rfl
theorem lk_m_L_87 : Cond.methodLink RL 87 yX11_find ∈ lw_g := lw_gin (List.mem_append_right _ (tb_8 (List.mem_of_getElem? (i := 8) rfl))) rfl
theorem lk_c_L_13 : Cond.constantLong RL 13 (4294967295) ∈ lw_g := lw_gin (List.mem_append_right _ (tb_8 (List.mem_of_getElem? (i := 12) rfl))) rfl
theorem Y_J7_fill_53178 : Cond.code yJ7_fill_53178 cJ7_fill_53178 4 (none) ∈ lw_g ∧ Cond.initialized yJ7_fill_53178.cls ∈ lw_g ∧ (yJ7_fill_53178.cls ≠ "java/lang/invoke/MethodHandle" ∧ yJ7_fill_53178.cls ≠ "java/lang/invoke/VarHandle" ∧ (parseMethodDescriptor yJ7_fill_53178.desc).map (fun d => d.parameters.length) = some 2) := ⟨lw_gin (List.mem_append_right _ (tb_1 (List.mem_of_getElem? (i := 38) rfl))) rfl, lw_gin (List.mem_append_right _ (tb_1 (List.mem_of_getElem? (i := 4) rfl))) rfl, by decide +kernel⟩
theorem I_J7_fill_53178 : Cond.static yJ7_fill_53178 ∈ lw_g := lw_gin (List.mem_append_right _ (tb_1 (List.mem_of_getElem? (i := 37) rfl))) rfl
theorem Y_X2_init : Cond.code yX2_init cX2_init 1 (none) ∈ lw_g ∧ Cond.initialized yX2_init.cls ∈ lw_g ∧ (yX2_init.cls ≠ "java/lang/invoke/MethodHandle" ∧ yX2_init.cls ≠ "java/lang/invoke/VarHandle" ∧ (parseMethodDescriptor yX2_init.desc).map (fun d => d.parameters.length) = some 0) := ⟨lw_gin (List.mem_append_right _ (tb_1 (List.mem_of_getElem? (i := 34) rfl))) rfl, lw_gin (List.mem_append_right _ (tb_1 (List.mem_of_getElem? (i := 3) rfl))) rfl, by decide +kernel⟩
theorem I_X2_init : yX2_init.name = "<init>" ∧ Cond.instanceMethod yX2_init ∈ lw_g := ⟨rfl, lw_gin (List.mem_append_right _ (tb_1 (List.mem_of_getElem? (i := 33) rfl))) rfl⟩
theorem Y_X5_init : Cond.code yX5_init cX5_init 2 (none) ∈ lw_g ∧ Cond.initialized yX5_init.cls ∈ lw_g ∧ (yX5_init.cls ≠ "java/lang/invoke/MethodHandle" ∧ yX5_init.cls ≠ "java/lang/invoke/VarHandle" ∧ (parseMethodDescriptor yX5_init.desc).map (fun d => d.parameters.length) = some 1) := ⟨lw_gin (List.mem_append_right _ (tb_1 (List.mem_of_getElem? (i := 62) rfl))) rfl, lw_gin (List.mem_append_right _ (tb_1 (List.mem_of_getElem? (i := 5) rfl))) rfl, by decide +kernel⟩
theorem I_X5_init : yX5_init.name = "<init>" ∧ Cond.instanceMethod yX5_init ∈ lw_g := ⟨rfl, lw_gin (List.mem_append_right _ (tb_1 (List.mem_of_getElem? (i := 61) rfl))) rfl⟩
theorem Y_X0_init : Cond.code yX0_init cX0_init 1 (none) ∈ lw_g ∧ Cond.initialized yX0_init.cls ∈ lw_g ∧ (yX0_init.cls ≠ "java/lang/invoke/MethodHandle" ∧ yX0_init.cls ≠ "java/lang/invoke/VarHandle" ∧ (parseMethodDescriptor yX0_init.desc).map (fun d => d.parameters.length) = some 0) := ⟨lw_gin (List.mem_append_right _ (tb_1 (List.mem_of_getElem? (i := 28) rfl))) rfl, lw_gin (List.mem_append_right _ (tb_1 (List.mem_of_getElem? (i := 2) rfl))) rfl, by decide +kernel⟩
theorem I_X0_init : yX0_init.name = "<init>" ∧ Cond.instanceMethod yX0_init ∈ lw_g := ⟨rfl, lw_gin (List.mem_append_right _ (tb_1 (List.mem_of_getElem? (i := 27) rfl))) rfl⟩
theorem Y_X2_clear : Cond.code yX2_clear cX2_clear 1 (none) ∈ lw_g ∧ Cond.initialized yX2_clear.cls ∈ lw_g ∧ (yX2_clear.cls ≠ "java/lang/invoke/MethodHandle" ∧ yX2_clear.cls ≠ "java/lang/invoke/VarHandle" ∧ (parseMethodDescriptor yX2_clear.desc).map (fun d => d.parameters.length) = some 0) := ⟨lw_gin (List.mem_append_right _ (tb_3 (List.mem_of_getElem? (i := 48) rfl))) rfl, lw_gin (List.mem_append_right _ (tb_1 (List.mem_of_getElem? (i := 3) rfl))) rfl, by decide +kernel⟩
theorem I_X2_clear : Cond.instanceMethod yX2_clear ∈ lw_g ∧ Cond.selects yX2_clear.cls yX2_clear yX2_clear ∈ lw_g := ⟨lw_gin (List.mem_append_right _ (tb_3 (List.mem_of_getElem? (i := 46) rfl))) rfl, lw_gin (List.mem_append_right _ (tb_3 (List.mem_of_getElem? (i := 47) rfl))) rfl⟩
theorem Y_X5_clear : Cond.code yX5_clear cX5_clear 1 (none) ∈ lw_g ∧ Cond.initialized yX5_clear.cls ∈ lw_g ∧ (yX5_clear.cls ≠ "java/lang/invoke/MethodHandle" ∧ yX5_clear.cls ≠ "java/lang/invoke/VarHandle" ∧ (parseMethodDescriptor yX5_clear.desc).map (fun d => d.parameters.length) = some 0) := ⟨lw_gin (List.mem_append_right _ (tb_3 (List.mem_of_getElem? (i := 36) rfl))) rfl, lw_gin (List.mem_append_right _ (tb_1 (List.mem_of_getElem? (i := 5) rfl))) rfl, by decide +kernel⟩
theorem I_X5_clear : Cond.instanceMethod yX5_clear ∈ lw_g ∧ Cond.selects yX5_clear.cls yX5_clear yX5_clear ∈ lw_g := ⟨lw_gin (List.mem_append_right _ (tb_3 (List.mem_of_getElem? (i := 34) rfl))) rfl, lw_gin (List.mem_append_right _ (tb_3 (List.mem_of_getElem? (i := 35) rfl))) rfl⟩
theorem Y_X0_clear : Cond.code yX0_clear cX0_clear 1 (none) ∈ lw_g ∧ Cond.initialized yX0_clear.cls ∈ lw_g ∧ (yX0_clear.cls ≠ "java/lang/invoke/MethodHandle" ∧ yX0_clear.cls ≠ "java/lang/invoke/VarHandle" ∧ (parseMethodDescriptor yX0_clear.desc).map (fun d => d.parameters.length) = some 0) := ⟨lw_gin (List.mem_append_right _ (tb_3 (List.mem_of_getElem? (i := 44) rfl))) rfl, lw_gin (List.mem_append_right _ (tb_1 (List.mem_of_getElem? (i := 2) rfl))) rfl, by decide +kernel⟩
theorem I_X0_clear : Cond.instanceMethod yX0_clear ∈ lw_g ∧ Cond.selects yX0_clear.cls yX0_clear yX0_clear ∈ lw_g := ⟨lw_gin (List.mem_append_right _ (tb_3 (List.mem_of_getElem? (i := 42) rfl))) rfl, lw_gin (List.mem_append_right _ (tb_3 (List.mem_of_getElem? (i := 43) rfl))) rfl⟩
theorem Y_X0_isStatement : Cond.code yX0_isStatement cX0_isStatement 2 (some .boolean) ∈ lw_g ∧ Cond.initialized yX0_isStatement.cls ∈ lw_g ∧ (yX0_isStatement.cls ≠ "java/lang/invoke/MethodHandle" ∧ yX0_isStatement.cls ≠ "java/lang/invoke/VarHandle" ∧ (parseMethodDescriptor yX0_isStatement.desc).map (fun d => d.parameters.length) = some 1) := ⟨lw_gin (List.mem_append_right _ (tb_4 (List.mem_of_getElem? (i := 48) rfl))) rfl, lw_gin (List.mem_append_right _ (tb_1 (List.mem_of_getElem? (i := 2) rfl))) rfl, by decide +kernel⟩
theorem I_X0_isStatement : Cond.instanceMethod yX0_isStatement ∈ lw_g ∧ Cond.selects yX0_isStatement.cls yX0_isStatement yX0_isStatement ∈ lw_g := ⟨lw_gin (List.mem_append_right _ (tb_4 (List.mem_of_getElem? (i := 46) rfl))) rfl, lw_gin (List.mem_append_right _ (tb_4 (List.mem_of_getElem? (i := 47) rfl))) rfl⟩
theorem Y_X0_isAssertion : Cond.code yX0_isAssertion cX0_isAssertion 2 (some .boolean) ∈ lw_g ∧ Cond.initialized yX0_isAssertion.cls ∈ lw_g ∧ (yX0_isAssertion.cls ≠ "java/lang/invoke/MethodHandle" ∧ yX0_isAssertion.cls ≠ "java/lang/invoke/VarHandle" ∧ (parseMethodDescriptor yX0_isAssertion.desc).map (fun d => d.parameters.length) = some 1) := ⟨lw_gin (List.mem_append_right _ (tb_4 (List.mem_of_getElem? (i := 70) rfl))) rfl, lw_gin (List.mem_append_right _ (tb_1 (List.mem_of_getElem? (i := 2) rfl))) rfl, by decide +kernel⟩
theorem I_X0_isAssertion : Cond.instanceMethod yX0_isAssertion ∈ lw_g ∧ Cond.selects yX0_isAssertion.cls yX0_isAssertion yX0_isAssertion ∈ lw_g := ⟨lw_gin (List.mem_append_right _ (tb_4 (List.mem_of_getElem? (i := 68) rfl))) rfl, lw_gin (List.mem_append_right _ (tb_4 (List.mem_of_getElem? (i := 69) rfl))) rfl⟩
theorem Y_X0_isProvable : Cond.code yX0_isProvable cX0_isProvable 2 (some .boolean) ∈ lw_g ∧ Cond.initialized yX0_isProvable.cls ∈ lw_g ∧ (yX0_isProvable.cls ≠ "java/lang/invoke/MethodHandle" ∧ yX0_isProvable.cls ≠ "java/lang/invoke/VarHandle" ∧ (parseMethodDescriptor yX0_isProvable.desc).map (fun d => d.parameters.length) = some 1) := ⟨lw_gin (List.mem_append_right _ (tb_4 (List.mem_of_getElem? (i := 79) rfl))) rfl, lw_gin (List.mem_append_right _ (tb_1 (List.mem_of_getElem? (i := 2) rfl))) rfl, by decide +kernel⟩
theorem I_X0_isProvable : Cond.instanceMethod yX0_isProvable ∈ lw_g ∧ Cond.selects yX0_isProvable.cls yX0_isProvable yX0_isProvable ∈ lw_g := ⟨lw_gin (List.mem_append_right _ (tb_4 (List.mem_of_getElem? (i := 77) rfl))) rfl, lw_gin (List.mem_append_right _ (tb_4 (List.mem_of_getElem? (i := 78) rfl))) rfl⟩
theorem Y_X0_isVariable : Cond.code yX0_isVariable cX0_isVariable 2 (some .boolean) ∈ lw_g ∧ Cond.initialized yX0_isVariable.cls ∈ lw_g ∧ (yX0_isVariable.cls ≠ "java/lang/invoke/MethodHandle" ∧ yX0_isVariable.cls ≠ "java/lang/invoke/VarHandle" ∧ (parseMethodDescriptor yX0_isVariable.desc).map (fun d => d.parameters.length) = some 1) := ⟨lw_gin (List.mem_append_right _ (tb_3 (List.mem_of_getElem? (i := 163) rfl))) rfl, lw_gin (List.mem_append_right _ (tb_1 (List.mem_of_getElem? (i := 2) rfl))) rfl, by decide +kernel⟩
theorem I_X0_isVariable : Cond.instanceMethod yX0_isVariable ∈ lw_g ∧ Cond.selects yX0_isVariable.cls yX0_isVariable yX0_isVariable ∈ lw_g := ⟨lw_gin (List.mem_append_right _ (tb_3 (List.mem_of_getElem? (i := 161) rfl))) rfl, lw_gin (List.mem_append_right _ (tb_3 (List.mem_of_getElem? (i := 162) rfl))) rfl⟩
theorem Y_X0_isConstant : Cond.code yX0_isConstant cX0_isConstant 2 (some .boolean) ∈ lw_g ∧ Cond.initialized yX0_isConstant.cls ∈ lw_g ∧ (yX0_isConstant.cls ≠ "java/lang/invoke/MethodHandle" ∧ yX0_isConstant.cls ≠ "java/lang/invoke/VarHandle" ∧ (parseMethodDescriptor yX0_isConstant.desc).map (fun d => d.parameters.length) = some 1) := ⟨lw_gin (List.mem_append_right _ (tb_3 (List.mem_of_getElem? (i := 208) rfl))) rfl, lw_gin (List.mem_append_right _ (tb_1 (List.mem_of_getElem? (i := 2) rfl))) rfl, by decide +kernel⟩
theorem I_X0_isConstant : Cond.instanceMethod yX0_isConstant ∈ lw_g ∧ Cond.selects yX0_isConstant.cls yX0_isConstant yX0_isConstant ∈ lw_g := ⟨lw_gin (List.mem_append_right _ (tb_3 (List.mem_of_getElem? (i := 206) rfl))) rfl, lw_gin (List.mem_append_right _ (tb_3 (List.mem_of_getElem? (i := 207) rfl))) rfl⟩
theorem Y_X2_headOf : Cond.code yX2_headOf cX2_headOf 5 (some .int) ∈ lw_g ∧ Cond.initialized yX2_headOf.cls ∈ lw_g ∧ (yX2_headOf.cls ≠ "java/lang/invoke/MethodHandle" ∧ yX2_headOf.cls ≠ "java/lang/invoke/VarHandle" ∧ (parseMethodDescriptor yX2_headOf.desc).map (fun d => d.parameters.length) = some 3) := ⟨lw_gin (List.mem_append_right _ (tb_3 (List.mem_of_getElem? (i := 111) rfl))) rfl, lw_gin (List.mem_append_right _ (tb_1 (List.mem_of_getElem? (i := 3) rfl))) rfl, by decide +kernel⟩
theorem I_X2_headOf : Cond.static yX2_headOf ∈ lw_g := lw_gin (List.mem_append_right _ (tb_3 (List.mem_of_getElem? (i := 110) rfl))) rfl
theorem Y_X2_add : Cond.code yX2_add cX2_add 5 (none) ∈ lw_g ∧ Cond.initialized yX2_add.cls ∈ lw_g ∧ (yX2_add.cls ≠ "java/lang/invoke/MethodHandle" ∧ yX2_add.cls ≠ "java/lang/invoke/VarHandle" ∧ (parseMethodDescriptor yX2_add.desc).map (fun d => d.parameters.length) = some 3) := ⟨lw_gin (List.mem_append_right _ (tb_3 (List.mem_of_getElem? (i := 175) rfl))) rfl, lw_gin (List.mem_append_right _ (tb_1 (List.mem_of_getElem? (i := 3) rfl))) rfl, by decide +kernel⟩
theorem I_X2_add : Cond.instanceMethod yX2_add ∈ lw_g ∧ Cond.selects yX2_add.cls yX2_add yX2_add ∈ lw_g := ⟨lw_gin (List.mem_append_right _ (tb_3 (List.mem_of_getElem? (i := 173) rfl))) rfl, lw_gin (List.mem_append_right _ (tb_3 (List.mem_of_getElem? (i := 174) rfl))) rfl⟩
theorem Y_X0_addSymbol : Cond.code yX0_addSymbol cX0_addSymbol 5 (some .int) ∈ lw_g ∧ Cond.initialized yX0_addSymbol.cls ∈ lw_g ∧ (yX0_addSymbol.cls ≠ "java/lang/invoke/MethodHandle" ∧ yX0_addSymbol.cls ≠ "java/lang/invoke/VarHandle" ∧ (parseMethodDescriptor yX0_addSymbol.desc).map (fun d => d.parameters.length) = some 3) := ⟨lw_gin (List.mem_append_right _ (tb_3 (List.mem_of_getElem? (i := 171) rfl))) rfl, lw_gin (List.mem_append_right _ (tb_1 (List.mem_of_getElem? (i := 2) rfl))) rfl, by decide +kernel⟩
theorem I_X0_addSymbol : Cond.instanceMethod yX0_addSymbol ∈ lw_g ∧ Cond.selects yX0_addSymbol.cls yX0_addSymbol yX0_addSymbol ∈ lw_g := ⟨lw_gin (List.mem_append_right _ (tb_3 (List.mem_of_getElem? (i := 169) rfl))) rfl, lw_gin (List.mem_append_right _ (tb_3 (List.mem_of_getElem? (i := 170) rfl))) rfl⟩
theorem Y_X5_get : Cond.code yX5_get cX5_get 3 (some .int) ∈ lw_g ∧ Cond.initialized yX5_get.cls ∈ lw_g ∧ (yX5_get.cls ≠ "java/lang/invoke/MethodHandle" ∧ yX5_get.cls ≠ "java/lang/invoke/VarHandle" ∧ (parseMethodDescriptor yX5_get.desc).map (fun d => d.parameters.length) = some 2) := ⟨lw_gin (List.mem_append_right _ (tb_3 (List.mem_of_getElem? (i := 143) rfl))) rfl, lw_gin (List.mem_append_right _ (tb_1 (List.mem_of_getElem? (i := 5) rfl))) rfl, by decide +kernel⟩
theorem I_X5_get : Cond.instanceMethod yX5_get ∈ lw_g ∧ Cond.selects yX5_get.cls yX5_get yX5_get ∈ lw_g := ⟨lw_gin (List.mem_append_right _ (tb_3 (List.mem_of_getElem? (i := 141) rfl))) rfl, lw_gin (List.mem_append_right _ (tb_3 (List.mem_of_getElem? (i := 142) rfl))) rfl⟩
theorem Y_X0_isInToken : Cond.code yX0_isInToken cX0_isInToken 2 (some .boolean) ∈ lw_g ∧ Cond.initialized yX0_isInToken.cls ∈ lw_g ∧ (yX0_isInToken.cls ≠ "java/lang/invoke/MethodHandle" ∧ yX0_isInToken.cls ≠ "java/lang/invoke/VarHandle" ∧ (parseMethodDescriptor yX0_isInToken.desc).map (fun d => d.parameters.length) = some 1) := ⟨lw_gin (List.mem_append_right _ (tb_4 (List.mem_of_getElem? (i := 28) rfl))) rfl, lw_gin (List.mem_append_right _ (tb_1 (List.mem_of_getElem? (i := 2) rfl))) rfl, by decide +kernel⟩
theorem I_X0_isInToken : Cond.instanceMethod yX0_isInToken ∈ lw_g ∧ Cond.selects yX0_isInToken.cls yX0_isInToken yX0_isInToken ∈ lw_g := ⟨lw_gin (List.mem_append_right _ (tb_4 (List.mem_of_getElem? (i := 26) rfl))) rfl, lw_gin (List.mem_append_right _ (tb_4 (List.mem_of_getElem? (i := 27) rfl))) rfl⟩
theorem Y_X0_isJust : Cond.code yX0_isJust cX0_isJust 5 (some .boolean) ∈ lw_g ∧ Cond.initialized yX0_isJust.cls ∈ lw_g ∧ (yX0_isJust.cls ≠ "java/lang/invoke/MethodHandle" ∧ yX0_isJust.cls ≠ "java/lang/invoke/VarHandle" ∧ (parseMethodDescriptor yX0_isJust.desc).map (fun d => d.parameters.length) = some 3) := ⟨lw_gin (List.mem_append_right _ (tb_4 (List.mem_of_getElem? (i := 23) rfl))) rfl, lw_gin (List.mem_append_right _ (tb_1 (List.mem_of_getElem? (i := 2) rfl))) rfl, by decide +kernel⟩
theorem I_X0_isJust : Cond.instanceMethod yX0_isJust ∈ lw_g ∧ Cond.selects yX0_isJust.cls yX0_isJust yX0_isJust ∈ lw_g := ⟨lw_gin (List.mem_append_right _ (tb_4 (List.mem_of_getElem? (i := 21) rfl))) rfl, lw_gin (List.mem_append_right _ (tb_4 (List.mem_of_getElem? (i := 22) rfl))) rfl⟩
theorem Y_X5_size : Cond.code yX5_size cX5_size 2 (some .int) ∈ lw_g ∧ Cond.initialized yX5_size.cls ∈ lw_g ∧ (yX5_size.cls ≠ "java/lang/invoke/MethodHandle" ∧ yX5_size.cls ≠ "java/lang/invoke/VarHandle" ∧ (parseMethodDescriptor yX5_size.desc).map (fun d => d.parameters.length) = some 1) := ⟨lw_gin (List.mem_append_right _ (tb_3 (List.mem_of_getElem? (i := 151) rfl))) rfl, lw_gin (List.mem_append_right _ (tb_1 (List.mem_of_getElem? (i := 5) rfl))) rfl, by decide +kernel⟩
theorem I_X5_size : Cond.instanceMethod yX5_size ∈ lw_g ∧ Cond.selects yX5_size.cls yX5_size yX5_size ∈ lw_g := ⟨lw_gin (List.mem_append_right _ (tb_3 (List.mem_of_getElem? (i := 149) rfl))) rfl, lw_gin (List.mem_append_right _ (tb_3 (List.mem_of_getElem? (i := 150) rfl))) rfl⟩
theorem Y_X0_noteForm : Cond.code yX0_noteForm cX0_noteForm 4 (none) ∈ lw_g ∧ Cond.initialized yX0_noteForm.cls ∈ lw_g ∧ (yX0_noteForm.cls ≠ "java/lang/invoke/MethodHandle" ∧ yX0_noteForm.cls ≠ "java/lang/invoke/VarHandle" ∧ (parseMethodDescriptor yX0_noteForm.desc).map (fun d => d.parameters.length) = some 1) := ⟨lw_gin (List.mem_append_right _ (tb_4 (List.mem_of_getElem? (i := 18) rfl))) rfl, lw_gin (List.mem_append_right _ (tb_1 (List.mem_of_getElem? (i := 2) rfl))) rfl, by decide +kernel⟩
theorem I_X0_noteForm : Cond.instanceMethod yX0_noteForm ∈ lw_g ∧ Cond.selects yX0_noteForm.cls yX0_noteForm yX0_noteForm ∈ lw_g := ⟨lw_gin (List.mem_append_right _ (tb_4 (List.mem_of_getElem? (i := 16) rfl))) rfl, lw_gin (List.mem_append_right _ (tb_4 (List.mem_of_getElem? (i := 17) rfl))) rfl⟩
theorem Y_X0_noteAxioms : Cond.code yX0_noteAxioms cX0_noteAxioms 6 (none) ∈ lw_g ∧ Cond.initialized yX0_noteAxioms.cls ∈ lw_g ∧ (yX0_noteAxioms.cls ≠ "java/lang/invoke/MethodHandle" ∧ yX0_noteAxioms.cls ≠ "java/lang/invoke/VarHandle" ∧ (parseMethodDescriptor yX0_noteAxioms.desc).map (fun d => d.parameters.length) = some 1) := ⟨lw_gin (List.mem_append_right _ (tb_4 (List.mem_of_getElem? (i := 32) rfl))) rfl, lw_gin (List.mem_append_right _ (tb_1 (List.mem_of_getElem? (i := 2) rfl))) rfl, by decide +kernel⟩
theorem I_X0_noteAxioms : Cond.instanceMethod yX0_noteAxioms ∈ lw_g ∧ Cond.selects yX0_noteAxioms.cls yX0_noteAxioms yX0_noteAxioms ∈ lw_g := ⟨lw_gin (List.mem_append_right _ (tb_4 (List.mem_of_getElem? (i := 30) rfl))) rfl, lw_gin (List.mem_append_right _ (tb_4 (List.mem_of_getElem? (i := 31) rfl))) rfl⟩
theorem Y_X0_axiomUnder : Cond.code yX0_axiomUnder cX0_axiomUnder 7 (some .int) ∈ lw_g ∧ Cond.initialized yX0_axiomUnder.cls ∈ lw_g ∧ (yX0_axiomUnder.cls ≠ "java/lang/invoke/MethodHandle" ∧ yX0_axiomUnder.cls ≠ "java/lang/invoke/VarHandle" ∧ (parseMethodDescriptor yX0_axiomUnder.desc).map (fun d => d.parameters.length) = some 2) := ⟨lw_gin (List.mem_append_right _ (tb_5 (List.mem_of_getElem? (i := 99) rfl))) rfl, lw_gin (List.mem_append_right _ (tb_1 (List.mem_of_getElem? (i := 2) rfl))) rfl, by decide +kernel⟩
theorem I_X0_axiomUnder : Cond.instanceMethod yX0_axiomUnder ∈ lw_g ∧ Cond.selects yX0_axiomUnder.cls yX0_axiomUnder yX0_axiomUnder ∈ lw_g := ⟨lw_gin (List.mem_append_right _ (tb_5 (List.mem_of_getElem? (i := 97) rfl))) rfl, lw_gin (List.mem_append_right _ (tb_5 (List.mem_of_getElem? (i := 98) rfl))) rfl⟩
theorem Y_X1_init : Cond.code yX1_init cX1_init 2 (none) ∈ lw_g ∧ Cond.initialized yX1_init.cls ∈ lw_g ∧ (yX1_init.cls ≠ "java/lang/invoke/MethodHandle" ∧ yX1_init.cls ≠ "java/lang/invoke/VarHandle" ∧ (parseMethodDescriptor yX1_init.desc).map (fun d => d.parameters.length) = some 1) := ⟨lw_gin (List.mem_append_right _ (tb_2 (List.mem_of_getElem? (i := 116) rfl))) rfl, lw_gin (List.mem_append_right _ (tb_1 (List.mem_of_getElem? (i := 10) rfl))) rfl, by decide +kernel⟩
theorem I_X1_init : yX1_init.name = "<init>" ∧ Cond.instanceMethod yX1_init ∈ lw_g := ⟨rfl, lw_gin (List.mem_append_right _ (tb_2 (List.mem_of_getElem? (i := 115) rfl))) rfl⟩
theorem Y_J7_fill_d0a16 : Cond.code yJ7_fill_d0a16 cJ7_fill_d0a16 5 (none) ∈ lw_g ∧ Cond.initialized yJ7_fill_d0a16.cls ∈ lw_g ∧ (yJ7_fill_d0a16.cls ≠ "java/lang/invoke/MethodHandle" ∧ yJ7_fill_d0a16.cls ≠ "java/lang/invoke/VarHandle" ∧ (parseMethodDescriptor yJ7_fill_d0a16.desc).map (fun d => d.parameters.length) = some 2) := ⟨lw_gin (List.mem_append_right _ (tb_4 (List.mem_of_getElem? (i := 154) rfl))) rfl, lw_gin (List.mem_append_right _ (tb_1 (List.mem_of_getElem? (i := 4) rfl))) rfl, by decide +kernel⟩
theorem I_J7_fill_d0a16 : Cond.static yJ7_fill_d0a16 ∈ lw_g := lw_gin (List.mem_append_right _ (tb_4 (List.mem_of_getElem? (i := 153) rfl))) rfl
theorem Y_X1_addPartner : Cond.code yX1_addPartner cX1_addPartner 3 (none) ∈ lw_g ∧ Cond.initialized yX1_addPartner.cls ∈ lw_g ∧ (yX1_addPartner.cls ≠ "java/lang/invoke/MethodHandle" ∧ yX1_addPartner.cls ≠ "java/lang/invoke/VarHandle" ∧ (parseMethodDescriptor yX1_addPartner.desc).map (fun d => d.parameters.length) = some 2) := ⟨lw_gin (List.mem_append_right _ (tb_4 (List.mem_of_getElem? (i := 160) rfl))) rfl, lw_gin (List.mem_append_right _ (tb_1 (List.mem_of_getElem? (i := 10) rfl))) rfl, by decide +kernel⟩
theorem I_X1_addPartner : Cond.instanceMethod yX1_addPartner ∈ lw_g ∧ Cond.selects yX1_addPartner.cls yX1_addPartner yX1_addPartner ∈ lw_g := ⟨lw_gin (List.mem_append_right _ (tb_4 (List.mem_of_getElem? (i := 159) rfl))) rfl, lw_gin (List.mem_append_left _ (List.mem_of_getElem? (i := 37) rfl)) rfl⟩
theorem Y_X1_notePartners : Cond.code yX1_notePartners cX1_notePartners 5 (none) ∈ lw_g ∧ Cond.initialized yX1_notePartners.cls ∈ lw_g ∧ (yX1_notePartners.cls ≠ "java/lang/invoke/MethodHandle" ∧ yX1_notePartners.cls ≠ "java/lang/invoke/VarHandle" ∧ (parseMethodDescriptor yX1_notePartners.desc).map (fun d => d.parameters.length) = some 1) := ⟨lw_gin (List.mem_append_right _ (tb_4 (List.mem_of_getElem? (i := 151) rfl))) rfl, lw_gin (List.mem_append_right _ (tb_1 (List.mem_of_getElem? (i := 10) rfl))) rfl, by decide +kernel⟩
theorem I_X1_notePartners : Cond.instanceMethod yX1_notePartners ∈ lw_g ∧ Cond.selects yX1_notePartners.cls yX1_notePartners yX1_notePartners ∈ lw_g := ⟨lw_gin (List.mem_append_right _ (tb_4 (List.mem_of_getElem? (i := 150) rfl))) rfl, lw_gin (List.mem_append_left _ (List.mem_of_getElem? (i := 36) rfl)) rfl⟩
theorem Y_J9_min_7cf53 : Cond.code yJ9_min_7cf53 cJ9_min_7cf53 2 (some .int) ∈ lw_g ∧ Cond.initialized yJ9_min_7cf53.cls ∈ lw_g ∧ (yJ9_min_7cf53.cls ≠ "java/lang/invoke/MethodHandle" ∧ yJ9_min_7cf53.cls ≠ "java/lang/invoke/VarHandle" ∧ (parseMethodDescriptor yJ9_min_7cf53.desc).map (fun d => d.parameters.length) = some 2) := ⟨lw_gin (List.mem_append_right _ (tb_3 (List.mem_of_getElem? (i := 190) rfl))) rfl, lw_gin (List.mem_append_right _ (tb_1 (List.mem_of_getElem? (i := 14) rfl))) rfl, by decide +kernel⟩
theorem I_J9_min_7cf53 : Cond.static yJ9_min_7cf53 ∈ lw_g := lw_gin (List.mem_append_right _ (tb_3 (List.mem_of_getElem? (i := 189) rfl))) rfl
theorem Y_X1_isInstance : Cond.code yX1_isInstance cX1_isInstance 9 (some .boolean) ∈ lw_g ∧ Cond.initialized yX1_isInstance.cls ∈ lw_g ∧ (yX1_isInstance.cls ≠ "java/lang/invoke/MethodHandle" ∧ yX1_isInstance.cls ≠ "java/lang/invoke/VarHandle" ∧ (parseMethodDescriptor yX1_isInstance.desc).map (fun d => d.parameters.length) = some 2) := ⟨lw_gin (List.mem_append_right _ (tb_4 (List.mem_of_getElem? (i := 173) rfl))) rfl, lw_gin (List.mem_append_right _ (tb_1 (List.mem_of_getElem? (i := 10) rfl))) rfl, by decide +kernel⟩
theorem I_X1_isInstance : Cond.instanceMethod yX1_isInstance ∈ lw_g ∧ Cond.selects yX1_isInstance.cls yX1_isInstance yX1_isInstance ∈ lw_g := ⟨lw_gin (List.mem_append_right _ (tb_4 (List.mem_of_getElem? (i := 172) rfl))) rfl, lw_gin (List.mem_append_left _ (List.mem_of_getElem? (i := 40) rfl)) rfl⟩
theorem Y_X1_fit : Cond.code yX1_fit cX1_fit 3 (some .int) ∈ lw_g ∧ Cond.initialized yX1_fit.cls ∈ lw_g ∧ (yX1_fit.cls ≠ "java/lang/invoke/MethodHandle" ∧ yX1_fit.cls ≠ "java/lang/invoke/VarHandle" ∧ (parseMethodDescriptor yX1_fit.desc).map (fun d => d.parameters.length) = some 2) := ⟨lw_gin (List.mem_append_right _ (tb_4 (List.mem_of_getElem? (i := 169) rfl))) rfl, lw_gin (List.mem_append_right _ (tb_1 (List.mem_of_getElem? (i := 10) rfl))) rfl, by decide +kernel⟩
theorem I_X1_fit : Cond.instanceMethod yX1_fit ∈ lw_g ∧ Cond.selects yX1_fit.cls yX1_fit yX1_fit ∈ lw_g := ⟨lw_gin (List.mem_append_right _ (tb_4 (List.mem_of_getElem? (i := 168) rfl))) rfl, lw_gin (List.mem_append_left _ (List.mem_of_getElem? (i := 39) rfl)) rfl⟩
theorem Y_X1_isPartnerOfOthers : Cond.code yX1_isPartnerOfOthers cX1_isPartnerOfOthers 3 (some .boolean) ∈ lw_g ∧ Cond.initialized yX1_isPartnerOfOthers.cls ∈ lw_g ∧ (yX1_isPartnerOfOthers.cls ≠ "java/lang/invoke/MethodHandle" ∧ yX1_isPartnerOfOthers.cls ≠ "java/lang/invoke/VarHandle" ∧ (parseMethodDescriptor yX1_isPartnerOfOthers.desc).map (fun d => d.parameters.length) = some 1) := ⟨lw_gin (List.mem_append_right _ (tb_4 (List.mem_of_getElem? (i := 186) rfl))) rfl, lw_gin (List.mem_append_right _ (tb_1 (List.mem_of_getElem? (i := 10) rfl))) rfl, by decide +kernel⟩
theorem I_X1_isPartnerOfOthers : Cond.instanceMethod yX1_isPartnerOfOthers ∈ lw_g ∧ Cond.selects yX1_isPartnerOfOthers.cls yX1_isPartnerOfOthers yX1_isPartnerOfOthers ∈ lw_g := ⟨lw_gin (List.mem_append_right _ (tb_4 (List.mem_of_getElem? (i := 185) rfl))) rfl, lw_gin (List.mem_append_left _ (List.mem_of_getElem? (i := 43) rfl)) rfl⟩
theorem Y_X1_areApart : Cond.code yX1_areApart cX1_areApart 6 (some .boolean) ∈ lw_g ∧ Cond.initialized yX1_areApart.cls ∈ lw_g ∧ (yX1_areApart.cls ≠ "java/lang/invoke/MethodHandle" ∧ yX1_areApart.cls ≠ "java/lang/invoke/VarHandle" ∧ (parseMethodDescriptor yX1_areApart.desc).map (fun d => d.parameters.length) = some 2) := ⟨lw_gin (List.mem_append_right _ (tb_4 (List.mem_of_getElem? (i := 182) rfl))) rfl, lw_gin (List.mem_append_right _ (tb_1 (List.mem_of_getElem? (i := 10) rfl))) rfl, by decide +kernel⟩
theorem I_X1_areApart : Cond.instanceMethod yX1_areApart ∈ lw_g ∧ Cond.selects yX1_areApart.cls yX1_areApart yX1_areApart ∈ lw_g := ⟨lw_gin (List.mem_append_right _ (tb_4 (List.mem_of_getElem? (i := 181) rfl))) rfl, lw_gin (List.mem_append_left _ (List.mem_of_getElem? (i := 42) rfl)) rfl⟩
theorem Y_X1_keepsApart : Cond.code yX1_keepsApart cX1_keepsApart 5 (some .boolean) ∈ lw_g ∧ Cond.initialized yX1_keepsApart.cls ∈ lw_g ∧ (yX1_keepsApart.cls ≠ "java/lang/invoke/MethodHandle" ∧ yX1_keepsApart.cls ≠ "java/lang/invoke/VarHandle" ∧ (parseMethodDescriptor yX1_keepsApart.desc).map (fun d => d.parameters.length) = some 1) := ⟨lw_gin (List.mem_append_right _ (tb_4 (List.mem_of_getElem? (i := 178) rfl))) rfl, lw_gin (List.mem_append_right _ (tb_1 (List.mem_of_getElem? (i := 10) rfl))) rfl, by decide +kernel⟩
theorem I_X1_keepsApart : Cond.instanceMethod yX1_keepsApart ∈ lw_g ∧ Cond.selects yX1_keepsApart.cls yX1_keepsApart yX1_keepsApart ∈ lw_g := ⟨lw_gin (List.mem_append_right _ (tb_4 (List.mem_of_getElem? (i := 177) rfl))) rfl, lw_gin (List.mem_append_left _ (List.mem_of_getElem? (i := 41) rfl)) rfl⟩
theorem Y_X1_sizeOf : Cond.code yX1_sizeOf cX1_sizeOf 6 (some .int) ∈ lw_g ∧ Cond.initialized yX1_sizeOf.cls ∈ lw_g ∧ (yX1_sizeOf.cls ≠ "java/lang/invoke/MethodHandle" ∧ yX1_sizeOf.cls ≠ "java/lang/invoke/VarHandle" ∧ (parseMethodDescriptor yX1_sizeOf.desc).map (fun d => d.parameters.length) = some 1) := ⟨lw_gin (List.mem_append_right _ (tb_4 (List.mem_of_getElem? (i := 191) rfl))) rfl, lw_gin (List.mem_append_right _ (tb_1 (List.mem_of_getElem? (i := 10) rfl))) rfl, by decide +kernel⟩
theorem I_X1_sizeOf : Cond.instanceMethod yX1_sizeOf ∈ lw_g ∧ Cond.selects yX1_sizeOf.cls yX1_sizeOf yX1_sizeOf ∈ lw_g := ⟨lw_gin (List.mem_append_right _ (tb_4 (List.mem_of_getElem? (i := 190) rfl))) rfl, lw_gin (List.mem_append_left _ (List.mem_of_getElem? (i := 44) rfl)) rfl⟩
theorem Y_J7_copyOf_59c91 : Cond.code yJ7_copyOf_59c91 cJ7_copyOf_59c91 3 (some (.array .int)) ∈ lw_g ∧ Cond.initialized yJ7_copyOf_59c91.cls ∈ lw_g ∧ (yJ7_copyOf_59c91.cls ≠ "java/lang/invoke/MethodHandle" ∧ yJ7_copyOf_59c91.cls ≠ "java/lang/invoke/VarHandle" ∧ (parseMethodDescriptor yJ7_copyOf_59c91.desc).map (fun d => d.parameters.length) = some 2) := ⟨lw_gin (List.mem_append_right _ (tb_3 (List.mem_of_getElem? (i := 219) rfl))) rfl, lw_gin (List.mem_append_right _ (tb_1 (List.mem_of_getElem? (i := 4) rfl))) rfl, by decide +kernel⟩
theorem I_J7_copyOf_59c91 : Cond.static yJ7_copyOf_59c91 ∈ lw_g := lw_gin (List.mem_append_right _ (tb_3 (List.mem_of_getElem? (i := 218) rfl))) rfl
theorem Y_X5_add : Cond.code yX5_add cX5_add 2 (none) ∈ lw_g ∧ Cond.initialized yX5_add.cls ∈ lw_g ∧ (yX5_add.cls ≠ "java/lang/invoke/MethodHandle" ∧ yX5_add.cls ≠ "java/lang/invoke/VarHandle" ∧ (parseMethodDescriptor yX5_add.desc).map (fun d => d.parameters.length) = some 1) := ⟨lw_gin (List.mem_append_right _ (tb_3 (List.mem_of_getElem? (i := 216) rfl))) rfl, lw_gin (List.mem_append_right _ (tb_1 (List.mem_of_getElem? (i := 5) rfl))) rfl, by decide +kernel⟩
theorem I_X5_add : Cond.instanceMethod yX5_add ∈ lw_g ∧ Cond.selects yX5_add.cls yX5_add yX5_add ∈ lw_g := ⟨lw_gin (List.mem_append_right _ (tb_3 (List.mem_of_getElem? (i := 214) rfl))) rfl, lw_gin (List.mem_append_right _ (tb_3 (List.mem_of_getElem? (i := 215) rfl))) rfl⟩
theorem Y_X5_addFrom : Cond.code yX5_addFrom cX5_addFrom 6 (none) ∈ lw_g ∧ Cond.initialized yX5_addFrom.cls ∈ lw_g ∧ (yX5_addFrom.cls ≠ "java/lang/invoke/MethodHandle" ∧ yX5_addFrom.cls ≠ "java/lang/invoke/VarHandle" ∧ (parseMethodDescriptor yX5_addFrom.desc).map (fun d => d.parameters.length) = some 3) := ⟨lw_gin (List.mem_append_right _ (tb_4 (List.mem_of_getElem? (i := 199) rfl))) rfl, lw_gin (List.mem_append_right _ (tb_1 (List.mem_of_getElem? (i := 5) rfl))) rfl, by decide +kernel⟩
theorem I_X5_addFrom : Cond.instanceMethod yX5_addFrom ∈ lw_g ∧ Cond.selects yX5_addFrom.cls yX5_addFrom yX5_addFrom ∈ lw_g := ⟨lw_gin (List.mem_append_right _ (tb_4 (List.mem_of_getElem? (i := 197) rfl))) rfl, lw_gin (List.mem_append_right _ (tb_4 (List.mem_of_getElem? (i := 198) rfl))) rfl⟩
theorem Y_X5_endRow : Cond.code yX5_endRow cX5_endRow 1 (none) ∈ lw_g ∧ Cond.initialized yX5_endRow.cls ∈ lw_g ∧ (yX5_endRow.cls ≠ "java/lang/invoke/MethodHandle" ∧ yX5_endRow.cls ≠ "java/lang/invoke/VarHandle" ∧ (parseMethodDescriptor yX5_endRow.desc).map (fun d => d.parameters.length) = some 0) := ⟨lw_gin (List.mem_append_right _ (tb_4 (List.mem_of_getElem? (i := 5) rfl))) rfl, lw_gin (List.mem_append_right _ (tb_1 (List.mem_of_getElem? (i := 5) rfl))) rfl, by decide +kernel⟩
theorem I_X5_endRow : Cond.instanceMethod yX5_endRow ∈ lw_g ∧ Cond.selects yX5_endRow.cls yX5_endRow yX5_endRow ∈ lw_g := ⟨lw_gin (List.mem_append_right _ (tb_4 (List.mem_of_getElem? (i := 3) rfl))) rfl, lw_gin (List.mem_append_right _ (tb_4 (List.mem_of_getElem? (i := 4) rfl))) rfl⟩
theorem Y_X1_pushInstance : Cond.code yX1_pushInstance cX1_pushInstance 5 (none) ∈ lw_g ∧ Cond.initialized yX1_pushInstance.cls ∈ lw_g ∧ (yX1_pushInstance.cls ≠ "java/lang/invoke/MethodHandle" ∧ yX1_pushInstance.cls ≠ "java/lang/invoke/VarHandle" ∧ (parseMethodDescriptor yX1_pushInstance.desc).map (fun d => d.parameters.length) = some 1) := ⟨lw_gin (List.mem_append_right _ (tb_4 (List.mem_of_getElem? (i := 195) rfl))) rfl, lw_gin (List.mem_append_right _ (tb_1 (List.mem_of_getElem? (i := 10) rfl))) rfl, by decide +kernel⟩
theorem I_X1_pushInstance : Cond.instanceMethod yX1_pushInstance ∈ lw_g ∧ Cond.selects yX1_pushInstance.cls yX1_pushInstance yX1_pushInstance ∈ lw_g := ⟨lw_gin (List.mem_append_right _ (tb_4 (List.mem_of_getElem? (i := 194) rfl))) rfl, lw_gin (List.mem_append_left _ (List.mem_of_getElem? (i := 45) rfl)) rfl⟩
theorem Y_X5_dropUnderLast : Cond.code yX5_dropUnderLast cX5_dropUnderLast 5 (none) ∈ lw_g ∧ Cond.initialized yX5_dropUnderLast.cls ∈ lw_g ∧ (yX5_dropUnderLast.cls ≠ "java/lang/invoke/MethodHandle" ∧ yX5_dropUnderLast.cls ≠ "java/lang/invoke/VarHandle" ∧ (parseMethodDescriptor yX5_dropUnderLast.desc).map (fun d => d.parameters.length) = some 1) := ⟨lw_gin (List.mem_append_right _ (tb_4 (List.mem_of_getElem? (i := 208) rfl))) rfl, lw_gin (List.mem_append_right _ (tb_1 (List.mem_of_getElem? (i := 5) rfl))) rfl, by decide +kernel⟩
theorem I_X5_dropUnderLast : Cond.instanceMethod yX5_dropUnderLast ∈ lw_g ∧ Cond.selects yX5_dropUnderLast.cls yX5_dropUnderLast yX5_dropUnderLast ∈ lw_g := ⟨lw_gin (List.mem_append_right _ (tb_4 (List.mem_of_getElem? (i := 206) rfl))) rfl, lw_gin (List.mem_append_right _ (tb_4 (List.mem_of_getElem? (i := 207) rfl))) rfl⟩
theorem Y_X1_apply : Cond.code yX1_apply cX1_apply 6 (some .int) ∈ lw_g ∧ Cond.initialized yX1_apply.cls ∈ lw_g ∧ (yX1_apply.cls ≠ "java/lang/invoke/MethodHandle" ∧ yX1_apply.cls ≠ "java/lang/invoke/VarHandle" ∧ (parseMethodDescriptor yX1_apply.desc).map (fun d => d.parameters.length) = some 1) := ⟨lw_gin (List.mem_append_right _ (tb_4 (List.mem_of_getElem? (i := 165) rfl))) rfl, lw_gin (List.mem_append_right _ (tb_1 (List.mem_of_getElem? (i := 10) rfl))) rfl, by decide +kernel⟩
theorem I_X1_apply : Cond.instanceMethod yX1_apply ∈ lw_g ∧ Cond.selects yX1_apply.cls yX1_apply yX1_apply ∈ lw_g := ⟨lw_gin (List.mem_append_right _ (tb_4 (List.mem_of_getElem? (i := 164) rfl))) rfl, lw_gin (List.mem_append_left _ (List.mem_of_getElem? (i := 38) rfl)) rfl⟩
theorem Y_X1_push : Cond.code yX1_push cX1_push 2 (some .int) ∈ lw_g ∧ Cond.initialized yX1_push.cls ∈ lw_g ∧ (yX1_push.cls ≠ "java/lang/invoke/MethodHandle" ∧ yX1_push.cls ≠ "java/lang/invoke/VarHandle" ∧ (parseMethodDescriptor yX1_push.desc).map (fun d => d.parameters.length) = some 1) := ⟨lw_gin (List.mem_append_right _ (tb_4 (List.mem_of_getElem? (i := 213) rfl))) rfl, lw_gin (List.mem_append_right _ (tb_1 (List.mem_of_getElem? (i := 10) rfl))) rfl, by decide +kernel⟩
theorem I_X1_push : Cond.instanceMethod yX1_push ∈ lw_g ∧ Cond.selects yX1_push.cls yX1_push yX1_push ∈ lw_g := ⟨lw_gin (List.mem_append_right _ (tb_4 (List.mem_of_getElem? (i := 212) rfl))) rfl, lw_gin (List.mem_append_left _ (List.mem_of_getElem? (i := 46) rfl)) rfl⟩
theorem Y_X1_run : Cond.code yX1_run cX1_run 9 (some .int) ∈ lw_g ∧ Cond.initialized yX1_run.cls ∈ lw_g ∧ (yX1_run.cls ≠ "java/lang/invoke/MethodHandle" ∧ yX1_run.cls ≠ "java/lang/invoke/VarHandle" ∧ (parseMethodDescriptor yX1_run.desc).map (fun d => d.parameters.length) = some 3) := ⟨lw_gin (List.mem_append_right _ (tb_4 (List.mem_of_getElem? (i := 146) rfl))) rfl, lw_gin (List.mem_append_right _ (tb_1 (List.mem_of_getElem? (i := 10) rfl))) rfl, by decide +kernel⟩
theorem I_X1_run : Cond.instanceMethod yX1_run ∈ lw_g ∧ Cond.selects yX1_run.cls yX1_run yX1_run ∈ lw_g := ⟨lw_gin (List.mem_append_right _ (tb_4 (List.mem_of_getElem? (i := 144) rfl))) rfl, lw_gin (List.mem_append_right _ (tb_4 (List.mem_of_getElem? (i := 145) rfl))) rfl⟩
theorem Y_X5_hasRow : Cond.code yX5_hasRow cX5_hasRow 6 (some .boolean) ∈ lw_g ∧ Cond.initialized yX5_hasRow.cls ∈ lw_g ∧ (yX5_hasRow.cls ≠ "java/lang/invoke/MethodHandle" ∧ yX5_hasRow.cls ≠ "java/lang/invoke/VarHandle" ∧ (parseMethodDescriptor yX5_hasRow.desc).map (fun d => d.parameters.length) = some 3) := ⟨lw_gin (List.mem_append_right _ (tb_4 (List.mem_of_getElem? (i := 221) rfl))) rfl, lw_gin (List.mem_append_right _ (tb_1 (List.mem_of_getElem? (i := 5) rfl))) rfl, by decide +kernel⟩
theorem I_X5_hasRow : Cond.instanceMethod yX5_hasRow ∈ lw_g ∧ Cond.selects yX5_hasRow.cls yX5_hasRow yX5_hasRow ∈ lw_g := ⟨lw_gin (List.mem_append_right _ (tb_4 (List.mem_of_getElem? (i := 219) rfl))) rfl, lw_gin (List.mem_append_right _ (tb_4 (List.mem_of_getElem? (i := 220) rfl))) rfl⟩
theorem Y_X1_verdict : Cond.code yX1_verdict cX1_verdict 3 (some .int) ∈ lw_g ∧ Cond.initialized yX1_verdict.cls ∈ lw_g ∧ (yX1_verdict.cls ≠ "java/lang/invoke/MethodHandle" ∧ yX1_verdict.cls ≠ "java/lang/invoke/VarHandle" ∧ (parseMethodDescriptor yX1_verdict.desc).map (fun d => d.parameters.length) = some 2) := ⟨lw_gin (List.mem_append_right _ (tb_4 (List.mem_of_getElem? (i := 217) rfl))) rfl, lw_gin (List.mem_append_right _ (tb_1 (List.mem_of_getElem? (i := 10) rfl))) rfl, by decide +kernel⟩
theorem I_X1_verdict : Cond.instanceMethod yX1_verdict ∈ lw_g ∧ Cond.selects yX1_verdict.cls yX1_verdict yX1_verdict ∈ lw_g := ⟨lw_gin (List.mem_append_right _ (tb_4 (List.mem_of_getElem? (i := 215) rfl))) rfl, lw_gin (List.mem_append_right _ (tb_4 (List.mem_of_getElem? (i := 216) rfl))) rfl⟩
theorem Y_X2_isSame : Cond.code yX2_isSame cX2_isSame 5 (some .boolean) ∈ lw_g ∧ Cond.initialized yX2_isSame.cls ∈ lw_g ∧ (yX2_isSame.cls ≠ "java/lang/invoke/MethodHandle" ∧ yX2_isSame.cls ≠ "java/lang/invoke/VarHandle" ∧ (parseMethodDescriptor yX2_isSame.desc).map (fun d => d.parameters.length) = some 3) := ⟨lw_gin (List.mem_append_right _ (tb_3 (List.mem_of_getElem? (i := 115) rfl))) rfl, lw_gin (List.mem_append_right _ (tb_1 (List.mem_of_getElem? (i := 3) rfl))) rfl, by decide +kernel⟩
theorem I_X2_isSame : Cond.instanceMethod yX2_isSame ∈ lw_g ∧ Cond.selects yX2_isSame.cls yX2_isSame yX2_isSame ∈ lw_g := ⟨lw_gin (List.mem_append_right _ (tb_3 (List.mem_of_getElem? (i := 114) rfl))) rfl, lw_gin (List.mem_append_left _ (List.mem_of_getElem? (i := 9) rfl)) rfl⟩
theorem Y_X2_lookUp : Cond.code yX2_lookUp cX2_lookUp 6 (some .int) ∈ lw_g ∧ Cond.initialized yX2_lookUp.cls ∈ lw_g ∧ (yX2_lookUp.cls ≠ "java/lang/invoke/MethodHandle" ∧ yX2_lookUp.cls ≠ "java/lang/invoke/VarHandle" ∧ (parseMethodDescriptor yX2_lookUp.desc).map (fun d => d.parameters.length) = some 3) := ⟨lw_gin (List.mem_append_right _ (tb_3 (List.mem_of_getElem? (i := 108) rfl))) rfl, lw_gin (List.mem_append_right _ (tb_1 (List.mem_of_getElem? (i := 3) rfl))) rfl, by decide +kernel⟩
theorem I_X2_lookUp : Cond.instanceMethod yX2_lookUp ∈ lw_g ∧ Cond.selects yX2_lookUp.cls yX2_lookUp yX2_lookUp ∈ lw_g := ⟨lw_gin (List.mem_append_right _ (tb_3 (List.mem_of_getElem? (i := 106) rfl))) rfl, lw_gin (List.mem_append_right _ (tb_3 (List.mem_of_getElem? (i := 107) rfl))) rfl⟩
theorem Y_X2_byteOf : Cond.code yX2_byteOf cX2_byteOf 3 (some .int) ∈ lw_g ∧ Cond.initialized yX2_byteOf.cls ∈ lw_g ∧ (yX2_byteOf.cls ≠ "java/lang/invoke/MethodHandle" ∧ yX2_byteOf.cls ≠ "java/lang/invoke/VarHandle" ∧ (parseMethodDescriptor yX2_byteOf.desc).map (fun d => d.parameters.length) = some 2) := ⟨lw_gin (List.mem_append_right _ (tb_4 (List.mem_of_getElem? (i := 62) rfl))) rfl, lw_gin (List.mem_append_right _ (tb_1 (List.mem_of_getElem? (i := 3) rfl))) rfl, by decide +kernel⟩
theorem I_X2_byteOf : Cond.instanceMethod yX2_byteOf ∈ lw_g ∧ Cond.selects yX2_byteOf.cls yX2_byteOf yX2_byteOf ∈ lw_g := ⟨lw_gin (List.mem_append_right _ (tb_4 (List.mem_of_getElem? (i := 60) rfl))) rfl, lw_gin (List.mem_append_right _ (tb_4 (List.mem_of_getElem? (i := 61) rfl))) rfl⟩
theorem Y_X2_lengthOf : Cond.code yX2_lengthOf cX2_lengthOf 2 (some .int) ∈ lw_g ∧ Cond.initialized yX2_lengthOf.cls ∈ lw_g ∧ (yX2_lengthOf.cls ≠ "java/lang/invoke/MethodHandle" ∧ yX2_lengthOf.cls ≠ "java/lang/invoke/VarHandle" ∧ (parseMethodDescriptor yX2_lengthOf.desc).map (fun d => d.parameters.length) = some 1) := ⟨lw_gin (List.mem_append_right _ (tb_5 (List.mem_of_getElem? (i := 44) rfl))) rfl, lw_gin (List.mem_append_right _ (tb_1 (List.mem_of_getElem? (i := 3) rfl))) rfl, by decide +kernel⟩
theorem I_X2_lengthOf : Cond.instanceMethod yX2_lengthOf ∈ lw_g ∧ Cond.selects yX2_lengthOf.cls yX2_lengthOf yX2_lengthOf ∈ lw_g := ⟨lw_gin (List.mem_append_right _ (tb_5 (List.mem_of_getElem? (i := 42) rfl))) rfl, lw_gin (List.mem_append_right _ (tb_5 (List.mem_of_getElem? (i := 43) rfl))) rfl⟩
theorem Y_X3_init : Cond.code yX3_init cX3_init 2 (none) ∈ lw_g ∧ Cond.initialized yX3_init.cls ∈ lw_g ∧ (yX3_init.cls ≠ "java/lang/invoke/MethodHandle" ∧ yX3_init.cls ≠ "java/lang/invoke/VarHandle" ∧ (parseMethodDescriptor yX3_init.desc).map (fun d => d.parameters.length) = some 1) := ⟨lw_gin (List.mem_append_right _ (tb_2 (List.mem_of_getElem? (i := 59) rfl))) rfl, lw_gin (List.mem_append_right _ (tb_1 (List.mem_of_getElem? (i := 9) rfl))) rfl, by decide +kernel⟩
theorem I_X3_init : yX3_init.name = "<init>" ∧ Cond.instanceMethod yX3_init ∈ lw_g := ⟨rfl, lw_gin (List.mem_append_right _ (tb_2 (List.mem_of_getElem? (i := 58) rfl))) rfl⟩
theorem Y_X3_isOpen : Cond.code yX3_isOpen cX3_isOpen 4 (some .boolean) ∈ lw_g ∧ Cond.initialized yX3_isOpen.cls ∈ lw_g ∧ (yX3_isOpen.cls ≠ "java/lang/invoke/MethodHandle" ∧ yX3_isOpen.cls ≠ "java/lang/invoke/VarHandle" ∧ (parseMethodDescriptor yX3_isOpen.desc).map (fun d => d.parameters.length) = some 0) := ⟨lw_gin (List.mem_append_right _ (tb_4 (List.mem_of_getElem? (i := 91) rfl))) rfl, lw_gin (List.mem_append_right _ (tb_1 (List.mem_of_getElem? (i := 9) rfl))) rfl, by decide +kernel⟩
theorem I_X3_isOpen : Cond.instanceMethod yX3_isOpen ∈ lw_g ∧ Cond.selects yX3_isOpen.cls yX3_isOpen yX3_isOpen ∈ lw_g := ⟨lw_gin (List.mem_append_right _ (tb_4 (List.mem_of_getElem? (i := 90) rfl))) rfl, lw_gin (List.mem_append_left _ (List.mem_of_getElem? (i := 24) rfl)) rfl⟩
theorem Y_J7_fill_031fb : Cond.code yJ7_fill_031fb cJ7_fill_031fb 4 (none) ∈ lw_g ∧ Cond.initialized yJ7_fill_031fb.cls ∈ lw_g ∧ (yJ7_fill_031fb.cls ≠ "java/lang/invoke/MethodHandle" ∧ yJ7_fill_031fb.cls ≠ "java/lang/invoke/VarHandle" ∧ (parseMethodDescriptor yJ7_fill_031fb.desc).map (fun d => d.parameters.length) = some 2) := ⟨lw_gin (List.mem_append_right _ (tb_3 (List.mem_of_getElem? (i := 56) rfl))) rfl, lw_gin (List.mem_append_right _ (tb_1 (List.mem_of_getElem? (i := 4) rfl))) rfl, by decide +kernel⟩
theorem I_J7_fill_031fb : Cond.static yJ7_fill_031fb ∈ lw_g := lw_gin (List.mem_append_right _ (tb_3 (List.mem_of_getElem? (i := 55) rfl))) rfl
theorem Y_X3_know : Cond.code yX3_know cX3_know 2 (none) ∈ lw_g ∧ Cond.initialized yX3_know.cls ∈ lw_g ∧ (yX3_know.cls ≠ "java/lang/invoke/MethodHandle" ∧ yX3_know.cls ≠ "java/lang/invoke/VarHandle" ∧ (parseMethodDescriptor yX3_know.desc).map (fun d => d.parameters.length) = some 1) := ⟨lw_gin (List.mem_append_right _ (tb_4 (List.mem_of_getElem? (i := 108) rfl))) rfl, lw_gin (List.mem_append_right _ (tb_1 (List.mem_of_getElem? (i := 9) rfl))) rfl, by decide +kernel⟩
theorem I_X3_know : Cond.instanceMethod yX3_know ∈ lw_g ∧ Cond.selects yX3_know.cls yX3_know yX3_know ∈ lw_g := ⟨lw_gin (List.mem_append_right _ (tb_4 (List.mem_of_getElem? (i := 107) rfl))) rfl, lw_gin (List.mem_append_left _ (List.mem_of_getElem? (i := 27) rfl)) rfl⟩
theorem Y_X3_knowHypotheses : Cond.code yX3_knowHypotheses cX3_knowHypotheses 3 (none) ∈ lw_g ∧ Cond.initialized yX3_knowHypotheses.cls ∈ lw_g ∧ (yX3_knowHypotheses.cls ≠ "java/lang/invoke/MethodHandle" ∧ yX3_knowHypotheses.cls ≠ "java/lang/invoke/VarHandle" ∧ (parseMethodDescriptor yX3_knowHypotheses.desc).map (fun d => d.parameters.length) = some 0) := ⟨lw_gin (List.mem_append_right _ (tb_4 (List.mem_of_getElem? (i := 103) rfl))) rfl, lw_gin (List.mem_append_right _ (tb_1 (List.mem_of_getElem? (i := 9) rfl))) rfl, by decide +kernel⟩
theorem I_X3_knowHypotheses : Cond.instanceMethod yX3_knowHypotheses ∈ lw_g ∧ Cond.selects yX3_knowHypotheses.cls yX3_knowHypotheses yX3_knowHypotheses ∈ lw_g := ⟨lw_gin (List.mem_append_right _ (tb_4 (List.mem_of_getElem? (i := 102) rfl))) rfl, lw_gin (List.mem_append_left _ (List.mem_of_getElem? (i := 26) rfl)) rfl⟩
theorem Y_X3_mayName : Cond.code yX3_mayName cX3_mayName 2 (some .boolean) ∈ lw_g ∧ Cond.initialized yX3_mayName.cls ∈ lw_g ∧ (yX3_mayName.cls ≠ "java/lang/invoke/MethodHandle" ∧ yX3_mayName.cls ≠ "java/lang/invoke/VarHandle" ∧ (parseMethodDescriptor yX3_mayName.desc).map (fun d => d.parameters.length) = some 1) := ⟨lw_gin (List.mem_append_right _ (tb_4 (List.mem_of_getElem? (i := 112) rfl))) rfl, lw_gin (List.mem_append_right _ (tb_1 (List.mem_of_getElem? (i := 9) rfl))) rfl, by decide +kernel⟩
theorem I_X3_mayName : Cond.instanceMethod yX3_mayName ∈ lw_g ∧ Cond.selects yX3_mayName.cls yX3_mayName yX3_mayName ∈ lw_g := ⟨lw_gin (List.mem_append_right _ (tb_4 (List.mem_of_getElem? (i := 111) rfl))) rfl, lw_gin (List.mem_append_left _ (List.mem_of_getElem? (i := 28) rfl)) rfl⟩
theorem Y_X3_fail : Cond.code yX3_fail cX3_fail 3 (some .int) ∈ lw_g ∧ Cond.initialized yX3_fail.cls ∈ lw_g ∧ (yX3_fail.cls ≠ "java/lang/invoke/MethodHandle" ∧ yX3_fail.cls ≠ "java/lang/invoke/VarHandle" ∧ (parseMethodDescriptor yX3_fail.desc).map (fun d => d.parameters.length) = some 2) := ⟨lw_gin (List.mem_append_right _ (tb_4 (List.mem_of_getElem? (i := 116) rfl))) rfl, lw_gin (List.mem_append_right _ (tb_1 (List.mem_of_getElem? (i := 9) rfl))) rfl, by decide +kernel⟩
theorem I_X3_fail : Cond.instanceMethod yX3_fail ∈ lw_g ∧ Cond.selects yX3_fail.cls yX3_fail yX3_fail ∈ lw_g := ⟨lw_gin (List.mem_append_right _ (tb_4 (List.mem_of_getElem? (i := 115) rfl))) rfl, lw_gin (List.mem_append_left _ (List.mem_of_getElem? (i := 29) rfl)) rfl⟩
theorem Y_X3_decodeList : Cond.code yX3_decodeList cX3_decodeList 4 (some .int) ∈ lw_g ∧ Cond.initialized yX3_decodeList.cls ∈ lw_g ∧ (yX3_decodeList.cls ≠ "java/lang/invoke/MethodHandle" ∧ yX3_decodeList.cls ≠ "java/lang/invoke/VarHandle" ∧ (parseMethodDescriptor yX3_decodeList.desc).map (fun d => d.parameters.length) = some 0) := ⟨lw_gin (List.mem_append_right _ (tb_4 (List.mem_of_getElem? (i := 99) rfl))) rfl, lw_gin (List.mem_append_right _ (tb_1 (List.mem_of_getElem? (i := 9) rfl))) rfl, by decide +kernel⟩
theorem I_X3_decodeList : Cond.instanceMethod yX3_decodeList ∈ lw_g ∧ Cond.selects yX3_decodeList.cls yX3_decodeList yX3_decodeList ∈ lw_g := ⟨lw_gin (List.mem_append_right _ (tb_4 (List.mem_of_getElem? (i := 98) rfl))) rfl, lw_gin (List.mem_append_left _ (List.mem_of_getElem? (i := 25) rfl)) rfl⟩
theorem Y_X3_addStep : Cond.code yX3_addStep cX3_addStep 2 (none) ∈ lw_g ∧ Cond.initialized yX3_addStep.cls ∈ lw_g ∧ (yX3_addStep.cls ≠ "java/lang/invoke/MethodHandle" ∧ yX3_addStep.cls ≠ "java/lang/invoke/VarHandle" ∧ (parseMethodDescriptor yX3_addStep.desc).map (fun d => d.parameters.length) = some 1) := ⟨lw_gin (List.mem_append_right _ (tb_4 (List.mem_of_getElem? (i := 124) rfl))) rfl, lw_gin (List.mem_append_right _ (tb_1 (List.mem_of_getElem? (i := 9) rfl))) rfl, by decide +kernel⟩
theorem I_X3_addStep : Cond.instanceMethod yX3_addStep ∈ lw_g ∧ Cond.selects yX3_addStep.cls yX3_addStep yX3_addStep ∈ lw_g := ⟨lw_gin (List.mem_append_right _ (tb_4 (List.mem_of_getElem? (i := 123) rfl))) rfl, lw_gin (List.mem_append_left _ (List.mem_of_getElem? (i := 31) rfl)) rfl⟩
theorem Y_X3_decodeLabels : Cond.code yX3_decodeLabels cX3_decodeLabels 4 (some .int) ∈ lw_g ∧ Cond.initialized yX3_decodeLabels.cls ∈ lw_g ∧ (yX3_decodeLabels.cls ≠ "java/lang/invoke/MethodHandle" ∧ yX3_decodeLabels.cls ≠ "java/lang/invoke/VarHandle" ∧ (parseMethodDescriptor yX3_decodeLabels.desc).map (fun d => d.parameters.length) = some 0) := ⟨lw_gin (List.mem_append_right _ (tb_4 (List.mem_of_getElem? (i := 120) rfl))) rfl, lw_gin (List.mem_append_right _ (tb_1 (List.mem_of_getElem? (i := 9) rfl))) rfl, by decide +kernel⟩
theorem I_X3_decodeLabels : Cond.instanceMethod yX3_decodeLabels ∈ lw_g ∧ Cond.selects yX3_decodeLabels.cls yX3_decodeLabels yX3_decodeLabels ∈ lw_g := ⟨lw_gin (List.mem_append_right _ (tb_4 (List.mem_of_getElem? (i := 119) rfl))) rfl, lw_gin (List.mem_append_left _ (List.mem_of_getElem? (i := 30) rfl)) rfl⟩
theorem Y_X3_mark : Cond.code yX3_mark cX3_mark 1 (some .int) ∈ lw_g ∧ Cond.initialized yX3_mark.cls ∈ lw_g ∧ (yX3_mark.cls ≠ "java/lang/invoke/MethodHandle" ∧ yX3_mark.cls ≠ "java/lang/invoke/VarHandle" ∧ (parseMethodDescriptor yX3_mark.desc).map (fun d => d.parameters.length) = some 0) := ⟨lw_gin (List.mem_append_right _ (tb_4 (List.mem_of_getElem? (i := 136) rfl))) rfl, lw_gin (List.mem_append_right _ (tb_1 (List.mem_of_getElem? (i := 9) rfl))) rfl, by decide +kernel⟩
theorem I_X3_mark : Cond.instanceMethod yX3_mark ∈ lw_g ∧ Cond.selects yX3_mark.cls yX3_mark yX3_mark ∈ lw_g := ⟨lw_gin (List.mem_append_right _ (tb_4 (List.mem_of_getElem? (i := 135) rfl))) rfl, lw_gin (List.mem_append_left _ (List.mem_of_getElem? (i := 34) rfl)) rfl⟩
theorem Y_X3_takeNumber : Cond.code yX3_takeNumber cX3_takeNumber 2 (some .int) ∈ lw_g ∧ Cond.initialized yX3_takeNumber.cls ∈ lw_g ∧ (yX3_takeNumber.cls ≠ "java/lang/invoke/MethodHandle" ∧ yX3_takeNumber.cls ≠ "java/lang/invoke/VarHandle" ∧ (parseMethodDescriptor yX3_takeNumber.desc).map (fun d => d.parameters.length) = some 1) := ⟨lw_gin (List.mem_append_right _ (tb_4 (List.mem_of_getElem? (i := 142) rfl))) rfl, lw_gin (List.mem_append_right _ (tb_1 (List.mem_of_getElem? (i := 9) rfl))) rfl, by decide +kernel⟩
theorem I_X3_takeNumber : Cond.instanceMethod yX3_takeNumber ∈ lw_g ∧ Cond.selects yX3_takeNumber.cls yX3_takeNumber yX3_takeNumber ∈ lw_g := ⟨lw_gin (List.mem_append_right _ (tb_4 (List.mem_of_getElem? (i := 141) rfl))) rfl, lw_gin (List.mem_append_left _ (List.mem_of_getElem? (i := 35) rfl)) rfl⟩
theorem Y_X3_takeLetter : Cond.code yX3_takeLetter cX3_takeLetter 3 (some .int) ∈ lw_g ∧ Cond.initialized yX3_takeLetter.cls ∈ lw_g ∧ (yX3_takeLetter.cls ≠ "java/lang/invoke/MethodHandle" ∧ yX3_takeLetter.cls ≠ "java/lang/invoke/VarHandle" ∧ (parseMethodDescriptor yX3_takeLetter.desc).map (fun d => d.parameters.length) = some 1) := ⟨lw_gin (List.mem_append_right _ (tb_4 (List.mem_of_getElem? (i := 132) rfl))) rfl, lw_gin (List.mem_append_right _ (tb_1 (List.mem_of_getElem? (i := 9) rfl))) rfl, by decide +kernel⟩
theorem I_X3_takeLetter : Cond.instanceMethod yX3_takeLetter ∈ lw_g ∧ Cond.selects yX3_takeLetter.cls yX3_takeLetter yX3_takeLetter ∈ lw_g := ⟨lw_gin (List.mem_append_right _ (tb_4 (List.mem_of_getElem? (i := 131) rfl))) rfl, lw_gin (List.mem_append_left _ (List.mem_of_getElem? (i := 33) rfl)) rfl⟩
theorem Y_X3_decodeLetters : Cond.code yX3_decodeLetters cX3_decodeLetters 6 (some .int) ∈ lw_g ∧ Cond.initialized yX3_decodeLetters.cls ∈ lw_g ∧ (yX3_decodeLetters.cls ≠ "java/lang/invoke/MethodHandle" ∧ yX3_decodeLetters.cls ≠ "java/lang/invoke/VarHandle" ∧ (parseMethodDescriptor yX3_decodeLetters.desc).map (fun d => d.parameters.length) = some 0) := ⟨lw_gin (List.mem_append_right _ (tb_4 (List.mem_of_getElem? (i := 128) rfl))) rfl, lw_gin (List.mem_append_right _ (tb_1 (List.mem_of_getElem? (i := 9) rfl))) rfl, by decide +kernel⟩
theorem I_X3_decodeLetters : Cond.instanceMethod yX3_decodeLetters ∈ lw_g ∧ Cond.selects yX3_decodeLetters.cls yX3_decodeLetters yX3_decodeLetters ∈ lw_g := ⟨lw_gin (List.mem_append_right _ (tb_4 (List.mem_of_getElem? (i := 127) rfl))) rfl, lw_gin (List.mem_append_left _ (List.mem_of_getElem? (i := 32) rfl)) rfl⟩
theorem Y_X3_decode : Cond.code yX3_decode cX3_decode 5 (some .int) ∈ lw_g ∧ Cond.initialized yX3_decode.cls ∈ lw_g ∧ (yX3_decode.cls ≠ "java/lang/invoke/MethodHandle" ∧ yX3_decode.cls ≠ "java/lang/invoke/VarHandle" ∧ (parseMethodDescriptor yX3_decode.desc).map (fun d => d.parameters.length) = some 2) := ⟨lw_gin (List.mem_append_right _ (tb_4 (List.mem_of_getElem? (i := 87) rfl))) rfl, lw_gin (List.mem_append_right _ (tb_1 (List.mem_of_getElem? (i := 9) rfl))) rfl, by decide +kernel⟩
theorem I_X3_decode : Cond.instanceMethod yX3_decode ∈ lw_g ∧ Cond.selects yX3_decode.cls yX3_decode yX3_decode ∈ lw_g := ⟨lw_gin (List.mem_append_right _ (tb_4 (List.mem_of_getElem? (i := 85) rfl))) rfl, lw_gin (List.mem_append_right _ (tb_4 (List.mem_of_getElem? (i := 86) rfl))) rfl⟩
theorem Y_X7_init : Cond.code yX7_init cX7_init 1 (none) ∈ lw_g ∧ Cond.initialized yX7_init.cls ∈ lw_g ∧ (yX7_init.cls ≠ "java/lang/invoke/MethodHandle" ∧ yX7_init.cls ≠ "java/lang/invoke/VarHandle" ∧ (parseMethodDescriptor yX7_init.desc).map (fun d => d.parameters.length) = some 0) := ⟨lw_gin (List.mem_append_right _ (tb_1 (List.mem_of_getElem? (i := 192) rfl))) rfl, lw_gin (List.mem_append_right _ (tb_1 (List.mem_of_getElem? (i := 7) rfl))) rfl, by decide +kernel⟩
theorem I_X7_init : yX7_init.name = "<init>" ∧ Cond.instanceMethod yX7_init ∈ lw_g := ⟨rfl, lw_gin (List.mem_append_right _ (tb_1 (List.mem_of_getElem? (i := 191) rfl))) rfl⟩
theorem Y_X6_init : Cond.code yX6_init cX6_init 2 (none) ∈ lw_g ∧ Cond.initialized yX6_init.cls ∈ lw_g ∧ (yX6_init.cls ≠ "java/lang/invoke/MethodHandle" ∧ yX6_init.cls ≠ "java/lang/invoke/VarHandle" ∧ (parseMethodDescriptor yX6_init.desc).map (fun d => d.parameters.length) = some 1) := ⟨lw_gin (List.mem_append_right _ (tb_1 (List.mem_of_getElem? (i := 239) rfl))) rfl, lw_gin (List.mem_append_right _ (tb_1 (List.mem_of_getElem? (i := 8) rfl))) rfl, by decide +kernel⟩
theorem I_X6_init : yX6_init.name = "<init>" ∧ Cond.instanceMethod yX6_init ∈ lw_g := ⟨rfl, lw_gin (List.mem_append_right _ (tb_1 (List.mem_of_getElem? (i := 238) rfl))) rfl⟩
theorem Y_X4_init : Cond.code yX4_init cX4_init 2 (none) ∈ lw_g ∧ Cond.initialized yX4_init.cls ∈ lw_g ∧ (yX4_init.cls ≠ "java/lang/invoke/MethodHandle" ∧ yX4_init.cls ≠ "java/lang/invoke/VarHandle" ∧ (parseMethodDescriptor yX4_init.desc).map (fun d => d.parameters.length) = some 1) := ⟨lw_gin (List.mem_append_right _ (tb_1 (List.mem_of_getElem? (i := 186) rfl))) rfl, lw_gin (List.mem_append_right _ (tb_1 (List.mem_of_getElem? (i := 6) rfl))) rfl, by decide +kernel⟩
theorem I_X4_init : yX4_init.name = "<init>" ∧ Cond.instanceMethod yX4_init ∈ lw_g := ⟨rfl, lw_gin (List.mem_append_right _ (tb_1 (List.mem_of_getElem? (i := 185) rfl))) rfl⟩
theorem Y_X7_clear : Cond.code yX7_clear cX7_clear 1 (none) ∈ lw_g ∧ Cond.initialized yX7_clear.cls ∈ lw_g ∧ (yX7_clear.cls ≠ "java/lang/invoke/MethodHandle" ∧ yX7_clear.cls ≠ "java/lang/invoke/VarHandle" ∧ (parseMethodDescriptor yX7_clear.desc).map (fun d => d.parameters.length) = some 0) := ⟨lw_gin (List.mem_append_right _ (tb_3 (List.mem_of_getElem? (i := 53) rfl))) rfl, lw_gin (List.mem_append_right _ (tb_1 (List.mem_of_getElem? (i := 7) rfl))) rfl, by decide +kernel⟩
theorem I_X7_clear : Cond.instanceMethod yX7_clear ∈ lw_g ∧ Cond.selects yX7_clear.cls yX7_clear yX7_clear ∈ lw_g := ⟨lw_gin (List.mem_append_right _ (tb_3 (List.mem_of_getElem? (i := 51) rfl))) rfl, lw_gin (List.mem_append_right _ (tb_3 (List.mem_of_getElem? (i := 52) rfl))) rfl⟩
theorem Y_X6_open : Cond.code yX6_open cX6_open 3 (none) ∈ lw_g ∧ Cond.initialized yX6_open.cls ∈ lw_g ∧ (yX6_open.cls ≠ "java/lang/invoke/MethodHandle" ∧ yX6_open.cls ≠ "java/lang/invoke/VarHandle" ∧ (parseMethodDescriptor yX6_open.desc).map (fun d => d.parameters.length) = some 2) := ⟨lw_gin (List.mem_append_right _ (tb_3 (List.mem_of_getElem? (i := 61) rfl))) rfl, lw_gin (List.mem_append_right _ (tb_1 (List.mem_of_getElem? (i := 8) rfl))) rfl, by decide +kernel⟩
theorem I_X6_open : Cond.instanceMethod yX6_open ∈ lw_g ∧ Cond.selects yX6_open.cls yX6_open yX6_open ∈ lw_g := ⟨lw_gin (List.mem_append_right _ (tb_3 (List.mem_of_getElem? (i := 59) rfl))) rfl, lw_gin (List.mem_append_right _ (tb_3 (List.mem_of_getElem? (i := 60) rfl))) rfl⟩
theorem Y_X6_isBlank : Cond.code yX6_isBlank cX6_isBlank 1 (some .boolean) ∈ lw_g ∧ Cond.initialized yX6_isBlank.cls ∈ lw_g ∧ (yX6_isBlank.cls ≠ "java/lang/invoke/MethodHandle" ∧ yX6_isBlank.cls ≠ "java/lang/invoke/VarHandle" ∧ (parseMethodDescriptor yX6_isBlank.desc).map (fun d => d.parameters.length) = some 1) := ⟨lw_gin (List.mem_append_right _ (tb_3 (List.mem_of_getElem? (i := 72) rfl))) rfl, lw_gin (List.mem_append_right _ (tb_1 (List.mem_of_getElem? (i := 8) rfl))) rfl, by decide +kernel⟩
theorem I_X6_isBlank : Cond.static yX6_isBlank ∈ lw_g := lw_gin (List.mem_append_right _ (tb_3 (List.mem_of_getElem? (i := 71) rfl))) rfl
theorem Y_X6_cut : Cond.code yX6_cut cX6_cut 1 (none) ∈ lw_g ∧ Cond.initialized yX6_cut.cls ∈ lw_g ∧ (yX6_cut.cls ≠ "java/lang/invoke/MethodHandle" ∧ yX6_cut.cls ≠ "java/lang/invoke/VarHandle" ∧ (parseMethodDescriptor yX6_cut.desc).map (fun d => d.parameters.length) = some 0) := ⟨lw_gin (List.mem_append_right _ (tb_3 (List.mem_of_getElem? (i := 69) rfl))) rfl, lw_gin (List.mem_append_right _ (tb_1 (List.mem_of_getElem? (i := 8) rfl))) rfl, by decide +kernel⟩
theorem I_X6_cut : Cond.instanceMethod yX6_cut ∈ lw_g ∧ Cond.selects yX6_cut.cls yX6_cut yX6_cut ∈ lw_g := ⟨lw_gin (List.mem_append_right _ (tb_3 (List.mem_of_getElem? (i := 68) rfl))) rfl, lw_gin (List.mem_append_left _ (List.mem_of_getElem? (i := 2) rfl)) rfl⟩
theorem Y_X6_hasWrongByte : Cond.code yX6_hasWrongByte cX6_hasWrongByte 2 (some .boolean) ∈ lw_g ∧ Cond.initialized yX6_hasWrongByte.cls ∈ lw_g ∧ (yX6_hasWrongByte.cls ≠ "java/lang/invoke/MethodHandle" ∧ yX6_hasWrongByte.cls ≠ "java/lang/invoke/VarHandle" ∧ (parseMethodDescriptor yX6_hasWrongByte.desc).map (fun d => d.parameters.length) = some 0) := ⟨lw_gin (List.mem_append_right _ (tb_3 (List.mem_of_getElem? (i := 76) rfl))) rfl, lw_gin (List.mem_append_right _ (tb_1 (List.mem_of_getElem? (i := 8) rfl))) rfl, by decide +kernel⟩
theorem I_X6_hasWrongByte : Cond.instanceMethod yX6_hasWrongByte ∈ lw_g ∧ Cond.selects yX6_hasWrongByte.cls yX6_hasWrongByte yX6_hasWrongByte ∈ lw_g := ⟨lw_gin (List.mem_append_right _ (tb_3 (List.mem_of_getElem? (i := 75) rfl))) rfl, lw_gin (List.mem_append_left _ (List.mem_of_getElem? (i := 3) rfl)) rfl⟩
theorem Y_X6_isDollarAnd : Cond.code yX6_isDollarAnd cX6_isDollarAnd 2 (some .boolean) ∈ lw_g ∧ Cond.initialized yX6_isDollarAnd.cls ∈ lw_g ∧ (yX6_isDollarAnd.cls ≠ "java/lang/invoke/MethodHandle" ∧ yX6_isDollarAnd.cls ≠ "java/lang/invoke/VarHandle" ∧ (parseMethodDescriptor yX6_isDollarAnd.desc).map (fun d => d.parameters.length) = some 1) := ⟨lw_gin (List.mem_append_right _ (tb_3 (List.mem_of_getElem? (i := 80) rfl))) rfl, lw_gin (List.mem_append_right _ (tb_1 (List.mem_of_getElem? (i := 8) rfl))) rfl, by decide +kernel⟩
theorem I_X6_isDollarAnd : Cond.instanceMethod yX6_isDollarAnd ∈ lw_g ∧ Cond.selects yX6_isDollarAnd.cls yX6_isDollarAnd yX6_isDollarAnd ∈ lw_g := ⟨lw_gin (List.mem_append_right _ (tb_3 (List.mem_of_getElem? (i := 79) rfl))) rfl, lw_gin (List.mem_append_left _ (List.mem_of_getElem? (i := 4) rfl)) rfl⟩
theorem Y_X6_hasCommentMark : Cond.code yX6_hasCommentMark cX6_hasCommentMark 2 (some .boolean) ∈ lw_g ∧ Cond.initialized yX6_hasCommentMark.cls ∈ lw_g ∧ (yX6_hasCommentMark.cls ≠ "java/lang/invoke/MethodHandle" ∧ yX6_hasCommentMark.cls ≠ "java/lang/invoke/VarHandle" ∧ (parseMethodDescriptor yX6_hasCommentMark.desc).map (fun d => d.parameters.length) = some 0) := ⟨lw_gin (List.mem_append_right _ (tb_3 (List.mem_of_getElem? (i := 84) rfl))) rfl, lw_gin (List.mem_append_right _ (tb_1 (List.mem_of_getElem? (i := 8) rfl))) rfl, by decide +kernel⟩
theorem I_X6_hasCommentMark : Cond.instanceMethod yX6_hasCommentMark ∈ lw_g ∧ Cond.selects yX6_hasCommentMark.cls yX6_hasCommentMark yX6_hasCommentMark ∈ lw_g := ⟨lw_gin (List.mem_append_right _ (tb_3 (List.mem_of_getElem? (i := 83) rfl))) rfl, lw_gin (List.mem_append_left _ (List.mem_of_getElem? (i := 5) rfl)) rfl⟩
theorem Y_X6_advance : Cond.code yX6_advance cX6_advance 3 (some .boolean) ∈ lw_g ∧ Cond.initialized yX6_advance.cls ∈ lw_g ∧ (yX6_advance.cls ≠ "java/lang/invoke/MethodHandle" ∧ yX6_advance.cls ≠ "java/lang/invoke/VarHandle" ∧ (parseMethodDescriptor yX6_advance.desc).map (fun d => d.parameters.length) = some 0) := ⟨lw_gin (List.mem_append_right _ (tb_3 (List.mem_of_getElem? (i := 65) rfl))) rfl, lw_gin (List.mem_append_right _ (tb_1 (List.mem_of_getElem? (i := 8) rfl))) rfl, by decide +kernel⟩
theorem I_X6_advance : Cond.instanceMethod yX6_advance ∈ lw_g ∧ Cond.selects yX6_advance.cls yX6_advance yX6_advance ∈ lw_g := ⟨lw_gin (List.mem_append_right _ (tb_3 (List.mem_of_getElem? (i := 63) rfl))) rfl, lw_gin (List.mem_append_right _ (tb_3 (List.mem_of_getElem? (i := 64) rfl))) rfl⟩
theorem Y_X6_keyword : Cond.code yX6_keyword cX6_keyword 1 (some .int) ∈ lw_g ∧ Cond.initialized yX6_keyword.cls ∈ lw_g ∧ (yX6_keyword.cls ≠ "java/lang/invoke/MethodHandle" ∧ yX6_keyword.cls ≠ "java/lang/invoke/VarHandle" ∧ (parseMethodDescriptor yX6_keyword.desc).map (fun d => d.parameters.length) = some 0) := ⟨lw_gin (List.mem_append_right _ (tb_3 (List.mem_of_getElem? (i := 92) rfl))) rfl, lw_gin (List.mem_append_right _ (tb_1 (List.mem_of_getElem? (i := 8) rfl))) rfl, by decide +kernel⟩
theorem I_X6_keyword : Cond.instanceMethod yX6_keyword ∈ lw_g ∧ Cond.selects yX6_keyword.cls yX6_keyword yX6_keyword ∈ lw_g := ⟨lw_gin (List.mem_append_right _ (tb_3 (List.mem_of_getElem? (i := 91) rfl))) rfl, lw_gin (List.mem_append_left _ (List.mem_of_getElem? (i := 6) rfl)) rfl⟩
theorem Y_X6_word : Cond.code yX6_word cX6_word 2 (some .int) ∈ lw_g ∧ Cond.initialized yX6_word.cls ∈ lw_g ∧ (yX6_word.cls ≠ "java/lang/invoke/MethodHandle" ∧ yX6_word.cls ≠ "java/lang/invoke/VarHandle" ∧ (parseMethodDescriptor yX6_word.desc).map (fun d => d.parameters.length) = some 0) := ⟨lw_gin (List.mem_append_right _ (tb_3 (List.mem_of_getElem? (i := 88) rfl))) rfl, lw_gin (List.mem_append_right _ (tb_1 (List.mem_of_getElem? (i := 8) rfl))) rfl, by decide +kernel⟩
theorem I_X6_word : Cond.instanceMethod yX6_word ∈ lw_g ∧ Cond.selects yX6_word.cls yX6_word yX6_word ∈ lw_g := ⟨lw_gin (List.mem_append_right _ (tb_3 (List.mem_of_getElem? (i := 86) rfl))) rfl, lw_gin (List.mem_append_right _ (tb_3 (List.mem_of_getElem? (i := 87) rfl))) rfl⟩
theorem Y_X6_isLabel : Cond.code yX6_isLabel cX6_isLabel 5 (some .boolean) ∈ lw_g ∧ Cond.initialized yX6_isLabel.cls ∈ lw_g ∧ (yX6_isLabel.cls ≠ "java/lang/invoke/MethodHandle" ∧ yX6_isLabel.cls ≠ "java/lang/invoke/VarHandle" ∧ (parseMethodDescriptor yX6_isLabel.desc).map (fun d => d.parameters.length) = some 0) := ⟨lw_gin (List.mem_append_right _ (tb_3 (List.mem_of_getElem? (i := 100) rfl))) rfl, lw_gin (List.mem_append_right _ (tb_1 (List.mem_of_getElem? (i := 8) rfl))) rfl, by decide +kernel⟩
theorem I_X6_isLabel : Cond.instanceMethod yX6_isLabel ∈ lw_g ∧ Cond.selects yX6_isLabel.cls yX6_isLabel yX6_isLabel ∈ lw_g := ⟨lw_gin (List.mem_append_right _ (tb_3 (List.mem_of_getElem? (i := 98) rfl))) rfl, lw_gin (List.mem_append_right _ (tb_3 (List.mem_of_getElem? (i := 99) rfl))) rfl⟩
theorem Y_X4_namedByToken : Cond.code yX4_namedByToken cX4_namedByToken 1 (some .int) ∈ lw_g ∧ Cond.initialized yX4_namedByToken.cls ∈ lw_g ∧ (yX4_namedByToken.cls ≠ "java/lang/invoke/MethodHandle" ∧ yX4_namedByToken.cls ≠ "java/lang/invoke/VarHandle" ∧ (parseMethodDescriptor yX4_namedByToken.desc).map (fun d => d.parameters.length) = some 0) := ⟨lw_gin (List.mem_append_right _ (tb_3 (List.mem_of_getElem? (i := 104) rfl))) rfl, lw_gin (List.mem_append_right _ (tb_1 (List.mem_of_getElem? (i := 6) rfl))) rfl, by decide +kernel⟩
theorem I_X4_namedByToken : Cond.instanceMethod yX4_namedByToken ∈ lw_g ∧ Cond.selects yX4_namedByToken.cls yX4_namedByToken yX4_namedByToken ∈ lw_g := ⟨lw_gin (List.mem_append_right _ (tb_3 (List.mem_of_getElem? (i := 103) rfl))) rfl, lw_gin (List.mem_append_left _ (List.mem_of_getElem? (i := 8) rfl)) rfl⟩
theorem Y_X4_takeLabel : Cond.code yX4_takeLabel cX4_takeLabel 1 (some .int) ∈ lw_g ∧ Cond.initialized yX4_takeLabel.cls ∈ lw_g ∧ (yX4_takeLabel.cls ≠ "java/lang/invoke/MethodHandle" ∧ yX4_takeLabel.cls ≠ "java/lang/invoke/VarHandle" ∧ (parseMethodDescriptor yX4_takeLabel.desc).map (fun d => d.parameters.length) = some 0) := ⟨lw_gin (List.mem_append_right _ (tb_3 (List.mem_of_getElem? (i := 96) rfl))) rfl, lw_gin (List.mem_append_right _ (tb_1 (List.mem_of_getElem? (i := 6) rfl))) rfl, by decide +kernel⟩
theorem I_X4_takeLabel : Cond.instanceMethod yX4_takeLabel ∈ lw_g ∧ Cond.selects yX4_takeLabel.cls yX4_takeLabel yX4_takeLabel ∈ lw_g := ⟨lw_gin (List.mem_append_right _ (tb_3 (List.mem_of_getElem? (i := 95) rfl))) rfl, lw_gin (List.mem_append_left _ (List.mem_of_getElem? (i := 7) rfl)) rfl⟩
theorem Y_X4_begin : Cond.code yX4_begin cX4_begin 2 (some .int) ∈ lw_g ∧ Cond.initialized yX4_begin.cls ∈ lw_g ∧ (yX4_begin.cls ≠ "java/lang/invoke/MethodHandle" ∧ yX4_begin.cls ≠ "java/lang/invoke/VarHandle" ∧ (parseMethodDescriptor yX4_begin.desc).map (fun d => d.parameters.length) = some 1) := ⟨lw_gin (List.mem_append_right _ (tb_3 (List.mem_of_getElem? (i := 123) rfl))) rfl, lw_gin (List.mem_append_right _ (tb_1 (List.mem_of_getElem? (i := 6) rfl))) rfl, by decide +kernel⟩
theorem I_X4_begin : Cond.instanceMethod yX4_begin ∈ lw_g ∧ Cond.selects yX4_begin.cls yX4_begin yX4_begin ∈ lw_g := ⟨lw_gin (List.mem_append_right _ (tb_3 (List.mem_of_getElem? (i := 122) rfl))) rfl, lw_gin (List.mem_append_left _ (List.mem_of_getElem? (i := 11) rfl)) rfl⟩
theorem Y_X7_openBlock : Cond.code yX7_openBlock cX7_openBlock 1 (some .boolean) ∈ lw_g ∧ Cond.initialized yX7_openBlock.cls ∈ lw_g ∧ (yX7_openBlock.cls ≠ "java/lang/invoke/MethodHandle" ∧ yX7_openBlock.cls ≠ "java/lang/invoke/VarHandle" ∧ (parseMethodDescriptor yX7_openBlock.desc).map (fun d => d.parameters.length) = some 0) := ⟨lw_gin (List.mem_append_right _ (tb_3 (List.mem_of_getElem? (i := 127) rfl))) rfl, lw_gin (List.mem_append_right _ (tb_1 (List.mem_of_getElem? (i := 7) rfl))) rfl, by decide +kernel⟩
theorem I_X7_openBlock : Cond.instanceMethod yX7_openBlock ∈ lw_g ∧ Cond.selects yX7_openBlock.cls yX7_openBlock yX7_openBlock ∈ lw_g := ⟨lw_gin (List.mem_append_right _ (tb_3 (List.mem_of_getElem? (i := 125) rfl))) rfl, lw_gin (List.mem_append_right _ (tb_3 (List.mem_of_getElem? (i := 126) rfl))) rfl⟩
theorem Y_X7_dropPairs : Cond.code yX7_dropPairs cX7_dropPairs 3 (none) ∈ lw_g ∧ Cond.initialized yX7_dropPairs.cls ∈ lw_g ∧ (yX7_dropPairs.cls ≠ "java/lang/invoke/MethodHandle" ∧ yX7_dropPairs.cls ≠ "java/lang/invoke/VarHandle" ∧ (parseMethodDescriptor yX7_dropPairs.desc).map (fun d => d.parameters.length) = some 0) := ⟨lw_gin (List.mem_append_right _ (tb_3 (List.mem_of_getElem? (i := 135) rfl))) rfl, lw_gin (List.mem_append_right _ (tb_1 (List.mem_of_getElem? (i := 7) rfl))) rfl, by decide +kernel⟩
theorem I_X7_dropPairs : Cond.instanceMethod yX7_dropPairs ∈ lw_g ∧ Cond.selects yX7_dropPairs.cls yX7_dropPairs yX7_dropPairs ∈ lw_g := ⟨lw_gin (List.mem_append_right _ (tb_3 (List.mem_of_getElem? (i := 134) rfl))) rfl, lw_gin (List.mem_append_left _ (List.mem_of_getElem? (i := 12) rfl)) rfl⟩
theorem Y_X7_addNeeds : Cond.code yX7_addNeeds cX7_addNeeds 6 (none) ∈ lw_g ∧ Cond.initialized yX7_addNeeds.cls ∈ lw_g ∧ (yX7_addNeeds.cls ≠ "java/lang/invoke/MethodHandle" ∧ yX7_addNeeds.cls ≠ "java/lang/invoke/VarHandle" ∧ (parseMethodDescriptor yX7_addNeeds.desc).map (fun d => d.parameters.length) = some 3) := ⟨lw_gin (List.mem_append_right _ (tb_3 (List.mem_of_getElem? (i := 147) rfl))) rfl, lw_gin (List.mem_append_right _ (tb_1 (List.mem_of_getElem? (i := 7) rfl))) rfl, by decide +kernel⟩
theorem I_X7_addNeeds : Cond.instanceMethod yX7_addNeeds ∈ lw_g ∧ Cond.selects yX7_addNeeds.cls yX7_addNeeds yX7_addNeeds ∈ lw_g := ⟨lw_gin (List.mem_append_right _ (tb_3 (List.mem_of_getElem? (i := 146) rfl))) rfl, lw_gin (List.mem_append_left _ (List.mem_of_getElem? (i := 14) rfl)) rfl⟩
theorem Y_X7_dropHypothesis : Cond.code yX7_dropHypothesis cX7_dropHypothesis 3 (none) ∈ lw_g ∧ Cond.initialized yX7_dropHypothesis.cls ∈ lw_g ∧ (yX7_dropHypothesis.cls ≠ "java/lang/invoke/MethodHandle" ∧ yX7_dropHypothesis.cls ≠ "java/lang/invoke/VarHandle" ∧ (parseMethodDescriptor yX7_dropHypothesis.desc).map (fun d => d.parameters.length) = some 2) := ⟨lw_gin (List.mem_append_right _ (tb_3 (List.mem_of_getElem? (i := 139) rfl))) rfl, lw_gin (List.mem_append_right _ (tb_1 (List.mem_of_getElem? (i := 7) rfl))) rfl, by decide +kernel⟩
theorem I_X7_dropHypothesis : Cond.instanceMethod yX7_dropHypothesis ∈ lw_g ∧ Cond.selects yX7_dropHypothesis.cls yX7_dropHypothesis yX7_dropHypothesis ∈ lw_g := ⟨lw_gin (List.mem_append_right _ (tb_3 (List.mem_of_getElem? (i := 138) rfl))) rfl, lw_gin (List.mem_append_left _ (List.mem_of_getElem? (i := 13) rfl)) rfl⟩
theorem Y_X7_closeBlock : Cond.code yX7_closeBlock cX7_closeBlock 3 (none) ∈ lw_g ∧ Cond.initialized yX7_closeBlock.cls ∈ lw_g ∧ (yX7_closeBlock.cls ≠ "java/lang/invoke/MethodHandle" ∧ yX7_closeBlock.cls ≠ "java/lang/invoke/VarHandle" ∧ (parseMethodDescriptor yX7_closeBlock.desc).map (fun d => d.parameters.length) = some 1) := ⟨lw_gin (List.mem_append_right _ (tb_3 (List.mem_of_getElem? (i := 131) rfl))) rfl, lw_gin (List.mem_append_right _ (tb_1 (List.mem_of_getElem? (i := 7) rfl))) rfl, by decide +kernel⟩
theorem I_X7_closeBlock : Cond.instanceMethod yX7_closeBlock ∈ lw_g ∧ Cond.selects yX7_closeBlock.cls yX7_closeBlock yX7_closeBlock ∈ lw_g := ⟨lw_gin (List.mem_append_right _ (tb_3 (List.mem_of_getElem? (i := 129) rfl))) rfl, lw_gin (List.mem_append_right _ (tb_3 (List.mem_of_getElem? (i := 130) rfl))) rfl⟩
theorem Y_X4_takeOutside : Cond.code yX4_takeOutside cX4_takeOutside 2 (some .int) ∈ lw_g ∧ Cond.initialized yX4_takeOutside.cls ∈ lw_g ∧ (yX4_takeOutside.cls ≠ "java/lang/invoke/MethodHandle" ∧ yX4_takeOutside.cls ≠ "java/lang/invoke/VarHandle" ∧ (parseMethodDescriptor yX4_takeOutside.desc).map (fun d => d.parameters.length) = some 1) := ⟨lw_gin (List.mem_append_right _ (tb_3 (List.mem_of_getElem? (i := 119) rfl))) rfl, lw_gin (List.mem_append_right _ (tb_1 (List.mem_of_getElem? (i := 6) rfl))) rfl, by decide +kernel⟩
theorem I_X4_takeOutside : Cond.instanceMethod yX4_takeOutside ∈ lw_g ∧ Cond.selects yX4_takeOutside.cls yX4_takeOutside yX4_takeOutside ∈ lw_g := ⟨lw_gin (List.mem_append_right _ (tb_3 (List.mem_of_getElem? (i := 118) rfl))) rfl, lw_gin (List.mem_append_left _ (List.mem_of_getElem? (i := 10) rfl)) rfl⟩
theorem Y_X4_takeKind : Cond.code yX4_takeKind cX4_takeKind 2 (some .int) ∈ lw_g ∧ Cond.initialized yX4_takeKind.cls ∈ lw_g ∧ (yX4_takeKind.cls ≠ "java/lang/invoke/MethodHandle" ∧ yX4_takeKind.cls ≠ "java/lang/invoke/VarHandle" ∧ (parseMethodDescriptor yX4_takeKind.desc).map (fun d => d.parameters.length) = some 1) := ⟨lw_gin (List.mem_append_right _ (tb_3 (List.mem_of_getElem? (i := 155) rfl))) rfl, lw_gin (List.mem_append_right _ (tb_1 (List.mem_of_getElem? (i := 6) rfl))) rfl, by decide +kernel⟩
theorem I_X4_takeKind : Cond.instanceMethod yX4_takeKind ∈ lw_g ∧ Cond.selects yX4_takeKind.cls yX4_takeKind yX4_takeKind ∈ lw_g := ⟨lw_gin (List.mem_append_right _ (tb_3 (List.mem_of_getElem? (i := 154) rfl))) rfl, lw_gin (List.mem_append_left _ (List.mem_of_getElem? (i := 15) rfl)) rfl⟩
theorem Y_X7_isActive : Cond.code yX7_isActive cX7_isActive 2 (some .boolean) ∈ lw_g ∧ Cond.initialized yX7_isActive.cls ∈ lw_g ∧ (yX7_isActive.cls ≠ "java/lang/invoke/MethodHandle" ∧ yX7_isActive.cls ≠ "java/lang/invoke/VarHandle" ∧ (parseMethodDescriptor yX7_isActive.desc).map (fun d => d.parameters.length) = some 1) := ⟨lw_gin (List.mem_append_right _ (tb_3 (List.mem_of_getElem? (i := 167) rfl))) rfl, lw_gin (List.mem_append_right _ (tb_1 (List.mem_of_getElem? (i := 7) rfl))) rfl, by decide +kernel⟩
theorem I_X7_isActive : Cond.instanceMethod yX7_isActive ∈ lw_g ∧ Cond.selects yX7_isActive.cls yX7_isActive yX7_isActive ∈ lw_g := ⟨lw_gin (List.mem_append_right _ (tb_3 (List.mem_of_getElem? (i := 165) rfl))) rfl, lw_gin (List.mem_append_right _ (tb_3 (List.mem_of_getElem? (i := 166) rfl))) rfl⟩
theorem Y_X7_activate : Cond.code yX7_activate cX7_activate 2 (none) ∈ lw_g ∧ Cond.initialized yX7_activate.cls ∈ lw_g ∧ (yX7_activate.cls ≠ "java/lang/invoke/MethodHandle" ∧ yX7_activate.cls ≠ "java/lang/invoke/VarHandle" ∧ (parseMethodDescriptor yX7_activate.desc).map (fun d => d.parameters.length) = some 1) := ⟨lw_gin (List.mem_append_right _ (tb_3 (List.mem_of_getElem? (i := 179) rfl))) rfl, lw_gin (List.mem_append_right _ (tb_1 (List.mem_of_getElem? (i := 7) rfl))) rfl, by decide +kernel⟩
theorem I_X7_activate : Cond.instanceMethod yX7_activate ∈ lw_g ∧ Cond.selects yX7_activate.cls yX7_activate yX7_activate ∈ lw_g := ⟨lw_gin (List.mem_append_right _ (tb_3 (List.mem_of_getElem? (i := 177) rfl))) rfl, lw_gin (List.mem_append_right _ (tb_3 (List.mem_of_getElem? (i := 178) rfl))) rfl⟩
theorem Y_X4_takeDeclared : Cond.code yX4_takeDeclared cX4_takeDeclared 5 (some .int) ∈ lw_g ∧ Cond.initialized yX4_takeDeclared.cls ∈ lw_g ∧ (yX4_takeDeclared.cls ≠ "java/lang/invoke/MethodHandle" ∧ yX4_takeDeclared.cls ≠ "java/lang/invoke/VarHandle" ∧ (parseMethodDescriptor yX4_takeDeclared.desc).map (fun d => d.parameters.length) = some 1) := ⟨lw_gin (List.mem_append_right _ (tb_3 (List.mem_of_getElem? (i := 159) rfl))) rfl, lw_gin (List.mem_append_right _ (tb_1 (List.mem_of_getElem? (i := 6) rfl))) rfl, by decide +kernel⟩
theorem I_X4_takeDeclared : Cond.instanceMethod yX4_takeDeclared ∈ lw_g ∧ Cond.selects yX4_takeDeclared.cls yX4_takeDeclared yX4_takeDeclared ∈ lw_g := ⟨lw_gin (List.mem_append_right _ (tb_3 (List.mem_of_getElem? (i := 158) rfl))) rfl, lw_gin (List.mem_append_left _ (List.mem_of_getElem? (i := 16) rfl)) rfl⟩
theorem Y_J9_max_7cf53 : Cond.code yJ9_max_7cf53 cJ9_max_7cf53 2 (some .int) ∈ lw_g ∧ Cond.initialized yJ9_max_7cf53.cls ∈ lw_g ∧ (yJ9_max_7cf53.cls ≠ "java/lang/invoke/MethodHandle" ∧ yJ9_max_7cf53.cls ≠ "java/lang/invoke/VarHandle" ∧ (parseMethodDescriptor yJ9_max_7cf53.desc).map (fun d => d.parameters.length) = some 2) := ⟨lw_gin (List.mem_append_right _ (tb_3 (List.mem_of_getElem? (i := 193) rfl))) rfl, lw_gin (List.mem_append_right _ (tb_1 (List.mem_of_getElem? (i := 14) rfl))) rfl, by decide +kernel⟩
theorem I_J9_max_7cf53 : Cond.static yJ9_max_7cf53 ∈ lw_g := lw_gin (List.mem_append_right _ (tb_3 (List.mem_of_getElem? (i := 192) rfl))) rfl
theorem Y_X7_addPair : Cond.code yX7_addPair cX7_addPair 5 (some .boolean) ∈ lw_g ∧ Cond.initialized yX7_addPair.cls ∈ lw_g ∧ (yX7_addPair.cls ≠ "java/lang/invoke/MethodHandle" ∧ yX7_addPair.cls ≠ "java/lang/invoke/VarHandle" ∧ (parseMethodDescriptor yX7_addPair.desc).map (fun d => d.parameters.length) = some 2) := ⟨lw_gin (List.mem_append_right _ (tb_3 (List.mem_of_getElem? (i := 187) rfl))) rfl, lw_gin (List.mem_append_right _ (tb_1 (List.mem_of_getElem? (i := 7) rfl))) rfl, by decide +kernel⟩
theorem I_X7_addPair : Cond.instanceMethod yX7_addPair ∈ lw_g ∧ Cond.selects yX7_addPair.cls yX7_addPair yX7_addPair ∈ lw_g := ⟨lw_gin (List.mem_append_right _ (tb_3 (List.mem_of_getElem? (i := 185) rfl))) rfl, lw_gin (List.mem_append_right _ (tb_3 (List.mem_of_getElem? (i := 186) rfl))) rfl⟩
theorem Y_X4_takeSeparated : Cond.code yX4_takeSeparated cX4_takeSeparated 4 (some .int) ∈ lw_g ∧ Cond.initialized yX4_takeSeparated.cls ∈ lw_g ∧ (yX4_takeSeparated.cls ≠ "java/lang/invoke/MethodHandle" ∧ yX4_takeSeparated.cls ≠ "java/lang/invoke/VarHandle" ∧ (parseMethodDescriptor yX4_takeSeparated.desc).map (fun d => d.parameters.length) = some 1) := ⟨lw_gin (List.mem_append_right _ (tb_3 (List.mem_of_getElem? (i := 183) rfl))) rfl, lw_gin (List.mem_append_right _ (tb_1 (List.mem_of_getElem? (i := 6) rfl))) rfl, by decide +kernel⟩
theorem I_X4_takeSeparated : Cond.instanceMethod yX4_takeSeparated ∈ lw_g ∧ Cond.selects yX4_takeSeparated.cls yX4_takeSeparated yX4_takeSeparated ∈ lw_g := ⟨lw_gin (List.mem_append_right _ (tb_3 (List.mem_of_getElem? (i := 182) rfl))) rfl, lw_gin (List.mem_append_left _ (List.mem_of_getElem? (i := 17) rfl)) rfl⟩
theorem Y_X7_isTyped : Cond.code yX7_isTyped cX7_isTyped 2 (some .boolean) ∈ lw_g ∧ Cond.initialized yX7_isTyped.cls ∈ lw_g ∧ (yX7_isTyped.cls ≠ "java/lang/invoke/MethodHandle" ∧ yX7_isTyped.cls ≠ "java/lang/invoke/VarHandle" ∧ (parseMethodDescriptor yX7_isTyped.desc).map (fun d => d.parameters.length) = some 1) := ⟨lw_gin (List.mem_append_right _ (tb_3 (List.mem_of_getElem? (i := 212) rfl))) rfl, lw_gin (List.mem_append_right _ (tb_1 (List.mem_of_getElem? (i := 7) rfl))) rfl, by decide +kernel⟩
theorem I_X7_isTyped : Cond.instanceMethod yX7_isTyped ∈ lw_g ∧ Cond.selects yX7_isTyped.cls yX7_isTyped yX7_isTyped ∈ lw_g := ⟨lw_gin (List.mem_append_right _ (tb_3 (List.mem_of_getElem? (i := 210) rfl))) rfl, lw_gin (List.mem_append_right _ (tb_3 (List.mem_of_getElem? (i := 211) rfl))) rfl⟩
theorem Y_X4_mayStand : Cond.code yX4_mayStand cX4_mayStand 2 (some .boolean) ∈ lw_g ∧ Cond.initialized yX4_mayStand.cls ∈ lw_g ∧ (yX4_mayStand.cls ≠ "java/lang/invoke/MethodHandle" ∧ yX4_mayStand.cls ≠ "java/lang/invoke/VarHandle" ∧ (parseMethodDescriptor yX4_mayStand.desc).map (fun d => d.parameters.length) = some 1) := ⟨lw_gin (List.mem_append_right _ (tb_3 (List.mem_of_getElem? (i := 204) rfl))) rfl, lw_gin (List.mem_append_right _ (tb_1 (List.mem_of_getElem? (i := 6) rfl))) rfl, by decide +kernel⟩
theorem I_X4_mayStand : Cond.instanceMethod yX4_mayStand ∈ lw_g ∧ Cond.selects yX4_mayStand.cls yX4_mayStand yX4_mayStand ∈ lw_g := ⟨lw_gin (List.mem_append_right _ (tb_3 (List.mem_of_getElem? (i := 203) rfl))) rfl, lw_gin (List.mem_append_left _ (List.mem_of_getElem? (i := 19) rfl)) rfl⟩
theorem Y_X4_takeSymbol : Cond.code yX4_takeSymbol cX4_takeSymbol 2 (some .int) ∈ lw_g ∧ Cond.initialized yX4_takeSymbol.cls ∈ lw_g ∧ (yX4_takeSymbol.cls ≠ "java/lang/invoke/MethodHandle" ∧ yX4_takeSymbol.cls ≠ "java/lang/invoke/VarHandle" ∧ (parseMethodDescriptor yX4_takeSymbol.desc).map (fun d => d.parameters.length) = some 0) := ⟨lw_gin (List.mem_append_right _ (tb_3 (List.mem_of_getElem? (i := 200) rfl))) rfl, lw_gin (List.mem_append_right _ (tb_1 (List.mem_of_getElem? (i := 6) rfl))) rfl, by decide +kernel⟩
theorem I_X4_takeSymbol : Cond.instanceMethod yX4_takeSymbol ∈ lw_g ∧ Cond.selects yX4_takeSymbol.cls yX4_takeSymbol yX4_takeSymbol ∈ lw_g := ⟨lw_gin (List.mem_append_right _ (tb_3 (List.mem_of_getElem? (i := 199) rfl))) rfl, lw_gin (List.mem_append_left _ (List.mem_of_getElem? (i := 18) rfl)) rfl⟩
theorem Y_X4_takeEnd : Cond.code yX4_takeEnd cX4_takeEnd 4 (some .int) ∈ lw_g ∧ Cond.initialized yX4_takeEnd.cls ∈ lw_g ∧ (yX4_takeEnd.cls ≠ "java/lang/invoke/MethodHandle" ∧ yX4_takeEnd.cls ≠ "java/lang/invoke/VarHandle" ∧ (parseMethodDescriptor yX4_takeEnd.desc).map (fun d => d.parameters.length) = some 1) := ⟨lw_gin (List.mem_append_right _ (tb_3 (List.mem_of_getElem? (i := 232) rfl))) rfl, lw_gin (List.mem_append_right _ (tb_1 (List.mem_of_getElem? (i := 6) rfl))) rfl, by decide +kernel⟩
theorem I_X4_takeEnd : Cond.instanceMethod yX4_takeEnd ∈ lw_g ∧ Cond.selects yX4_takeEnd.cls yX4_takeEnd yX4_takeEnd ∈ lw_g := ⟨lw_gin (List.mem_append_right _ (tb_3 (List.mem_of_getElem? (i := 231) rfl))) rfl, lw_gin (List.mem_append_left _ (List.mem_of_getElem? (i := 20) rfl)) rfl⟩
theorem Y_X4_takeProofToken : Cond.code yX4_takeProofToken cX4_takeProofToken 3 (some .int) ∈ lw_g ∧ Cond.initialized yX4_takeProofToken.cls ∈ lw_g ∧ (yX4_takeProofToken.cls ≠ "java/lang/invoke/MethodHandle" ∧ yX4_takeProofToken.cls ≠ "java/lang/invoke/VarHandle" ∧ (parseMethodDescriptor yX4_takeProofToken.desc).map (fun d => d.parameters.length) = some 1) := ⟨lw_gin (List.mem_append_right _ (tb_3 (List.mem_of_getElem? (i := 236) rfl))) rfl, lw_gin (List.mem_append_right _ (tb_1 (List.mem_of_getElem? (i := 6) rfl))) rfl, by decide +kernel⟩
theorem I_X4_takeProofToken : Cond.instanceMethod yX4_takeProofToken ∈ lw_g ∧ Cond.selects yX4_takeProofToken.cls yX4_takeProofToken yX4_takeProofToken ∈ lw_g := ⟨lw_gin (List.mem_append_right _ (tb_3 (List.mem_of_getElem? (i := 235) rfl))) rfl, lw_gin (List.mem_append_left _ (List.mem_of_getElem? (i := 21) rfl)) rfl⟩
theorem Y_X7_makeFrame : Cond.code yX7_makeFrame cX7_makeFrame 5 (none) ∈ lw_g ∧ Cond.initialized yX7_makeFrame.cls ∈ lw_g ∧ (yX7_makeFrame.cls ≠ "java/lang/invoke/MethodHandle" ∧ yX7_makeFrame.cls ≠ "java/lang/invoke/VarHandle" ∧ (parseMethodDescriptor yX7_makeFrame.desc).map (fun d => d.parameters.length) = some 2) := ⟨lw_gin (List.mem_append_right _ (tb_4 (List.mem_of_getElem? (i := 9) rfl))) rfl, lw_gin (List.mem_append_right _ (tb_1 (List.mem_of_getElem? (i := 7) rfl))) rfl, by decide +kernel⟩
theorem I_X7_makeFrame : Cond.instanceMethod yX7_makeFrame ∈ lw_g ∧ Cond.selects yX7_makeFrame.cls yX7_makeFrame yX7_makeFrame ∈ lw_g := ⟨lw_gin (List.mem_append_right _ (tb_4 (List.mem_of_getElem? (i := 7) rfl))) rfl, lw_gin (List.mem_append_right _ (tb_4 (List.mem_of_getElem? (i := 8) rfl))) rfl⟩
theorem Y_X7_addHypothesis : Cond.code yX7_addHypothesis cX7_addHypothesis 3 (none) ∈ lw_g ∧ Cond.initialized yX7_addHypothesis.cls ∈ lw_g ∧ (yX7_addHypothesis.cls ≠ "java/lang/invoke/MethodHandle" ∧ yX7_addHypothesis.cls ≠ "java/lang/invoke/VarHandle" ∧ (parseMethodDescriptor yX7_addHypothesis.desc).map (fun d => d.parameters.length) = some 2) := ⟨lw_gin (List.mem_append_right _ (tb_4 (List.mem_of_getElem? (i := 14) rfl))) rfl, lw_gin (List.mem_append_right _ (tb_1 (List.mem_of_getElem? (i := 7) rfl))) rfl, by decide +kernel⟩
theorem I_X7_addHypothesis : Cond.instanceMethod yX7_addHypothesis ∈ lw_g ∧ Cond.selects yX7_addHypothesis.cls yX7_addHypothesis yX7_addHypothesis ∈ lw_g := ⟨lw_gin (List.mem_append_right _ (tb_4 (List.mem_of_getElem? (i := 12) rfl))) rfl, lw_gin (List.mem_append_right _ (tb_4 (List.mem_of_getElem? (i := 13) rfl))) rfl⟩
theorem Y_X4_endStatement : Cond.code yX4_endStatement cX4_endStatement 2 (none) ∈ lw_g ∧ Cond.initialized yX4_endStatement.cls ∈ lw_g ∧ (yX4_endStatement.cls ≠ "java/lang/invoke/MethodHandle" ∧ yX4_endStatement.cls ≠ "java/lang/invoke/VarHandle" ∧ (parseMethodDescriptor yX4_endStatement.desc).map (fun d => d.parameters.length) = some 0) := ⟨lw_gin (List.mem_append_right _ (tb_4 (List.mem_of_getElem? (i := 0) rfl))) rfl, lw_gin (List.mem_append_right _ (tb_1 (List.mem_of_getElem? (i := 6) rfl))) rfl, by decide +kernel⟩
theorem I_X4_endStatement : Cond.instanceMethod yX4_endStatement ∈ lw_g ∧ Cond.selects yX4_endStatement.cls yX4_endStatement yX4_endStatement ∈ lw_g := ⟨lw_gin (List.mem_append_right _ (tb_3 (List.mem_of_getElem? (i := 239) rfl))) rfl, lw_gin (List.mem_append_left _ (List.mem_of_getElem? (i := 22) rfl)) rfl⟩
theorem Y_X4_readBook : Cond.code yX4_readBook cX4_readBook 5 (some .int) ∈ lw_g ∧ Cond.initialized yX4_readBook.cls ∈ lw_g ∧ (yX4_readBook.cls ≠ "java/lang/invoke/MethodHandle" ∧ yX4_readBook.cls ≠ "java/lang/invoke/VarHandle" ∧ (parseMethodDescriptor yX4_readBook.desc).map (fun d => d.parameters.length) = some 1) := ⟨lw_gin (List.mem_append_right _ (tb_3 (List.mem_of_getElem? (i := 40) rfl))) rfl, lw_gin (List.mem_append_right _ (tb_1 (List.mem_of_getElem? (i := 6) rfl))) rfl, by decide +kernel⟩
theorem I_X4_readBook : Cond.instanceMethod yX4_readBook ∈ lw_g ∧ Cond.selects yX4_readBook.cls yX4_readBook yX4_readBook ∈ lw_g := ⟨lw_gin (List.mem_append_right _ (tb_3 (List.mem_of_getElem? (i := 38) rfl))) rfl, lw_gin (List.mem_append_right _ (tb_3 (List.mem_of_getElem? (i := 39) rfl))) rfl⟩
theorem Y_X8_init : Cond.code yX8_init cX8_init 1 (none) ∈ lw_g ∧ Cond.initialized yX8_init.cls ∈ lw_g ∧ (yX8_init.cls ≠ "java/lang/invoke/MethodHandle" ∧ yX8_init.cls ≠ "java/lang/invoke/VarHandle" ∧ (parseMethodDescriptor yX8_init.desc).map (fun d => d.parameters.length) = some 0) := ⟨lw_gin (List.mem_append_right _ (tb_2 (List.mem_of_getElem? (i := 204) rfl))) rfl, lw_gin (List.mem_append_right _ (tb_1 (List.mem_of_getElem? (i := 12) rfl))) rfl, by decide +kernel⟩
theorem I_X8_init : yX8_init.name = "<init>" ∧ Cond.instanceMethod yX8_init ∈ lw_g := ⟨rfl, lw_gin (List.mem_append_right _ (tb_2 (List.mem_of_getElem? (i := 203) rfl))) rfl⟩
theorem Y_X8_clear : Cond.code yX8_clear cX8_clear 1 (none) ∈ lw_g ∧ Cond.initialized yX8_clear.cls ∈ lw_g ∧ (yX8_clear.cls ≠ "java/lang/invoke/MethodHandle" ∧ yX8_clear.cls ≠ "java/lang/invoke/VarHandle" ∧ (parseMethodDescriptor yX8_clear.desc).map (fun d => d.parameters.length) = some 0) := ⟨lw_gin (List.mem_append_right _ (tb_5 (List.mem_of_getElem? (i := 2) rfl))) rfl, lw_gin (List.mem_append_right _ (tb_1 (List.mem_of_getElem? (i := 12) rfl))) rfl, by decide +kernel⟩
theorem I_X8_clear : Cond.instanceMethod yX8_clear ∈ lw_g ∧ Cond.selects yX8_clear.cls yX8_clear yX8_clear ∈ lw_g := ⟨lw_gin (List.mem_append_right _ (tb_5 (List.mem_of_getElem? (i := 0) rfl))) rfl, lw_gin (List.mem_append_right _ (tb_5 (List.mem_of_getElem? (i := 1) rfl))) rfl⟩
theorem Y_X8_put : Cond.code yX8_put cX8_put 2 (none) ∈ lw_g ∧ Cond.initialized yX8_put.cls ∈ lw_g ∧ (yX8_put.cls ≠ "java/lang/invoke/MethodHandle" ∧ yX8_put.cls ≠ "java/lang/invoke/VarHandle" ∧ (parseMethodDescriptor yX8_put.desc).map (fun d => d.parameters.length) = some 1) := ⟨lw_gin (List.mem_append_right _ (tb_5 (List.mem_of_getElem? (i := 36) rfl))) rfl, lw_gin (List.mem_append_right _ (tb_1 (List.mem_of_getElem? (i := 12) rfl))) rfl, by decide +kernel⟩
theorem I_X8_put : Cond.instanceMethod yX8_put ∈ lw_g ∧ Cond.selects yX8_put.cls yX8_put yX8_put ∈ lw_g := ⟨lw_gin (List.mem_append_right _ (tb_5 (List.mem_of_getElem? (i := 34) rfl))) rfl, lw_gin (List.mem_append_right _ (tb_5 (List.mem_of_getElem? (i := 35) rfl))) rfl⟩
theorem Y_X8_putName : Cond.code yX8_putName cX8_putName 5 (none) ∈ lw_g ∧ Cond.initialized yX8_putName.cls ∈ lw_g ∧ (yX8_putName.cls ≠ "java/lang/invoke/MethodHandle" ∧ yX8_putName.cls ≠ "java/lang/invoke/VarHandle" ∧ (parseMethodDescriptor yX8_putName.desc).map (fun d => d.parameters.length) = some 2) := ⟨lw_gin (List.mem_append_right _ (tb_5 (List.mem_of_getElem? (i := 40) rfl))) rfl, lw_gin (List.mem_append_right _ (tb_1 (List.mem_of_getElem? (i := 12) rfl))) rfl, by decide +kernel⟩
theorem I_X8_putName : Cond.instanceMethod yX8_putName ∈ lw_g ∧ Cond.selects yX8_putName.cls yX8_putName yX8_putName ∈ lw_g := ⟨lw_gin (List.mem_append_right _ (tb_5 (List.mem_of_getElem? (i := 38) rfl))) rfl, lw_gin (List.mem_append_right _ (tb_5 (List.mem_of_getElem? (i := 39) rfl))) rfl⟩
theorem Y_X9_init : Cond.code yX9_init cX9_init 3 (none) ∈ lw_g ∧ Cond.initialized yX9_init.cls ∈ lw_g ∧ (yX9_init.cls ≠ "java/lang/invoke/MethodHandle" ∧ yX9_init.cls ≠ "java/lang/invoke/VarHandle" ∧ (parseMethodDescriptor yX9_init.desc).map (fun d => d.parameters.length) = some 2) := ⟨lw_gin (List.mem_append_right _ (tb_2 (List.mem_of_getElem? (i := 144) rfl))) rfl, lw_gin (List.mem_append_right _ (tb_1 (List.mem_of_getElem? (i := 11) rfl))) rfl, by decide +kernel⟩
theorem I_X9_init : yX9_init.name = "<init>" ∧ Cond.instanceMethod yX9_init ∈ lw_g := ⟨rfl, lw_gin (List.mem_append_right _ (tb_2 (List.mem_of_getElem? (i := 143) rfl))) rfl⟩
theorem Y_X9_takesStack : Cond.code yX9_takesStack cX9_takesStack 5 (some .boolean) ∈ lw_g ∧ Cond.initialized yX9_takesStack.cls ∈ lw_g ∧ (yX9_takesStack.cls ≠ "java/lang/invoke/MethodHandle" ∧ yX9_takesStack.cls ≠ "java/lang/invoke/VarHandle" ∧ (parseMethodDescriptor yX9_takesStack.desc).map (fun d => d.parameters.length) = some 2) := ⟨lw_gin (List.mem_append_right _ (tb_5 (List.mem_of_getElem? (i := 17) rfl))) rfl, lw_gin (List.mem_append_right _ (tb_1 (List.mem_of_getElem? (i := 11) rfl))) rfl, by decide +kernel⟩
theorem I_X9_takesStack : Cond.instanceMethod yX9_takesStack ∈ lw_g ∧ Cond.selects yX9_takesStack.cls yX9_takesStack yX9_takesStack ∈ lw_g := ⟨lw_gin (List.mem_append_right _ (tb_5 (List.mem_of_getElem? (i := 16) rfl))) rfl, lw_gin (List.mem_append_left _ (List.mem_of_getElem? (i := 48) rfl)) rfl⟩
theorem Y_X9_addNode : Cond.code yX9_addNode cX9_addNode 7 (some .int) ∈ lw_g ∧ Cond.initialized yX9_addNode.cls ∈ lw_g ∧ (yX9_addNode.cls ≠ "java/lang/invoke/MethodHandle" ∧ yX9_addNode.cls ≠ "java/lang/invoke/VarHandle" ∧ (parseMethodDescriptor yX9_addNode.desc).map (fun d => d.parameters.length) = some 4) := ⟨lw_gin (List.mem_append_right _ (tb_5 (List.mem_of_getElem? (i := 22) rfl))) rfl, lw_gin (List.mem_append_right _ (tb_1 (List.mem_of_getElem? (i := 11) rfl))) rfl, by decide +kernel⟩
theorem I_X9_addNode : Cond.instanceMethod yX9_addNode ∈ lw_g ∧ Cond.selects yX9_addNode.cls yX9_addNode yX9_addNode ∈ lw_g := ⟨lw_gin (List.mem_append_right _ (tb_5 (List.mem_of_getElem? (i := 21) rfl))) rfl, lw_gin (List.mem_append_left _ (List.mem_of_getElem? (i := 49) rfl)) rfl⟩
theorem Y_X9_nodeOf : Cond.code yX9_nodeOf cX9_nodeOf 8 (some .int) ∈ lw_g ∧ Cond.initialized yX9_nodeOf.cls ∈ lw_g ∧ (yX9_nodeOf.cls ≠ "java/lang/invoke/MethodHandle" ∧ yX9_nodeOf.cls ≠ "java/lang/invoke/VarHandle" ∧ (parseMethodDescriptor yX9_nodeOf.desc).map (fun d => d.parameters.length) = some 3) := ⟨lw_gin (List.mem_append_right _ (tb_5 (List.mem_of_getElem? (i := 13) rfl))) rfl, lw_gin (List.mem_append_right _ (tb_1 (List.mem_of_getElem? (i := 11) rfl))) rfl, by decide +kernel⟩
theorem I_X9_nodeOf : Cond.instanceMethod yX9_nodeOf ∈ lw_g ∧ Cond.selects yX9_nodeOf.cls yX9_nodeOf yX9_nodeOf ∈ lw_g := ⟨lw_gin (List.mem_append_right _ (tb_5 (List.mem_of_getElem? (i := 12) rfl))) rfl, lw_gin (List.mem_append_left _ (List.mem_of_getElem? (i := 47) rfl)) rfl⟩
theorem Y_X9_plant : Cond.code yX9_plant cX9_plant 9 (none) ∈ lw_g ∧ Cond.initialized yX9_plant.cls ∈ lw_g ∧ (yX9_plant.cls ≠ "java/lang/invoke/MethodHandle" ∧ yX9_plant.cls ≠ "java/lang/invoke/VarHandle" ∧ (parseMethodDescriptor yX9_plant.desc).map (fun d => d.parameters.length) = some 2) := ⟨lw_gin (List.mem_append_right _ (tb_5 (List.mem_of_getElem? (i := 6) rfl))) rfl, lw_gin (List.mem_append_right _ (tb_1 (List.mem_of_getElem? (i := 11) rfl))) rfl, by decide +kernel⟩
theorem I_X9_plant : Cond.instanceMethod yX9_plant ∈ lw_g ∧ Cond.selects yX9_plant.cls yX9_plant yX9_plant ∈ lw_g := ⟨lw_gin (List.mem_append_right _ (tb_5 (List.mem_of_getElem? (i := 4) rfl))) rfl, lw_gin (List.mem_append_right _ (tb_5 (List.mem_of_getElem? (i := 5) rfl))) rfl⟩
theorem Y_X9_enter : Cond.code yX9_enter cX9_enter 2 (none) ∈ lw_g ∧ Cond.initialized yX9_enter.cls ∈ lw_g ∧ (yX9_enter.cls ≠ "java/lang/invoke/MethodHandle" ∧ yX9_enter.cls ≠ "java/lang/invoke/VarHandle" ∧ (parseMethodDescriptor yX9_enter.desc).map (fun d => d.parameters.length) = some 1) := ⟨lw_gin (List.mem_append_right _ (tb_5 (List.mem_of_getElem? (i := 54) rfl))) rfl, lw_gin (List.mem_append_right _ (tb_1 (List.mem_of_getElem? (i := 11) rfl))) rfl, by decide +kernel⟩
theorem I_X9_enter : Cond.instanceMethod yX9_enter ∈ lw_g ∧ Cond.selects yX9_enter.cls yX9_enter yX9_enter ∈ lw_g := ⟨lw_gin (List.mem_append_right _ (tb_5 (List.mem_of_getElem? (i := 53) rfl))) rfl, lw_gin (List.mem_append_left _ (List.mem_of_getElem? (i := 52) rfl)) rfl⟩
theorem Y_X9_enterRoot : Cond.code yX9_enterRoot cX9_enterRoot 1 (none) ∈ lw_g ∧ Cond.initialized yX9_enterRoot.cls ∈ lw_g ∧ (yX9_enterRoot.cls ≠ "java/lang/invoke/MethodHandle" ∧ yX9_enterRoot.cls ≠ "java/lang/invoke/VarHandle" ∧ (parseMethodDescriptor yX9_enterRoot.desc).map (fun d => d.parameters.length) = some 0) := ⟨lw_gin (List.mem_append_right _ (tb_5 (List.mem_of_getElem? (i := 50) rfl))) rfl, lw_gin (List.mem_append_right _ (tb_1 (List.mem_of_getElem? (i := 11) rfl))) rfl, by decide +kernel⟩
theorem I_X9_enterRoot : Cond.instanceMethod yX9_enterRoot ∈ lw_g ∧ Cond.selects yX9_enterRoot.cls yX9_enterRoot yX9_enterRoot ∈ lw_g := ⟨lw_gin (List.mem_append_right _ (tb_5 (List.mem_of_getElem? (i := 49) rfl))) rfl, lw_gin (List.mem_append_left _ (List.mem_of_getElem? (i := 51) rfl)) rfl⟩
theorem Y_X9_nextTaken : Cond.code yX9_nextTaken cX9_nextTaken 3 (some .int) ∈ lw_g ∧ Cond.initialized yX9_nextTaken.cls ∈ lw_g ∧ (yX9_nextTaken.cls ≠ "java/lang/invoke/MethodHandle" ∧ yX9_nextTaken.cls ≠ "java/lang/invoke/VarHandle" ∧ (parseMethodDescriptor yX9_nextTaken.desc).map (fun d => d.parameters.length) = some 0) := ⟨lw_gin (List.mem_append_right _ (tb_5 (List.mem_of_getElem? (i := 58) rfl))) rfl, lw_gin (List.mem_append_right _ (tb_1 (List.mem_of_getElem? (i := 11) rfl))) rfl, by decide +kernel⟩
theorem I_X9_nextTaken : Cond.instanceMethod yX9_nextTaken ∈ lw_g ∧ Cond.selects yX9_nextTaken.cls yX9_nextTaken yX9_nextTaken ∈ lw_g := ⟨lw_gin (List.mem_append_right _ (tb_5 (List.mem_of_getElem? (i := 57) rfl))) rfl, lw_gin (List.mem_append_left _ (List.mem_of_getElem? (i := 53) rfl)) rfl⟩
theorem Y_X9_writeOut : Cond.code yX9_writeOut cX9_writeOut 5 (some .boolean) ∈ lw_g ∧ Cond.initialized yX9_writeOut.cls ∈ lw_g ∧ (yX9_writeOut.cls ≠ "java/lang/invoke/MethodHandle" ∧ yX9_writeOut.cls ≠ "java/lang/invoke/VarHandle" ∧ (parseMethodDescriptor yX9_writeOut.desc).map (fun d => d.parameters.length) = some 1) := ⟨lw_gin (List.mem_append_right _ (tb_5 (List.mem_of_getElem? (i := 74) rfl))) rfl, lw_gin (List.mem_append_right _ (tb_1 (List.mem_of_getElem? (i := 11) rfl))) rfl, by decide +kernel⟩
theorem I_X9_writeOut : Cond.instanceMethod yX9_writeOut ∈ lw_g ∧ Cond.selects yX9_writeOut.cls yX9_writeOut yX9_writeOut ∈ lw_g := ⟨lw_gin (List.mem_append_right _ (tb_5 (List.mem_of_getElem? (i := 72) rfl))) rfl, lw_gin (List.mem_append_right _ (tb_5 (List.mem_of_getElem? (i := 73) rfl))) rfl⟩
theorem Y_X9_numberLabels : Cond.code yX9_numberLabels cX9_numberLabels 4 (none) ∈ lw_g ∧ Cond.initialized yX9_numberLabels.cls ∈ lw_g ∧ (yX9_numberLabels.cls ≠ "java/lang/invoke/MethodHandle" ∧ yX9_numberLabels.cls ≠ "java/lang/invoke/VarHandle" ∧ (parseMethodDescriptor yX9_numberLabels.desc).map (fun d => d.parameters.length) = some 1) := ⟨lw_gin (List.mem_append_right _ (tb_5 (List.mem_of_getElem? (i := 32) rfl))) rfl, lw_gin (List.mem_append_right _ (tb_1 (List.mem_of_getElem? (i := 11) rfl))) rfl, by decide +kernel⟩
theorem I_X9_numberLabels : Cond.instanceMethod yX9_numberLabels ∈ lw_g ∧ Cond.selects yX9_numberLabels.cls yX9_numberLabels yX9_numberLabels ∈ lw_g := ⟨lw_gin (List.mem_append_right _ (tb_5 (List.mem_of_getElem? (i := 31) rfl))) rfl, lw_gin (List.mem_append_left _ (List.mem_of_getElem? (i := 50) rfl)) rfl⟩
theorem Y_X9_putNumber : Cond.code yX9_putNumber cX9_putNumber 6 (none) ∈ lw_g ∧ Cond.initialized yX9_putNumber.cls ∈ lw_g ∧ (yX9_putNumber.cls ≠ "java/lang/invoke/MethodHandle" ∧ yX9_putNumber.cls ≠ "java/lang/invoke/VarHandle" ∧ (parseMethodDescriptor yX9_putNumber.desc).map (fun d => d.parameters.length) = some 2) := ⟨lw_gin (List.mem_append_right _ (tb_5 (List.mem_of_getElem? (i := 66) rfl))) rfl, lw_gin (List.mem_append_right _ (tb_1 (List.mem_of_getElem? (i := 11) rfl))) rfl, by decide +kernel⟩
theorem I_X9_putNumber : Cond.instanceMethod yX9_putNumber ∈ lw_g ∧ Cond.selects yX9_putNumber.cls yX9_putNumber yX9_putNumber ∈ lw_g := ⟨lw_gin (List.mem_append_right _ (tb_5 (List.mem_of_getElem? (i := 65) rfl))) rfl, lw_gin (List.mem_append_left _ (List.mem_of_getElem? (i := 55) rfl)) rfl⟩
theorem Y_X9_leave : Cond.code yX9_leave cX9_leave 3 (none) ∈ lw_g ∧ Cond.initialized yX9_leave.cls ∈ lw_g ∧ (yX9_leave.cls ≠ "java/lang/invoke/MethodHandle" ∧ yX9_leave.cls ≠ "java/lang/invoke/VarHandle" ∧ (parseMethodDescriptor yX9_leave.desc).map (fun d => d.parameters.length) = some 1) := ⟨lw_gin (List.mem_append_right _ (tb_5 (List.mem_of_getElem? (i := 62) rfl))) rfl, lw_gin (List.mem_append_right _ (tb_1 (List.mem_of_getElem? (i := 11) rfl))) rfl, by decide +kernel⟩
theorem I_X9_leave : Cond.instanceMethod yX9_leave ∈ lw_g ∧ Cond.selects yX9_leave.cls yX9_leave yX9_leave ∈ lw_g := ⟨lw_gin (List.mem_append_right _ (tb_5 (List.mem_of_getElem? (i := 61) rfl))) rfl, lw_gin (List.mem_append_left _ (List.mem_of_getElem? (i := 54) rfl)) rfl⟩
theorem Y_X9_compress : Cond.code yX9_compress cX9_compress 4 (none) ∈ lw_g ∧ Cond.initialized yX9_compress.cls ∈ lw_g ∧ (yX9_compress.cls ≠ "java/lang/invoke/MethodHandle" ∧ yX9_compress.cls ≠ "java/lang/invoke/VarHandle" ∧ (parseMethodDescriptor yX9_compress.desc).map (fun d => d.parameters.length) = some 1) := ⟨lw_gin (List.mem_append_right _ (tb_5 (List.mem_of_getElem? (i := 28) rfl))) rfl, lw_gin (List.mem_append_right _ (tb_1 (List.mem_of_getElem? (i := 11) rfl))) rfl, by decide +kernel⟩
theorem I_X9_compress : Cond.instanceMethod yX9_compress ∈ lw_g ∧ Cond.selects yX9_compress.cls yX9_compress yX9_compress ∈ lw_g := ⟨lw_gin (List.mem_append_right _ (tb_5 (List.mem_of_getElem? (i := 26) rfl))) rfl, lw_gin (List.mem_append_right _ (tb_5 (List.mem_of_getElem? (i := 27) rfl))) rfl⟩
theorem Y_X10_init : Cond.code yX10_init cX10_init 1 (none) ∈ lw_g ∧ Cond.initialized yX10_init.cls ∈ lw_g ∧ (yX10_init.cls ≠ "java/lang/invoke/MethodHandle" ∧ yX10_init.cls ≠ "java/lang/invoke/VarHandle" ∧ (parseMethodDescriptor yX10_init.desc).map (fun d => d.parameters.length) = some 0) := ⟨lw_gin (List.mem_append_right _ (tb_1 (List.mem_of_getElem? (i := 20) rfl))) rfl, lw_gin (List.mem_append_right _ (tb_1 (List.mem_of_getElem? (i := 1) rfl))) rfl, by decide +kernel⟩
theorem I_X10_init : yX10_init.name = "<init>" ∧ Cond.instanceMethod yX10_init ∈ lw_g := ⟨rfl, lw_gin (List.mem_append_right _ (tb_1 (List.mem_of_getElem? (i := 19) rfl))) rfl⟩
theorem Y_X10_bytesIn : Cond.code yX10_bytesIn cX10_bytesIn 4 (some .int) ∈ lw_g ∧ Cond.initialized yX10_bytesIn.cls ∈ lw_g ∧ (yX10_bytesIn.cls ≠ "java/lang/invoke/MethodHandle" ∧ yX10_bytesIn.cls ≠ "java/lang/invoke/VarHandle" ∧ (parseMethodDescriptor yX10_bytesIn.desc).map (fun d => d.parameters.length) = some 1) := ⟨lw_gin (List.mem_append_right _ (tb_3 (List.mem_of_getElem? (i := 19) rfl))) rfl, lw_gin (List.mem_append_right _ (tb_1 (List.mem_of_getElem? (i := 1) rfl))) rfl, by decide +kernel⟩
theorem I_X10_bytesIn : Cond.static yX10_bytesIn ∈ lw_g := lw_gin (List.mem_append_right _ (tb_3 (List.mem_of_getElem? (i := 18) rfl))) rfl
theorem Y_X10_append : Cond.code yX10_append cX10_append 5 (none) ∈ lw_g ∧ Cond.initialized yX10_append.cls ∈ lw_g ∧ (yX10_append.cls ≠ "java/lang/invoke/MethodHandle" ∧ yX10_append.cls ≠ "java/lang/invoke/VarHandle" ∧ (parseMethodDescriptor yX10_append.desc).map (fun d => d.parameters.length) = some 1) := ⟨lw_gin (List.mem_append_right _ (tb_3 (List.mem_of_getElem? (i := 24) rfl))) rfl, lw_gin (List.mem_append_right _ (tb_1 (List.mem_of_getElem? (i := 1) rfl))) rfl, by decide +kernel⟩
theorem I_X10_append : Cond.instanceMethod yX10_append ∈ lw_g ∧ Cond.selects yX10_append.cls yX10_append yX10_append ∈ lw_g := ⟨lw_gin (List.mem_append_right _ (tb_3 (List.mem_of_getElem? (i := 23) rfl))) rfl, lw_gin (List.mem_append_left _ (List.mem_of_getElem? (i := 0) rfl)) rfl⟩
theorem Y_X10_feed : Cond.code yX10_feed cX10_feed 6 (some .int) ∈ lw_g ∧ Cond.initialized yX10_feed.cls ∈ lw_g ∧ (yX10_feed.cls ≠ "java/lang/invoke/MethodHandle" ∧ yX10_feed.cls ≠ "java/lang/invoke/VarHandle" ∧ (parseMethodDescriptor yX10_feed.desc).map (fun d => d.parameters.length) = some 2) := ⟨lw_gin (List.mem_append_right _ (tb_3 (List.mem_of_getElem? (i := 16) rfl))) rfl, lw_gin (List.mem_append_right _ (tb_1 (List.mem_of_getElem? (i := 1) rfl))) rfl, by decide +kernel⟩
theorem I_X10_feed : Cond.instanceMethod yX10_feed ∈ lw_g ∧ Cond.selects yX10_feed.cls yX10_feed yX10_feed ∈ lw_g := ⟨lw_gin (List.mem_append_right _ (tb_3 (List.mem_of_getElem? (i := 14) rfl))) rfl, lw_gin (List.mem_append_right _ (tb_3 (List.mem_of_getElem? (i := 15) rfl))) rfl⟩
theorem Y_X10_forgetAnswers : Cond.code yX10_forgetAnswers cX10_forgetAnswers 1 (none) ∈ lw_g ∧ Cond.initialized yX10_forgetAnswers.cls ∈ lw_g ∧ (yX10_forgetAnswers.cls ≠ "java/lang/invoke/MethodHandle" ∧ yX10_forgetAnswers.cls ≠ "java/lang/invoke/VarHandle" ∧ (parseMethodDescriptor yX10_forgetAnswers.desc).map (fun d => d.parameters.length) = some 0) := ⟨lw_gin (List.mem_append_right _ (tb_3 (List.mem_of_getElem? (i := 32) rfl))) rfl, lw_gin (List.mem_append_right _ (tb_1 (List.mem_of_getElem? (i := 1) rfl))) rfl, by decide +kernel⟩
theorem I_X10_forgetAnswers : Cond.instanceMethod yX10_forgetAnswers ∈ lw_g ∧ Cond.selects yX10_forgetAnswers.cls yX10_forgetAnswers yX10_forgetAnswers ∈ lw_g := ⟨lw_gin (List.mem_append_right _ (tb_3 (List.mem_of_getElem? (i := 31) rfl))) rfl, lw_gin (List.mem_append_left _ (List.mem_of_getElem? (i := 1) rfl)) rfl⟩
theorem Y_X10_read : Cond.code yX10_read cX10_read 3 (some .int) ∈ lw_g ∧ Cond.initialized yX10_read.cls ∈ lw_g ∧ (yX10_read.cls ≠ "java/lang/invoke/MethodHandle" ∧ yX10_read.cls ≠ "java/lang/invoke/VarHandle" ∧ (parseMethodDescriptor yX10_read.desc).map (fun d => d.parameters.length) = some 0) := ⟨lw_gin (List.mem_append_right _ (tb_3 (List.mem_of_getElem? (i := 28) rfl))) rfl, lw_gin (List.mem_append_right _ (tb_1 (List.mem_of_getElem? (i := 1) rfl))) rfl, by decide +kernel⟩
theorem I_X10_read : Cond.instanceMethod yX10_read ∈ lw_g ∧ Cond.selects yX10_read.cls yX10_read yX10_read ∈ lw_g := ⟨lw_gin (List.mem_append_right _ (tb_3 (List.mem_of_getElem? (i := 26) rfl))) rfl, lw_gin (List.mem_append_right _ (tb_3 (List.mem_of_getElem? (i := 27) rfl))) rfl⟩
theorem Y_X10_place : Cond.code yX10_place cX10_place 1 (some .int) ∈ lw_g ∧ Cond.initialized yX10_place.cls ∈ lw_g ∧ (yX10_place.cls ≠ "java/lang/invoke/MethodHandle" ∧ yX10_place.cls ≠ "java/lang/invoke/VarHandle" ∧ (parseMethodDescriptor yX10_place.desc).map (fun d => d.parameters.length) = some 0) := ⟨lw_gin (List.mem_append_right _ (tb_4 (List.mem_of_getElem? (i := 36) rfl))) rfl, lw_gin (List.mem_append_right _ (tb_1 (List.mem_of_getElem? (i := 1) rfl))) rfl, by decide +kernel⟩
theorem I_X10_place : Cond.instanceMethod yX10_place ∈ lw_g ∧ Cond.selects yX10_place.cls yX10_place yX10_place ∈ lw_g := ⟨lw_gin (List.mem_append_right _ (tb_4 (List.mem_of_getElem? (i := 34) rfl))) rfl, lw_gin (List.mem_append_right _ (tb_4 (List.mem_of_getElem? (i := 35) rfl))) rfl⟩
theorem Y_X10_count : Cond.code yX10_count cX10_count 2 (some .int) ∈ lw_g ∧ Cond.initialized yX10_count.cls ∈ lw_g ∧ (yX10_count.cls ≠ "java/lang/invoke/MethodHandle" ∧ yX10_count.cls ≠ "java/lang/invoke/VarHandle" ∧ (parseMethodDescriptor yX10_count.desc).map (fun d => d.parameters.length) = some 1) := ⟨lw_gin (List.mem_append_right _ (tb_4 (List.mem_of_getElem? (i := 40) rfl))) rfl, lw_gin (List.mem_append_right _ (tb_1 (List.mem_of_getElem? (i := 1) rfl))) rfl, by decide +kernel⟩
theorem I_X10_count : Cond.instanceMethod yX10_count ∈ lw_g ∧ Cond.selects yX10_count.cls yX10_count yX10_count ∈ lw_g := ⟨lw_gin (List.mem_append_right _ (tb_4 (List.mem_of_getElem? (i := 38) rfl))) rfl, lw_gin (List.mem_append_right _ (tb_4 (List.mem_of_getElem? (i := 39) rfl))) rfl⟩
theorem Y_X10_statement : Cond.code yX10_statement cX10_statement 3 (some .int) ∈ lw_g ∧ Cond.initialized yX10_statement.cls ∈ lw_g ∧ (yX10_statement.cls ≠ "java/lang/invoke/MethodHandle" ∧ yX10_statement.cls ≠ "java/lang/invoke/VarHandle" ∧ (parseMethodDescriptor yX10_statement.desc).map (fun d => d.parameters.length) = some 2) := ⟨lw_gin (List.mem_append_right _ (tb_4 (List.mem_of_getElem? (i := 44) rfl))) rfl, lw_gin (List.mem_append_right _ (tb_1 (List.mem_of_getElem? (i := 1) rfl))) rfl, by decide +kernel⟩
theorem I_X10_statement : Cond.instanceMethod yX10_statement ∈ lw_g ∧ Cond.selects yX10_statement.cls yX10_statement yX10_statement ∈ lw_g := ⟨lw_gin (List.mem_append_right _ (tb_4 (List.mem_of_getElem? (i := 42) rfl))) rfl, lw_gin (List.mem_append_right _ (tb_4 (List.mem_of_getElem? (i := 43) rfl))) rfl⟩
theorem Y_X10_symbol : Cond.code yX10_symbol cX10_symbol 3 (some .int) ∈ lw_g ∧ Cond.initialized yX10_symbol.cls ∈ lw_g ∧ (yX10_symbol.cls ≠ "java/lang/invoke/MethodHandle" ∧ yX10_symbol.cls ≠ "java/lang/invoke/VarHandle" ∧ (parseMethodDescriptor yX10_symbol.desc).map (fun d => d.parameters.length) = some 2) := ⟨lw_gin (List.mem_append_right _ (tb_4 (List.mem_of_getElem? (i := 53) rfl))) rfl, lw_gin (List.mem_append_right _ (tb_1 (List.mem_of_getElem? (i := 1) rfl))) rfl, by decide +kernel⟩
theorem I_X10_symbol : Cond.instanceMethod yX10_symbol ∈ lw_g ∧ Cond.selects yX10_symbol.cls yX10_symbol yX10_symbol ∈ lw_g := ⟨lw_gin (List.mem_append_right _ (tb_4 (List.mem_of_getElem? (i := 51) rfl))) rfl, lw_gin (List.mem_append_right _ (tb_4 (List.mem_of_getElem? (i := 52) rfl))) rfl⟩
theorem Y_X10_name : Cond.code yX10_name cX10_name 4 (some .int) ∈ lw_g ∧ Cond.initialized yX10_name.cls ∈ lw_g ∧ (yX10_name.cls ≠ "java/lang/invoke/MethodHandle" ∧ yX10_name.cls ≠ "java/lang/invoke/VarHandle" ∧ (parseMethodDescriptor yX10_name.desc).map (fun d => d.parameters.length) = some 3) := ⟨lw_gin (List.mem_append_right _ (tb_4 (List.mem_of_getElem? (i := 58) rfl))) rfl, lw_gin (List.mem_append_right _ (tb_1 (List.mem_of_getElem? (i := 1) rfl))) rfl, by decide +kernel⟩
theorem I_X10_name : Cond.instanceMethod yX10_name ∈ lw_g ∧ Cond.selects yX10_name.cls yX10_name yX10_name ∈ lw_g := ⟨lw_gin (List.mem_append_right _ (tb_4 (List.mem_of_getElem? (i := 56) rfl))) rfl, lw_gin (List.mem_append_right _ (tb_4 (List.mem_of_getElem? (i := 57) rfl))) rfl⟩
theorem Y_X10_frame : Cond.code yX10_frame cX10_frame 6 (some .int) ∈ lw_g ∧ Cond.initialized yX10_frame.cls ∈ lw_g ∧ (yX10_frame.cls ≠ "java/lang/invoke/MethodHandle" ∧ yX10_frame.cls ≠ "java/lang/invoke/VarHandle" ∧ (parseMethodDescriptor yX10_frame.desc).map (fun d => d.parameters.length) = some 3) := ⟨lw_gin (List.mem_append_right _ (tb_4 (List.mem_of_getElem? (i := 66) rfl))) rfl, lw_gin (List.mem_append_right _ (tb_1 (List.mem_of_getElem? (i := 1) rfl))) rfl, by decide +kernel⟩
theorem I_X10_frame : Cond.instanceMethod yX10_frame ∈ lw_g ∧ Cond.selects yX10_frame.cls yX10_frame yX10_frame ∈ lw_g := ⟨lw_gin (List.mem_append_right _ (tb_4 (List.mem_of_getElem? (i := 64) rfl))) rfl, lw_gin (List.mem_append_right _ (tb_4 (List.mem_of_getElem? (i := 65) rfl))) rfl⟩
theorem Y_X10_examine : Cond.code yX10_examine cX10_examine 3 (some .int) ∈ lw_g ∧ Cond.initialized yX10_examine.cls ∈ lw_g ∧ (yX10_examine.cls ≠ "java/lang/invoke/MethodHandle" ∧ yX10_examine.cls ≠ "java/lang/invoke/VarHandle" ∧ (parseMethodDescriptor yX10_examine.desc).map (fun d => d.parameters.length) = some 1) := ⟨lw_gin (List.mem_append_right _ (tb_4 (List.mem_of_getElem? (i := 83) rfl))) rfl, lw_gin (List.mem_append_right _ (tb_1 (List.mem_of_getElem? (i := 1) rfl))) rfl, by decide +kernel⟩
theorem I_X10_examine : Cond.instanceMethod yX10_examine ∈ lw_g ∧ Cond.selects yX10_examine.cls yX10_examine yX10_examine ∈ lw_g := ⟨lw_gin (List.mem_append_right _ (tb_4 (List.mem_of_getElem? (i := 82) rfl))) rfl, lw_gin (List.mem_append_left _ (List.mem_of_getElem? (i := 23) rfl)) rfl⟩
theorem Y_X10_check : Cond.code yX10_check cX10_check 3 (some .int) ∈ lw_g ∧ Cond.initialized yX10_check.cls ∈ lw_g ∧ (yX10_check.cls ≠ "java/lang/invoke/MethodHandle" ∧ yX10_check.cls ≠ "java/lang/invoke/VarHandle" ∧ (parseMethodDescriptor yX10_check.desc).map (fun d => d.parameters.length) = some 1) := ⟨lw_gin (List.mem_append_right _ (tb_4 (List.mem_of_getElem? (i := 75) rfl))) rfl, lw_gin (List.mem_append_right _ (tb_1 (List.mem_of_getElem? (i := 1) rfl))) rfl, by decide +kernel⟩
theorem I_X10_check : Cond.instanceMethod yX10_check ∈ lw_g ∧ Cond.selects yX10_check.cls yX10_check yX10_check ∈ lw_g := ⟨lw_gin (List.mem_append_right _ (tb_4 (List.mem_of_getElem? (i := 73) rfl))) rfl, lw_gin (List.mem_append_right _ (tb_4 (List.mem_of_getElem? (i := 74) rfl))) rfl⟩
theorem Y_X10_step : Cond.code yX10_step cX10_step 1 (some .int) ∈ lw_g ∧ Cond.initialized yX10_step.cls ∈ lw_g ∧ (yX10_step.cls ≠ "java/lang/invoke/MethodHandle" ∧ yX10_step.cls ≠ "java/lang/invoke/VarHandle" ∧ (parseMethodDescriptor yX10_step.desc).map (fun d => d.parameters.length) = some 0) := ⟨lw_gin (List.mem_append_right _ (tb_4 (List.mem_of_getElem? (i := 225) rfl))) rfl, lw_gin (List.mem_append_right _ (tb_1 (List.mem_of_getElem? (i := 1) rfl))) rfl, by decide +kernel⟩
theorem I_X10_step : Cond.instanceMethod yX10_step ∈ lw_g ∧ Cond.selects yX10_step.cls yX10_step yX10_step ∈ lw_g := ⟨lw_gin (List.mem_append_right _ (tb_4 (List.mem_of_getElem? (i := 223) rfl))) rfl, lw_gin (List.mem_append_right _ (tb_4 (List.mem_of_getElem? (i := 224) rfl))) rfl⟩
theorem Y_X10_trace : Cond.code yX10_trace cX10_trace 4 (some .int) ∈ lw_g ∧ Cond.initialized yX10_trace.cls ∈ lw_g ∧ (yX10_trace.cls ≠ "java/lang/invoke/MethodHandle" ∧ yX10_trace.cls ≠ "java/lang/invoke/VarHandle" ∧ (parseMethodDescriptor yX10_trace.desc).map (fun d => d.parameters.length) = some 2) := ⟨lw_gin (List.mem_append_right _ (tb_4 (List.mem_of_getElem? (i := 229) rfl))) rfl, lw_gin (List.mem_append_right _ (tb_1 (List.mem_of_getElem? (i := 1) rfl))) rfl, by decide +kernel⟩
theorem I_X10_trace : Cond.instanceMethod yX10_trace ∈ lw_g ∧ Cond.selects yX10_trace.cls yX10_trace yX10_trace ∈ lw_g := ⟨lw_gin (List.mem_append_right _ (tb_4 (List.mem_of_getElem? (i := 227) rfl))) rfl, lw_gin (List.mem_append_right _ (tb_4 (List.mem_of_getElem? (i := 228) rfl))) rfl⟩
theorem Y_X10_thing : Cond.code yX10_thing cX10_thing 5 (some .int) ∈ lw_g ∧ Cond.initialized yX10_thing.cls ∈ lw_g ∧ (yX10_thing.cls ≠ "java/lang/invoke/MethodHandle" ∧ yX10_thing.cls ≠ "java/lang/invoke/VarHandle" ∧ (parseMethodDescriptor yX10_thing.desc).map (fun d => d.parameters.length) = some 2) := ⟨lw_gin (List.mem_append_right _ (tb_4 (List.mem_of_getElem? (i := 234) rfl))) rfl, lw_gin (List.mem_append_right _ (tb_1 (List.mem_of_getElem? (i := 1) rfl))) rfl, by decide +kernel⟩
theorem I_X10_thing : Cond.instanceMethod yX10_thing ∈ lw_g ∧ Cond.selects yX10_thing.cls yX10_thing yX10_thing ∈ lw_g := ⟨lw_gin (List.mem_append_right _ (tb_4 (List.mem_of_getElem? (i := 232) rfl))) rfl, lw_gin (List.mem_append_right _ (tb_4 (List.mem_of_getElem? (i := 233) rfl))) rfl⟩
theorem Y_X10_publish : Cond.code yX10_publish cX10_publish 2 (some .int) ∈ lw_g ∧ Cond.initialized yX10_publish.cls ∈ lw_g ∧ (yX10_publish.cls ≠ "java/lang/invoke/MethodHandle" ∧ yX10_publish.cls ≠ "java/lang/invoke/VarHandle" ∧ (parseMethodDescriptor yX10_publish.desc).map (fun d => d.parameters.length) = some 0) := ⟨lw_gin (List.mem_append_right _ (tb_5 (List.mem_of_getElem? (i := 70) rfl))) rfl, lw_gin (List.mem_append_right _ (tb_1 (List.mem_of_getElem? (i := 1) rfl))) rfl, by decide +kernel⟩
theorem I_X10_publish : Cond.instanceMethod yX10_publish ∈ lw_g ∧ Cond.selects yX10_publish.cls yX10_publish yX10_publish ∈ lw_g := ⟨lw_gin (List.mem_append_right _ (tb_5 (List.mem_of_getElem? (i := 69) rfl))) rfl, lw_gin (List.mem_append_left _ (List.mem_of_getElem? (i := 56) rfl)) rfl⟩
theorem Y_X10_tell : Cond.code yX10_tell cX10_tell 3 (some .int) ∈ lw_g ∧ Cond.initialized yX10_tell.cls ∈ lw_g ∧ (yX10_tell.cls ≠ "java/lang/invoke/MethodHandle" ∧ yX10_tell.cls ≠ "java/lang/invoke/VarHandle" ∧ (parseMethodDescriptor yX10_tell.desc).map (fun d => d.parameters.length) = some 2) := ⟨lw_gin (List.mem_append_right _ (tb_4 (List.mem_of_getElem? (i := 238) rfl))) rfl, lw_gin (List.mem_append_right _ (tb_1 (List.mem_of_getElem? (i := 1) rfl))) rfl, by decide +kernel⟩
theorem I_X10_tell : Cond.instanceMethod yX10_tell ∈ lw_g ∧ Cond.selects yX10_tell.cls yX10_tell yX10_tell ∈ lw_g := ⟨lw_gin (List.mem_append_right _ (tb_4 (List.mem_of_getElem? (i := 236) rfl))) rfl, lw_gin (List.mem_append_right _ (tb_4 (List.mem_of_getElem? (i := 237) rfl))) rfl⟩
theorem Y_X10_keywordOf : Cond.code yX10_keywordOf cX10_keywordOf 1 (some .int) ∈ lw_g ∧ Cond.initialized yX10_keywordOf.cls ∈ lw_g ∧ (yX10_keywordOf.cls ≠ "java/lang/invoke/MethodHandle" ∧ yX10_keywordOf.cls ≠ "java/lang/invoke/VarHandle" ∧ (parseMethodDescriptor yX10_keywordOf.desc).map (fun d => d.parameters.length) = some 1) := ⟨lw_gin (List.mem_append_right _ (tb_5 (List.mem_of_getElem? (i := 87) rfl))) rfl, lw_gin (List.mem_append_right _ (tb_1 (List.mem_of_getElem? (i := 1) rfl))) rfl, by decide +kernel⟩
theorem I_X10_keywordOf : Cond.static yX10_keywordOf ∈ lw_g := lw_gin (List.mem_append_right _ (tb_5 (List.mem_of_getElem? (i := 86) rfl))) rfl
theorem Y_X10_writeStatement : Cond.code yX10_writeStatement cX10_writeStatement 5 (none) ∈ lw_g ∧ Cond.initialized yX10_writeStatement.cls ∈ lw_g ∧ (yX10_writeStatement.cls ≠ "java/lang/invoke/MethodHandle" ∧ yX10_writeStatement.cls ≠ "java/lang/invoke/VarHandle" ∧ (parseMethodDescriptor yX10_writeStatement.desc).map (fun d => d.parameters.length) = some 2) := ⟨lw_gin (List.mem_append_right _ (tb_5 (List.mem_of_getElem? (i := 82) rfl))) rfl, lw_gin (List.mem_append_right _ (tb_1 (List.mem_of_getElem? (i := 1) rfl))) rfl, by decide +kernel⟩
theorem I_X10_writeStatement : Cond.instanceMethod yX10_writeStatement ∈ lw_g ∧ Cond.selects yX10_writeStatement.cls yX10_writeStatement yX10_writeStatement ∈ lw_g := ⟨lw_gin (List.mem_append_right _ (tb_5 (List.mem_of_getElem? (i := 81) rfl))) rfl, lw_gin (List.mem_append_left _ (List.mem_of_getElem? (i := 57) rfl)) rfl⟩
theorem Y_X10_print : Cond.code yX10_print cX10_print 2 (some .int) ∈ lw_g ∧ Cond.initialized yX10_print.cls ∈ lw_g ∧ (yX10_print.cls ≠ "java/lang/invoke/MethodHandle" ∧ yX10_print.cls ≠ "java/lang/invoke/VarHandle" ∧ (parseMethodDescriptor yX10_print.desc).map (fun d => d.parameters.length) = some 1) := ⟨lw_gin (List.mem_append_right _ (tb_5 (List.mem_of_getElem? (i := 78) rfl))) rfl, lw_gin (List.mem_append_right _ (tb_1 (List.mem_of_getElem? (i := 1) rfl))) rfl, by decide +kernel⟩
theorem I_X10_print : Cond.instanceMethod yX10_print ∈ lw_g ∧ Cond.selects yX10_print.cls yX10_print yX10_print ∈ lw_g := ⟨lw_gin (List.mem_append_right _ (tb_5 (List.mem_of_getElem? (i := 76) rfl))) rfl, lw_gin (List.mem_append_right _ (tb_5 (List.mem_of_getElem? (i := 77) rfl))) rfl⟩
theorem Y_X10_out : Cond.code yX10_out cX10_out 2 (some .int) ∈ lw_g ∧ Cond.initialized yX10_out.cls ∈ lw_g ∧ (yX10_out.cls ≠ "java/lang/invoke/MethodHandle" ∧ yX10_out.cls ≠ "java/lang/invoke/VarHandle" ∧ (parseMethodDescriptor yX10_out.desc).map (fun d => d.parameters.length) = some 1) := ⟨lw_gin (List.mem_append_right _ (tb_5 (List.mem_of_getElem? (i := 91) rfl))) rfl, lw_gin (List.mem_append_right _ (tb_1 (List.mem_of_getElem? (i := 1) rfl))) rfl, by decide +kernel⟩
theorem I_X10_out : Cond.instanceMethod yX10_out ∈ lw_g ∧ Cond.selects yX10_out.cls yX10_out yX10_out ∈ lw_g := ⟨lw_gin (List.mem_append_right _ (tb_5 (List.mem_of_getElem? (i := 89) rfl))) rfl, lw_gin (List.mem_append_right _ (tb_5 (List.mem_of_getElem? (i := 90) rfl))) rfl⟩
theorem Y_X10_rests : Cond.code yX10_rests cX10_rests 3 (some .int) ∈ lw_g ∧ Cond.initialized yX10_rests.cls ∈ lw_g ∧ (yX10_rests.cls ≠ "java/lang/invoke/MethodHandle" ∧ yX10_rests.cls ≠ "java/lang/invoke/VarHandle" ∧ (parseMethodDescriptor yX10_rests.desc).map (fun d => d.parameters.length) = some 2) := ⟨lw_gin (List.mem_append_right _ (tb_5 (List.mem_of_getElem? (i := 95) rfl))) rfl, lw_gin (List.mem_append_right _ (tb_1 (List.mem_of_getElem? (i := 1) rfl))) rfl, by decide +kernel⟩
theorem I_X10_rests : Cond.instanceMethod yX10_rests ∈ lw_g ∧ Cond.selects yX10_rests.cls yX10_rests yX10_rests ∈ lw_g := ⟨lw_gin (List.mem_append_right _ (tb_5 (List.mem_of_getElem? (i := 93) rfl))) rfl, lw_gin (List.mem_append_right _ (tb_5 (List.mem_of_getElem? (i := 94) rfl))) rfl⟩
theorem Y_X10_find : Cond.code yX10_find cX10_find 2 (some .int) ∈ lw_g ∧ Cond.initialized yX10_find.cls ∈ lw_g ∧ (yX10_find.cls ≠ "java/lang/invoke/MethodHandle" ∧ yX10_find.cls ≠ "java/lang/invoke/VarHandle" ∧ (parseMethodDescriptor yX10_find.desc).map (fun d => d.parameters.length) = some 0) := ⟨lw_gin (List.mem_append_right _ (tb_5 (List.mem_of_getElem? (i := 103) rfl))) rfl, lw_gin (List.mem_append_right _ (tb_1 (List.mem_of_getElem? (i := 1) rfl))) rfl, by decide +kernel⟩
theorem I_X10_find : Cond.instanceMethod yX10_find ∈ lw_g ∧ Cond.selects yX10_find.cls yX10_find yX10_find ∈ lw_g := ⟨lw_gin (List.mem_append_right _ (tb_5 (List.mem_of_getElem? (i := 101) rfl))) rfl, lw_gin (List.mem_append_right _ (tb_5 (List.mem_of_getElem? (i := 102) rfl))) rfl⟩
theorem Y_X11_init : Cond.code yX11_init cX11_init 1 (none) ∈ lw_g ∧ Cond.initialized yX11_init.cls ∈ lw_g ∧ (yX11_init.cls ≠ "java/lang/invoke/MethodHandle" ∧ yX11_init.cls ≠ "java/lang/invoke/VarHandle" ∧ (parseMethodDescriptor yX11_init.desc).map (fun d => d.parameters.length) = some 0) := ⟨lw_gin (List.mem_append_right _ (tb_5 (List.mem_of_getElem? (i := 109) rfl))) rfl, lw_gin (List.mem_append_right _ (tb_1 (List.mem_of_getElem? (i := 13) rfl))) rfl, by decide +kernel⟩
theorem I_X11_init : yX11_init.name = "<init>" ∧ Cond.instanceMethod yX11_init ∈ lw_g := ⟨rfl, lw_gin (List.mem_append_right _ (tb_5 (List.mem_of_getElem? (i := 108) rfl))) rfl⟩
theorem Y_X11_byteOf : Cond.code yX11_byteOf cX11_byteOf 7 (some .int) ∈ lw_g ∧ Cond.initialized yX11_byteOf.cls ∈ lw_g ∧ (yX11_byteOf.cls ≠ "java/lang/invoke/MethodHandle" ∧ yX11_byteOf.cls ≠ "java/lang/invoke/VarHandle" ∧ (parseMethodDescriptor yX11_byteOf.desc).map (fun d => d.parameters.length) = some 3) := ⟨lw_gin (List.mem_append_right _ (tb_6 (List.mem_of_getElem? (i := 138) rfl))) rfl, lw_gin (List.mem_append_right _ (tb_1 (List.mem_of_getElem? (i := 13) rfl))) rfl, by decide +kernel⟩
theorem I_X11_byteOf : Cond.static yX11_byteOf ∈ lw_g := lw_gin (List.mem_append_right _ (tb_6 (List.mem_of_getElem? (i := 137) rfl))) rfl
theorem Y_X11_feed : Cond.code yX11_feed cX11_feed 8 (some .int) ∈ lw_g ∧ Cond.initialized yX11_feed.cls ∈ lw_g ∧ (yX11_feed.cls ≠ "java/lang/invoke/MethodHandle" ∧ yX11_feed.cls ≠ "java/lang/invoke/VarHandle" ∧ (parseMethodDescriptor yX11_feed.desc).map (fun d => d.parameters.length) = some 2) := ⟨lw_gin (List.mem_append_right _ (tb_6 (List.mem_of_getElem? (i := 135) rfl))) rfl, lw_gin (List.mem_append_right _ (tb_1 (List.mem_of_getElem? (i := 13) rfl))) rfl, by decide +kernel⟩
theorem I_X11_feed : Cond.instanceMethod yX11_feed ∈ lw_g ∧ Cond.selects yX11_feed.cls yX11_feed yX11_feed ∈ lw_g := ⟨lw_gin (List.mem_append_right _ (tb_6 (List.mem_of_getElem? (i := 133) rfl))) rfl, lw_gin (List.mem_append_right _ (tb_6 (List.mem_of_getElem? (i := 134) rfl))) rfl⟩
theorem Y_X11_isBlank : Cond.code yX11_isBlank cX11_isBlank 1 (some .boolean) ∈ lw_g ∧ Cond.initialized yX11_isBlank.cls ∈ lw_g ∧ (yX11_isBlank.cls ≠ "java/lang/invoke/MethodHandle" ∧ yX11_isBlank.cls ≠ "java/lang/invoke/VarHandle" ∧ (parseMethodDescriptor yX11_isBlank.desc).map (fun d => d.parameters.length) = some 1) := ⟨lw_gin (List.mem_append_right _ (tb_6 (List.mem_of_getElem? (i := 158) rfl))) rfl, lw_gin (List.mem_append_right _ (tb_1 (List.mem_of_getElem? (i := 13) rfl))) rfl, by decide +kernel⟩
theorem I_X11_isBlank : Cond.static yX11_isBlank ∈ lw_g := lw_gin (List.mem_append_right _ (tb_6 (List.mem_of_getElem? (i := 157) rfl))) rfl
theorem Y_X11_nextToken : Cond.code yX11_nextToken cX11_nextToken 1 (some .boolean) ∈ lw_g ∧ Cond.initialized yX11_nextToken.cls ∈ lw_g ∧ (yX11_nextToken.cls ≠ "java/lang/invoke/MethodHandle" ∧ yX11_nextToken.cls ≠ "java/lang/invoke/VarHandle" ∧ (parseMethodDescriptor yX11_nextToken.desc).map (fun d => d.parameters.length) = some 0) := ⟨lw_gin (List.mem_append_right _ (tb_6 (List.mem_of_getElem? (i := 155) rfl))) rfl, lw_gin (List.mem_append_right _ (tb_1 (List.mem_of_getElem? (i := 13) rfl))) rfl, by decide +kernel⟩
theorem I_X11_nextToken : Cond.instanceMethod yX11_nextToken ∈ lw_g ∧ Cond.selects yX11_nextToken.cls yX11_nextToken yX11_nextToken ∈ lw_g := ⟨lw_gin (List.mem_append_right _ (tb_6 (List.mem_of_getElem? (i := 154) rfl))) rfl, lw_gin (List.mem_append_left _ (List.mem_of_getElem? (i := 60) rfl)) rfl⟩
theorem Y_X11_hasBad : Cond.code yX11_hasBad cX11_hasBad 3 (some .boolean) ∈ lw_g ∧ Cond.initialized yX11_hasBad.cls ∈ lw_g ∧ (yX11_hasBad.cls ≠ "java/lang/invoke/MethodHandle" ∧ yX11_hasBad.cls ≠ "java/lang/invoke/VarHandle" ∧ (parseMethodDescriptor yX11_hasBad.desc).map (fun d => d.parameters.length) = some 0) := ⟨lw_gin (List.mem_append_right _ (tb_6 (List.mem_of_getElem? (i := 162) rfl))) rfl, lw_gin (List.mem_append_right _ (tb_1 (List.mem_of_getElem? (i := 13) rfl))) rfl, by decide +kernel⟩
theorem I_X11_hasBad : Cond.instanceMethod yX11_hasBad ∈ lw_g ∧ Cond.selects yX11_hasBad.cls yX11_hasBad yX11_hasBad ∈ lw_g := ⟨lw_gin (List.mem_append_right _ (tb_6 (List.mem_of_getElem? (i := 161) rfl))) rfl, lw_gin (List.mem_append_left _ (List.mem_of_getElem? (i := 61) rfl)) rfl⟩
theorem Y_X11_hasDollar : Cond.code yX11_hasDollar cX11_hasDollar 3 (some .boolean) ∈ lw_g ∧ Cond.initialized yX11_hasDollar.cls ∈ lw_g ∧ (yX11_hasDollar.cls ≠ "java/lang/invoke/MethodHandle" ∧ yX11_hasDollar.cls ≠ "java/lang/invoke/VarHandle" ∧ (parseMethodDescriptor yX11_hasDollar.desc).map (fun d => d.parameters.length) = some 0) := ⟨lw_gin (List.mem_append_right _ (tb_6 (List.mem_of_getElem? (i := 174) rfl))) rfl, lw_gin (List.mem_append_right _ (tb_1 (List.mem_of_getElem? (i := 13) rfl))) rfl, by decide +kernel⟩
theorem I_X11_hasDollar : Cond.instanceMethod yX11_hasDollar ∈ lw_g ∧ Cond.selects yX11_hasDollar.cls yX11_hasDollar yX11_hasDollar ∈ lw_g := ⟨lw_gin (List.mem_append_right _ (tb_6 (List.mem_of_getElem? (i := 173) rfl))) rfl, lw_gin (List.mem_append_left _ (List.mem_of_getElem? (i := 64) rfl)) rfl⟩
theorem Y_X11_hasPart : Cond.code yX11_hasPart cX11_hasPart 4 (some .boolean) ∈ lw_g ∧ Cond.initialized yX11_hasPart.cls ∈ lw_g ∧ (yX11_hasPart.cls ≠ "java/lang/invoke/MethodHandle" ∧ yX11_hasPart.cls ≠ "java/lang/invoke/VarHandle" ∧ (parseMethodDescriptor yX11_hasPart.desc).map (fun d => d.parameters.length) = some 1) := ⟨lw_gin (List.mem_append_right _ (tb_6 (List.mem_of_getElem? (i := 170) rfl))) rfl, lw_gin (List.mem_append_right _ (tb_1 (List.mem_of_getElem? (i := 13) rfl))) rfl, by decide +kernel⟩
theorem I_X11_hasPart : Cond.instanceMethod yX11_hasPart ∈ lw_g ∧ Cond.selects yX11_hasPart.cls yX11_hasPart yX11_hasPart ∈ lw_g := ⟨lw_gin (List.mem_append_right _ (tb_6 (List.mem_of_getElem? (i := 169) rfl))) rfl, lw_gin (List.mem_append_left _ (List.mem_of_getElem? (i := 63) rfl)) rfl⟩
theorem Y_X11_isWord : Cond.code yX11_isWord cX11_isWord 2 (some .boolean) ∈ lw_g ∧ Cond.initialized yX11_isWord.cls ∈ lw_g ∧ (yX11_isWord.cls ≠ "java/lang/invoke/MethodHandle" ∧ yX11_isWord.cls ≠ "java/lang/invoke/VarHandle" ∧ (parseMethodDescriptor yX11_isWord.desc).map (fun d => d.parameters.length) = some 1) := ⟨lw_gin (List.mem_append_right _ (tb_6 (List.mem_of_getElem? (i := 166) rfl))) rfl, lw_gin (List.mem_append_right _ (tb_1 (List.mem_of_getElem? (i := 13) rfl))) rfl, by decide +kernel⟩
theorem I_X11_isWord : Cond.instanceMethod yX11_isWord ∈ lw_g ∧ Cond.selects yX11_isWord.cls yX11_isWord yX11_isWord ∈ lw_g := ⟨lw_gin (List.mem_append_right _ (tb_6 (List.mem_of_getElem? (i := 165) rfl))) rfl, lw_gin (List.mem_append_left _ (List.mem_of_getElem? (i := 62) rfl)) rfl⟩
theorem Y_X11_isKeyword : Cond.code yX11_isKeyword cX11_isKeyword 1 (some .boolean) ∈ lw_g ∧ Cond.initialized yX11_isKeyword.cls ∈ lw_g ∧ (yX11_isKeyword.cls ≠ "java/lang/invoke/MethodHandle" ∧ yX11_isKeyword.cls ≠ "java/lang/invoke/VarHandle" ∧ (parseMethodDescriptor yX11_isKeyword.desc).map (fun d => d.parameters.length) = some 0) := ⟨lw_gin (List.mem_append_right _ (tb_6 (List.mem_of_getElem? (i := 178) rfl))) rfl, lw_gin (List.mem_append_right _ (tb_1 (List.mem_of_getElem? (i := 13) rfl))) rfl, by decide +kernel⟩
theorem I_X11_isKeyword : Cond.instanceMethod yX11_isKeyword ∈ lw_g ∧ Cond.selects yX11_isKeyword.cls yX11_isKeyword yX11_isKeyword ∈ lw_g := ⟨lw_gin (List.mem_append_right _ (tb_6 (List.mem_of_getElem? (i := 177) rfl))) rfl, lw_gin (List.mem_append_left _ (List.mem_of_getElem? (i := 65) rfl)) rfl⟩
theorem Y_X11_isLabel : Cond.code yX11_isLabel cX11_isLabel 5 (some .boolean) ∈ lw_g ∧ Cond.initialized yX11_isLabel.cls ∈ lw_g ∧ (yX11_isLabel.cls ≠ "java/lang/invoke/MethodHandle" ∧ yX11_isLabel.cls ≠ "java/lang/invoke/VarHandle" ∧ (parseMethodDescriptor yX11_isLabel.desc).map (fun d => d.parameters.length) = some 0) := ⟨lw_gin (List.mem_append_right _ (tb_6 (List.mem_of_getElem? (i := 194) rfl))) rfl, lw_gin (List.mem_append_right _ (tb_1 (List.mem_of_getElem? (i := 13) rfl))) rfl, by decide +kernel⟩
theorem I_X11_isLabel : Cond.instanceMethod yX11_isLabel ∈ lw_g ∧ Cond.selects yX11_isLabel.cls yX11_isLabel yX11_isLabel ∈ lw_g := ⟨lw_gin (List.mem_append_right _ (tb_6 (List.mem_of_getElem? (i := 193) rfl))) rfl, lw_gin (List.mem_append_left _ (List.mem_of_getElem? (i := 69) rfl)) rfl⟩
theorem Y_X11_same : Cond.code yX11_same cX11_same 5 (some .boolean) ∈ lw_g ∧ Cond.initialized yX11_same.cls ∈ lw_g ∧ (yX11_same.cls ≠ "java/lang/invoke/MethodHandle" ∧ yX11_same.cls ≠ "java/lang/invoke/VarHandle" ∧ (parseMethodDescriptor yX11_same.desc).map (fun d => d.parameters.length) = some 2) := ⟨lw_gin (List.mem_append_right _ (tb_6 (List.mem_of_getElem? (i := 202) rfl))) rfl, lw_gin (List.mem_append_right _ (tb_1 (List.mem_of_getElem? (i := 13) rfl))) rfl, by decide +kernel⟩
theorem I_X11_same : Cond.instanceMethod yX11_same ∈ lw_g ∧ Cond.selects yX11_same.cls yX11_same yX11_same ∈ lw_g := ⟨lw_gin (List.mem_append_right _ (tb_6 (List.mem_of_getElem? (i := 201) rfl))) rfl, lw_gin (List.mem_append_left _ (List.mem_of_getElem? (i := 71) rfl)) rfl⟩
theorem Y_X11_symbolHere : Cond.code yX11_symbolHere cX11_symbolHere 2 (some .int) ∈ lw_g ∧ Cond.initialized yX11_symbolHere.cls ∈ lw_g ∧ (yX11_symbolHere.cls ≠ "java/lang/invoke/MethodHandle" ∧ yX11_symbolHere.cls ≠ "java/lang/invoke/VarHandle" ∧ (parseMethodDescriptor yX11_symbolHere.desc).map (fun d => d.parameters.length) = some 0) := ⟨lw_gin (List.mem_append_right _ (tb_6 (List.mem_of_getElem? (i := 206) rfl))) rfl, lw_gin (List.mem_append_right _ (tb_1 (List.mem_of_getElem? (i := 13) rfl))) rfl, by decide +kernel⟩
theorem I_X11_symbolHere : Cond.instanceMethod yX11_symbolHere ∈ lw_g ∧ Cond.selects yX11_symbolHere.cls yX11_symbolHere yX11_symbolHere ∈ lw_g := ⟨lw_gin (List.mem_append_right _ (tb_6 (List.mem_of_getElem? (i := 205) rfl))) rfl, lw_gin (List.mem_append_left _ (List.mem_of_getElem? (i := 72) rfl)) rfl⟩
theorem Y_X11_labelHere : Cond.code yX11_labelHere cX11_labelHere 2 (some .int) ∈ lw_g ∧ Cond.initialized yX11_labelHere.cls ∈ lw_g ∧ (yX11_labelHere.cls ≠ "java/lang/invoke/MethodHandle" ∧ yX11_labelHere.cls ≠ "java/lang/invoke/VarHandle" ∧ (parseMethodDescriptor yX11_labelHere.desc).map (fun d => d.parameters.length) = some 0) := ⟨lw_gin (List.mem_append_right _ (tb_6 (List.mem_of_getElem? (i := 198) rfl))) rfl, lw_gin (List.mem_append_right _ (tb_1 (List.mem_of_getElem? (i := 13) rfl))) rfl, by decide +kernel⟩
theorem I_X11_labelHere : Cond.instanceMethod yX11_labelHere ∈ lw_g ∧ Cond.selects yX11_labelHere.cls yX11_labelHere yX11_labelHere ∈ lw_g := ⟨lw_gin (List.mem_append_right _ (tb_6 (List.mem_of_getElem? (i := 197) rfl))) rfl, lw_gin (List.mem_append_left _ (List.mem_of_getElem? (i := 70) rfl)) rfl⟩
theorem Y_X11_beginBook : Cond.code yX11_beginBook cX11_beginBook 2 (none) ∈ lw_g ∧ Cond.initialized yX11_beginBook.cls ∈ lw_g ∧ (yX11_beginBook.cls ≠ "java/lang/invoke/MethodHandle" ∧ yX11_beginBook.cls ≠ "java/lang/invoke/VarHandle" ∧ (parseMethodDescriptor yX11_beginBook.desc).map (fun d => d.parameters.length) = some 0) := ⟨lw_gin (List.mem_append_right _ (tb_6 (List.mem_of_getElem? (i := 151) rfl))) rfl, lw_gin (List.mem_append_right _ (tb_1 (List.mem_of_getElem? (i := 13) rfl))) rfl, by decide +kernel⟩
theorem I_X11_beginBook : Cond.instanceMethod yX11_beginBook ∈ lw_g ∧ Cond.selects yX11_beginBook.cls yX11_beginBook yX11_beginBook ∈ lw_g := ⟨lw_gin (List.mem_append_right _ (tb_6 (List.mem_of_getElem? (i := 150) rfl))) rfl, lw_gin (List.mem_append_left _ (List.mem_of_getElem? (i := 59) rfl)) rfl⟩
theorem Y_X11_closeBlock : Cond.code yX11_closeBlock cX11_closeBlock 3 (none) ∈ lw_g ∧ Cond.initialized yX11_closeBlock.cls ∈ lw_g ∧ (yX11_closeBlock.cls ≠ "java/lang/invoke/MethodHandle" ∧ yX11_closeBlock.cls ≠ "java/lang/invoke/VarHandle" ∧ (parseMethodDescriptor yX11_closeBlock.desc).map (fun d => d.parameters.length) = some 0) := ⟨lw_gin (List.mem_append_right _ (tb_6 (List.mem_of_getElem? (i := 190) rfl))) rfl, lw_gin (List.mem_append_right _ (tb_1 (List.mem_of_getElem? (i := 13) rfl))) rfl, by decide +kernel⟩
theorem I_X11_closeBlock : Cond.instanceMethod yX11_closeBlock ∈ lw_g ∧ Cond.selects yX11_closeBlock.cls yX11_closeBlock yX11_closeBlock ∈ lw_g := ⟨lw_gin (List.mem_append_right _ (tb_6 (List.mem_of_getElem? (i := 189) rfl))) rfl, lw_gin (List.mem_append_left _ (List.mem_of_getElem? (i := 68) rfl)) rfl⟩
theorem Y_X11_outside : Cond.code yX11_outside cX11_outside 2 (some .int) ∈ lw_g ∧ Cond.initialized yX11_outside.cls ∈ lw_g ∧ (yX11_outside.cls ≠ "java/lang/invoke/MethodHandle" ∧ yX11_outside.cls ≠ "java/lang/invoke/VarHandle" ∧ (parseMethodDescriptor yX11_outside.desc).map (fun d => d.parameters.length) = some 0) := ⟨lw_gin (List.mem_append_right _ (tb_6 (List.mem_of_getElem? (i := 186) rfl))) rfl, lw_gin (List.mem_append_right _ (tb_1 (List.mem_of_getElem? (i := 13) rfl))) rfl, by decide +kernel⟩
theorem I_X11_outside : Cond.instanceMethod yX11_outside ∈ lw_g ∧ Cond.selects yX11_outside.cls yX11_outside yX11_outside ∈ lw_g := ⟨lw_gin (List.mem_append_right _ (tb_6 (List.mem_of_getElem? (i := 185) rfl))) rfl, lw_gin (List.mem_append_left _ (List.mem_of_getElem? (i := 67) rfl)) rfl⟩
theorem Y_X11_kindOf : Cond.code yX11_kindOf cX11_kindOf 3 (some .int) ∈ lw_g ∧ Cond.initialized yX11_kindOf.cls ∈ lw_g ∧ (yX11_kindOf.cls ≠ "java/lang/invoke/MethodHandle" ∧ yX11_kindOf.cls ≠ "java/lang/invoke/VarHandle" ∧ (parseMethodDescriptor yX11_kindOf.desc).map (fun d => d.parameters.length) = some 0) := ⟨lw_gin (List.mem_append_right _ (tb_6 (List.mem_of_getElem? (i := 210) rfl))) rfl, lw_gin (List.mem_append_right _ (tb_1 (List.mem_of_getElem? (i := 13) rfl))) rfl, by decide +kernel⟩
theorem I_X11_kindOf : Cond.instanceMethod yX11_kindOf ∈ lw_g ∧ Cond.selects yX11_kindOf.cls yX11_kindOf yX11_kindOf ∈ lw_g := ⟨lw_gin (List.mem_append_right _ (tb_6 (List.mem_of_getElem? (i := 209) rfl))) rfl, lw_gin (List.mem_append_left _ (List.mem_of_getElem? (i := 73) rfl)) rfl⟩
theorem Y_X11_declared : Cond.code yX11_declared cX11_declared 4 (some .int) ∈ lw_g ∧ Cond.initialized yX11_declared.cls ∈ lw_g ∧ (yX11_declared.cls ≠ "java/lang/invoke/MethodHandle" ∧ yX11_declared.cls ≠ "java/lang/invoke/VarHandle" ∧ (parseMethodDescriptor yX11_declared.desc).map (fun d => d.parameters.length) = some 0) := ⟨lw_gin (List.mem_append_right _ (tb_6 (List.mem_of_getElem? (i := 214) rfl))) rfl, lw_gin (List.mem_append_right _ (tb_1 (List.mem_of_getElem? (i := 13) rfl))) rfl, by decide +kernel⟩
theorem I_X11_declared : Cond.instanceMethod yX11_declared ∈ lw_g ∧ Cond.selects yX11_declared.cls yX11_declared yX11_declared ∈ lw_g := ⟨lw_gin (List.mem_append_right _ (tb_6 (List.mem_of_getElem? (i := 213) rfl))) rfl, lw_gin (List.mem_append_left _ (List.mem_of_getElem? (i := 74) rfl)) rfl⟩
theorem Y_X11_isOpenPair : Cond.code yX11_isOpenPair cX11_isOpenPair 5 (some .boolean) ∈ lw_g ∧ Cond.initialized yX11_isOpenPair.cls ∈ lw_g ∧ (yX11_isOpenPair.cls ≠ "java/lang/invoke/MethodHandle" ∧ yX11_isOpenPair.cls ≠ "java/lang/invoke/VarHandle" ∧ (parseMethodDescriptor yX11_isOpenPair.desc).map (fun d => d.parameters.length) = some 2) := ⟨lw_gin (List.mem_append_right _ (tb_6 (List.mem_of_getElem? (i := 222) rfl))) rfl, lw_gin (List.mem_append_right _ (tb_1 (List.mem_of_getElem? (i := 13) rfl))) rfl, by decide +kernel⟩
theorem I_X11_isOpenPair : Cond.instanceMethod yX11_isOpenPair ∈ lw_g ∧ Cond.selects yX11_isOpenPair.cls yX11_isOpenPair yX11_isOpenPair ∈ lw_g := ⟨lw_gin (List.mem_append_right _ (tb_6 (List.mem_of_getElem? (i := 221) rfl))) rfl, lw_gin (List.mem_append_left _ (List.mem_of_getElem? (i := 76) rfl)) rfl⟩
theorem Y_X11_openPair : Cond.code yX11_openPair cX11_openPair 4 (none) ∈ lw_g ∧ Cond.initialized yX11_openPair.cls ∈ lw_g ∧ (yX11_openPair.cls ≠ "java/lang/invoke/MethodHandle" ∧ yX11_openPair.cls ≠ "java/lang/invoke/VarHandle" ∧ (parseMethodDescriptor yX11_openPair.desc).map (fun d => d.parameters.length) = some 2) := ⟨lw_gin (List.mem_append_right _ (tb_6 (List.mem_of_getElem? (i := 226) rfl))) rfl, lw_gin (List.mem_append_right _ (tb_1 (List.mem_of_getElem? (i := 13) rfl))) rfl, by decide +kernel⟩
theorem I_X11_openPair : Cond.instanceMethod yX11_openPair ∈ lw_g ∧ Cond.selects yX11_openPair.cls yX11_openPair yX11_openPair ∈ lw_g := ⟨lw_gin (List.mem_append_right _ (tb_6 (List.mem_of_getElem? (i := 225) rfl))) rfl, lw_gin (List.mem_append_left _ (List.mem_of_getElem? (i := 77) rfl)) rfl⟩
theorem Y_X11_distinct : Cond.code yX11_distinct cX11_distinct 5 (some .int) ∈ lw_g ∧ Cond.initialized yX11_distinct.cls ∈ lw_g ∧ (yX11_distinct.cls ≠ "java/lang/invoke/MethodHandle" ∧ yX11_distinct.cls ≠ "java/lang/invoke/VarHandle" ∧ (parseMethodDescriptor yX11_distinct.desc).map (fun d => d.parameters.length) = some 0) := ⟨lw_gin (List.mem_append_right _ (tb_6 (List.mem_of_getElem? (i := 218) rfl))) rfl, lw_gin (List.mem_append_right _ (tb_1 (List.mem_of_getElem? (i := 13) rfl))) rfl, by decide +kernel⟩
theorem I_X11_distinct : Cond.instanceMethod yX11_distinct ∈ lw_g ∧ Cond.selects yX11_distinct.cls yX11_distinct yX11_distinct ∈ lw_g := ⟨lw_gin (List.mem_append_right _ (tb_6 (List.mem_of_getElem? (i := 217) rfl))) rfl, lw_gin (List.mem_append_left _ (List.mem_of_getElem? (i := 75) rfl)) rfl⟩
theorem Y_X11_needs : Cond.code yX11_needs cX11_needs 6 (none) ∈ lw_g ∧ Cond.initialized yX11_needs.cls ∈ lw_g ∧ (yX11_needs.cls ≠ "java/lang/invoke/MethodHandle" ∧ yX11_needs.cls ≠ "java/lang/invoke/VarHandle" ∧ (parseMethodDescriptor yX11_needs.desc).map (fun d => d.parameters.length) = some 2) := ⟨lw_gin (List.mem_append_right _ (tb_7 (List.mem_of_getElem? (i := 2) rfl))) rfl, lw_gin (List.mem_append_right _ (tb_1 (List.mem_of_getElem? (i := 13) rfl))) rfl, by decide +kernel⟩
theorem I_X11_needs : Cond.instanceMethod yX11_needs ∈ lw_g ∧ Cond.selects yX11_needs.cls yX11_needs yX11_needs ∈ lw_g := ⟨lw_gin (List.mem_append_right _ (tb_7 (List.mem_of_getElem? (i := 1) rfl))) rfl, lw_gin (List.mem_append_left _ (List.mem_of_getElem? (i := 81) rfl)) rfl⟩
theorem Y_X11_frameOf : Cond.code yX11_frameOf cX11_frameOf 4 (none) ∈ lw_g ∧ Cond.initialized yX11_frameOf.cls ∈ lw_g ∧ (yX11_frameOf.cls ≠ "java/lang/invoke/MethodHandle" ∧ yX11_frameOf.cls ≠ "java/lang/invoke/VarHandle" ∧ (parseMethodDescriptor yX11_frameOf.desc).map (fun d => d.parameters.length) = some 1) := ⟨lw_gin (List.mem_append_right _ (tb_6 (List.mem_of_getElem? (i := 238) rfl))) rfl, lw_gin (List.mem_append_right _ (tb_1 (List.mem_of_getElem? (i := 13) rfl))) rfl, by decide +kernel⟩
theorem I_X11_frameOf : Cond.instanceMethod yX11_frameOf ∈ lw_g ∧ Cond.selects yX11_frameOf.cls yX11_frameOf yX11_frameOf ∈ lw_g := ⟨lw_gin (List.mem_append_right _ (tb_6 (List.mem_of_getElem? (i := 237) rfl))) rfl, lw_gin (List.mem_append_left _ (List.mem_of_getElem? (i := 80) rfl)) rfl⟩
theorem Y_X11_endStatement : Cond.code yX11_endStatement cX11_endStatement 4 (none) ∈ lw_g ∧ Cond.initialized yX11_endStatement.cls ∈ lw_g ∧ (yX11_endStatement.cls ≠ "java/lang/invoke/MethodHandle" ∧ yX11_endStatement.cls ≠ "java/lang/invoke/VarHandle" ∧ (parseMethodDescriptor yX11_endStatement.desc).map (fun d => d.parameters.length) = some 0) := ⟨lw_gin (List.mem_append_right _ (tb_6 (List.mem_of_getElem? (i := 234) rfl))) rfl, lw_gin (List.mem_append_right _ (tb_1 (List.mem_of_getElem? (i := 13) rfl))) rfl, by decide +kernel⟩
theorem I_X11_endStatement : Cond.instanceMethod yX11_endStatement ∈ lw_g ∧ Cond.selects yX11_endStatement.cls yX11_endStatement yX11_endStatement ∈ lw_g := ⟨lw_gin (List.mem_append_right _ (tb_6 (List.mem_of_getElem? (i := 233) rfl))) rfl, lw_gin (List.mem_append_left _ (List.mem_of_getElem? (i := 79) rfl)) rfl⟩
theorem Y_X11_isConstant : Cond.code yX11_isConstant cX11_isConstant 2 (some .boolean) ∈ lw_g ∧ Cond.initialized yX11_isConstant.cls ∈ lw_g ∧ (yX11_isConstant.cls ≠ "java/lang/invoke/MethodHandle" ∧ yX11_isConstant.cls ≠ "java/lang/invoke/VarHandle" ∧ (parseMethodDescriptor yX11_isConstant.desc).map (fun d => d.parameters.length) = some 1) := ⟨lw_gin (List.mem_append_right _ (tb_7 (List.mem_of_getElem? (i := 6) rfl))) rfl, lw_gin (List.mem_append_right _ (tb_1 (List.mem_of_getElem? (i := 13) rfl))) rfl, by decide +kernel⟩
theorem I_X11_isConstant : Cond.instanceMethod yX11_isConstant ∈ lw_g ∧ Cond.selects yX11_isConstant.cls yX11_isConstant yX11_isConstant ∈ lw_g := ⟨lw_gin (List.mem_append_right _ (tb_7 (List.mem_of_getElem? (i := 5) rfl))) rfl, lw_gin (List.mem_append_left _ (List.mem_of_getElem? (i := 82) rfl)) rfl⟩
theorem Y_X11_takeSymbol : Cond.code yX11_takeSymbol cX11_takeSymbol 3 (none) ∈ lw_g ∧ Cond.initialized yX11_takeSymbol.cls ∈ lw_g ∧ (yX11_takeSymbol.cls ≠ "java/lang/invoke/MethodHandle" ∧ yX11_takeSymbol.cls ≠ "java/lang/invoke/VarHandle" ∧ (parseMethodDescriptor yX11_takeSymbol.desc).map (fun d => d.parameters.length) = some 1) := ⟨lw_gin (List.mem_append_right _ (tb_7 (List.mem_of_getElem? (i := 10) rfl))) rfl, lw_gin (List.mem_append_right _ (tb_1 (List.mem_of_getElem? (i := 13) rfl))) rfl, by decide +kernel⟩
theorem I_X11_takeSymbol : Cond.instanceMethod yX11_takeSymbol ∈ lw_g ∧ Cond.selects yX11_takeSymbol.cls yX11_takeSymbol yX11_takeSymbol ∈ lw_g := ⟨lw_gin (List.mem_append_right _ (tb_7 (List.mem_of_getElem? (i := 9) rfl))) rfl, lw_gin (List.mem_append_left _ (List.mem_of_getElem? (i := 83) rfl)) rfl⟩
theorem Y_X11_typed : Cond.code yX11_typed cX11_typed 3 (some .int) ∈ lw_g ∧ Cond.initialized yX11_typed.cls ∈ lw_g ∧ (yX11_typed.cls ≠ "java/lang/invoke/MethodHandle" ∧ yX11_typed.cls ≠ "java/lang/invoke/VarHandle" ∧ (parseMethodDescriptor yX11_typed.desc).map (fun d => d.parameters.length) = some 0) := ⟨lw_gin (List.mem_append_right _ (tb_6 (List.mem_of_getElem? (i := 230) rfl))) rfl, lw_gin (List.mem_append_right _ (tb_1 (List.mem_of_getElem? (i := 13) rfl))) rfl, by decide +kernel⟩
theorem I_X11_typed : Cond.instanceMethod yX11_typed ∈ lw_g ∧ Cond.selects yX11_typed.cls yX11_typed yX11_typed ∈ lw_g := ⟨lw_gin (List.mem_append_right _ (tb_6 (List.mem_of_getElem? (i := 229) rfl))) rfl, lw_gin (List.mem_append_left _ (List.mem_of_getElem? (i := 78) rfl)) rfl⟩
theorem Y_X11_formula : Cond.code yX11_formula cX11_formula 4 (some .int) ∈ lw_g ∧ Cond.initialized yX11_formula.cls ∈ lw_g ∧ (yX11_formula.cls ≠ "java/lang/invoke/MethodHandle" ∧ yX11_formula.cls ≠ "java/lang/invoke/VarHandle" ∧ (parseMethodDescriptor yX11_formula.desc).map (fun d => d.parameters.length) = some 0) := ⟨lw_gin (List.mem_append_right _ (tb_7 (List.mem_of_getElem? (i := 14) rfl))) rfl, lw_gin (List.mem_append_right _ (tb_1 (List.mem_of_getElem? (i := 13) rfl))) rfl, by decide +kernel⟩
theorem I_X11_formula : Cond.instanceMethod yX11_formula ∈ lw_g ∧ Cond.selects yX11_formula.cls yX11_formula yX11_formula ∈ lw_g := ⟨lw_gin (List.mem_append_right _ (tb_7 (List.mem_of_getElem? (i := 13) rfl))) rfl, lw_gin (List.mem_append_left _ (List.mem_of_getElem? (i := 84) rfl)) rfl⟩
theorem Y_X11_proof : Cond.code yX11_proof cX11_proof 2 (some .int) ∈ lw_g ∧ Cond.initialized yX11_proof.cls ∈ lw_g ∧ (yX11_proof.cls ≠ "java/lang/invoke/MethodHandle" ∧ yX11_proof.cls ≠ "java/lang/invoke/VarHandle" ∧ (parseMethodDescriptor yX11_proof.desc).map (fun d => d.parameters.length) = some 0) := ⟨lw_gin (List.mem_append_right _ (tb_7 (List.mem_of_getElem? (i := 18) rfl))) rfl, lw_gin (List.mem_append_right _ (tb_1 (List.mem_of_getElem? (i := 13) rfl))) rfl, by decide +kernel⟩
theorem I_X11_proof : Cond.instanceMethod yX11_proof ∈ lw_g ∧ Cond.selects yX11_proof.cls yX11_proof yX11_proof ∈ lw_g := ⟨lw_gin (List.mem_append_right _ (tb_7 (List.mem_of_getElem? (i := 17) rfl))) rfl, lw_gin (List.mem_append_left _ (List.mem_of_getElem? (i := 85) rfl)) rfl⟩
theorem Y_X11_token : Cond.code yX11_token cX11_token 1 (some .int) ∈ lw_g ∧ Cond.initialized yX11_token.cls ∈ lw_g ∧ (yX11_token.cls ≠ "java/lang/invoke/MethodHandle" ∧ yX11_token.cls ≠ "java/lang/invoke/VarHandle" ∧ (parseMethodDescriptor yX11_token.desc).map (fun d => d.parameters.length) = some 0) := ⟨lw_gin (List.mem_append_right _ (tb_6 (List.mem_of_getElem? (i := 182) rfl))) rfl, lw_gin (List.mem_append_right _ (tb_1 (List.mem_of_getElem? (i := 13) rfl))) rfl, by decide +kernel⟩
theorem I_X11_token : Cond.instanceMethod yX11_token ∈ lw_g ∧ Cond.selects yX11_token.cls yX11_token yX11_token ∈ lw_g := ⟨lw_gin (List.mem_append_right _ (tb_6 (List.mem_of_getElem? (i := 181) rfl))) rfl, lw_gin (List.mem_append_left _ (List.mem_of_getElem? (i := 66) rfl)) rfl⟩
theorem Y_X11_readBook : Cond.code yX11_readBook cX11_readBook 3 (some .int) ∈ lw_g ∧ Cond.initialized yX11_readBook.cls ∈ lw_g ∧ (yX11_readBook.cls ≠ "java/lang/invoke/MethodHandle" ∧ yX11_readBook.cls ≠ "java/lang/invoke/VarHandle" ∧ (parseMethodDescriptor yX11_readBook.desc).map (fun d => d.parameters.length) = some 0) := ⟨lw_gin (List.mem_append_right _ (tb_6 (List.mem_of_getElem? (i := 147) rfl))) rfl, lw_gin (List.mem_append_right _ (tb_1 (List.mem_of_getElem? (i := 13) rfl))) rfl, by decide +kernel⟩
theorem I_X11_readBook : Cond.instanceMethod yX11_readBook ∈ lw_g ∧ Cond.selects yX11_readBook.cls yX11_readBook yX11_readBook ∈ lw_g := ⟨lw_gin (List.mem_append_right _ (tb_6 (List.mem_of_getElem? (i := 146) rfl))) rfl, lw_gin (List.mem_append_left _ (List.mem_of_getElem? (i := 58) rfl)) rfl⟩
theorem Y_X11_forgetWork : Cond.code yX11_forgetWork cX11_forgetWork 1 (none) ∈ lw_g ∧ Cond.initialized yX11_forgetWork.cls ∈ lw_g ∧ (yX11_forgetWork.cls ≠ "java/lang/invoke/MethodHandle" ∧ yX11_forgetWork.cls ≠ "java/lang/invoke/VarHandle" ∧ (parseMethodDescriptor yX11_forgetWork.desc).map (fun d => d.parameters.length) = some 0) := ⟨lw_gin (List.mem_append_right _ (tb_7 (List.mem_of_getElem? (i := 22) rfl))) rfl, lw_gin (List.mem_append_right _ (tb_1 (List.mem_of_getElem? (i := 13) rfl))) rfl, by decide +kernel⟩
theorem I_X11_forgetWork : Cond.instanceMethod yX11_forgetWork ∈ lw_g ∧ Cond.selects yX11_forgetWork.cls yX11_forgetWork yX11_forgetWork ∈ lw_g := ⟨lw_gin (List.mem_append_right _ (tb_7 (List.mem_of_getElem? (i := 21) rfl))) rfl, lw_gin (List.mem_append_left _ (List.mem_of_getElem? (i := 86) rfl)) rfl⟩
theorem Y_X11_read : Cond.code yX11_read cX11_read 3 (some .int) ∈ lw_g ∧ Cond.initialized yX11_read.cls ∈ lw_g ∧ (yX11_read.cls ≠ "java/lang/invoke/MethodHandle" ∧ yX11_read.cls ≠ "java/lang/invoke/VarHandle" ∧ (parseMethodDescriptor yX11_read.desc).map (fun d => d.parameters.length) = some 0) := ⟨lw_gin (List.mem_append_right _ (tb_6 (List.mem_of_getElem? (i := 143) rfl))) rfl, lw_gin (List.mem_append_right _ (tb_1 (List.mem_of_getElem? (i := 13) rfl))) rfl, by decide +kernel⟩
theorem I_X11_read : Cond.instanceMethod yX11_read ∈ lw_g ∧ Cond.selects yX11_read.cls yX11_read yX11_read ∈ lw_g := ⟨lw_gin (List.mem_append_right _ (tb_6 (List.mem_of_getElem? (i := 141) rfl))) rfl, lw_gin (List.mem_append_right _ (tb_6 (List.mem_of_getElem? (i := 142) rfl))) rfl⟩
theorem Y_X11_place : Cond.code yX11_place cX11_place 1 (some .int) ∈ lw_g ∧ Cond.initialized yX11_place.cls ∈ lw_g ∧ (yX11_place.cls ≠ "java/lang/invoke/MethodHandle" ∧ yX11_place.cls ≠ "java/lang/invoke/VarHandle" ∧ (parseMethodDescriptor yX11_place.desc).map (fun d => d.parameters.length) = some 0) := ⟨lw_gin (List.mem_append_right _ (tb_7 (List.mem_of_getElem? (i := 26) rfl))) rfl, lw_gin (List.mem_append_right _ (tb_1 (List.mem_of_getElem? (i := 13) rfl))) rfl, by decide +kernel⟩
theorem I_X11_place : Cond.instanceMethod yX11_place ∈ lw_g ∧ Cond.selects yX11_place.cls yX11_place yX11_place ∈ lw_g := ⟨lw_gin (List.mem_append_right _ (tb_7 (List.mem_of_getElem? (i := 24) rfl))) rfl, lw_gin (List.mem_append_right _ (tb_7 (List.mem_of_getElem? (i := 25) rfl))) rfl⟩
theorem Y_X11_isStatement : Cond.code yX11_isStatement cX11_isStatement 2 (some .boolean) ∈ lw_g ∧ Cond.initialized yX11_isStatement.cls ∈ lw_g ∧ (yX11_isStatement.cls ≠ "java/lang/invoke/MethodHandle" ∧ yX11_isStatement.cls ≠ "java/lang/invoke/VarHandle" ∧ (parseMethodDescriptor yX11_isStatement.desc).map (fun d => d.parameters.length) = some 1) := ⟨lw_gin (List.mem_append_right _ (tb_7 (List.mem_of_getElem? (i := 38) rfl))) rfl, lw_gin (List.mem_append_right _ (tb_1 (List.mem_of_getElem? (i := 13) rfl))) rfl, by decide +kernel⟩
theorem I_X11_isStatement : Cond.instanceMethod yX11_isStatement ∈ lw_g ∧ Cond.selects yX11_isStatement.cls yX11_isStatement yX11_isStatement ∈ lw_g := ⟨lw_gin (List.mem_append_right _ (tb_7 (List.mem_of_getElem? (i := 37) rfl))) rfl, lw_gin (List.mem_append_left _ (List.mem_of_getElem? (i := 87) rfl)) rfl⟩
theorem Y_X11_at : Cond.code yX11_at cX11_at 2 (some .int) ∈ lw_g ∧ Cond.initialized yX11_at.cls ∈ lw_g ∧ (yX11_at.cls ≠ "java/lang/invoke/MethodHandle" ∧ yX11_at.cls ≠ "java/lang/invoke/VarHandle" ∧ (parseMethodDescriptor yX11_at.desc).map (fun d => d.parameters.length) = some 1) := ⟨lw_gin (List.mem_append_right _ (tb_7 (List.mem_of_getElem? (i := 42) rfl))) rfl, lw_gin (List.mem_append_right _ (tb_1 (List.mem_of_getElem? (i := 13) rfl))) rfl, by decide +kernel⟩
theorem I_X11_at : Cond.instanceMethod yX11_at ∈ lw_g ∧ Cond.selects yX11_at.cls yX11_at yX11_at ∈ lw_g := ⟨lw_gin (List.mem_append_right _ (tb_7 (List.mem_of_getElem? (i := 41) rfl))) rfl, lw_gin (List.mem_append_left _ (List.mem_of_getElem? (i := 88) rfl)) rfl⟩
theorem Y_X11_isBit : Cond.code yX11_isBit cX11_isBit 4 (some .boolean) ∈ lw_g ∧ Cond.initialized yX11_isBit.cls ∈ lw_g ∧ (yX11_isBit.cls ≠ "java/lang/invoke/MethodHandle" ∧ yX11_isBit.cls ≠ "java/lang/invoke/VarHandle" ∧ (parseMethodDescriptor yX11_isBit.desc).map (fun d => d.parameters.length) = some 3) := ⟨lw_gin (List.mem_append_right _ (tb_7 (List.mem_of_getElem? (i := 50) rfl))) rfl, lw_gin (List.mem_append_right _ (tb_1 (List.mem_of_getElem? (i := 13) rfl))) rfl, by decide +kernel⟩
theorem I_X11_isBit : Cond.instanceMethod yX11_isBit ∈ lw_g ∧ Cond.selects yX11_isBit.cls yX11_isBit yX11_isBit ∈ lw_g := ⟨lw_gin (List.mem_append_right _ (tb_7 (List.mem_of_getElem? (i := 49) rfl))) rfl, lw_gin (List.mem_append_left _ (List.mem_of_getElem? (i := 90) rfl)) rfl⟩
theorem Y_X11_isKind : Cond.code yX11_isKind cX11_isKind 3 (some .boolean) ∈ lw_g ∧ Cond.initialized yX11_isKind.cls ∈ lw_g ∧ (yX11_isKind.cls ≠ "java/lang/invoke/MethodHandle" ∧ yX11_isKind.cls ≠ "java/lang/invoke/VarHandle" ∧ (parseMethodDescriptor yX11_isKind.desc).map (fun d => d.parameters.length) = some 2) := ⟨lw_gin (List.mem_append_right _ (tb_7 (List.mem_of_getElem? (i := 82) rfl))) rfl, lw_gin (List.mem_append_right _ (tb_1 (List.mem_of_getElem? (i := 13) rfl))) rfl, by decide +kernel⟩
theorem I_X11_isKind : Cond.instanceMethod yX11_isKind ∈ lw_g ∧ Cond.selects yX11_isKind.cls yX11_isKind yX11_isKind ∈ lw_g := ⟨lw_gin (List.mem_append_right _ (tb_7 (List.mem_of_getElem? (i := 81) rfl))) rfl, lw_gin (List.mem_append_left _ (List.mem_of_getElem? (i := 95) rfl)) rfl⟩
theorem Y_X11_hypotheses : Cond.code yX11_hypotheses cX11_hypotheses 4 (some .int) ∈ lw_g ∧ Cond.initialized yX11_hypotheses.cls ∈ lw_g ∧ (yX11_hypotheses.cls ≠ "java/lang/invoke/MethodHandle" ∧ yX11_hypotheses.cls ≠ "java/lang/invoke/VarHandle" ∧ (parseMethodDescriptor yX11_hypotheses.desc).map (fun d => d.parameters.length) = some 1) := ⟨lw_gin (List.mem_append_right _ (tb_7 (List.mem_of_getElem? (i := 46) rfl))) rfl, lw_gin (List.mem_append_right _ (tb_1 (List.mem_of_getElem? (i := 13) rfl))) rfl, by decide +kernel⟩
theorem I_X11_hypotheses : Cond.instanceMethod yX11_hypotheses ∈ lw_g ∧ Cond.selects yX11_hypotheses.cls yX11_hypotheses yX11_hypotheses ∈ lw_g := ⟨lw_gin (List.mem_append_right _ (tb_7 (List.mem_of_getElem? (i := 45) rfl))) rfl, lw_gin (List.mem_append_left _ (List.mem_of_getElem? (i := 89) rfl)) rfl⟩
theorem Y_X11_hypothesis : Cond.code yX11_hypothesis cX11_hypothesis 5 (some .int) ∈ lw_g ∧ Cond.initialized yX11_hypothesis.cls ∈ lw_g ∧ (yX11_hypothesis.cls ≠ "java/lang/invoke/MethodHandle" ∧ yX11_hypothesis.cls ≠ "java/lang/invoke/VarHandle" ∧ (parseMethodDescriptor yX11_hypothesis.desc).map (fun d => d.parameters.length) = some 2) := ⟨lw_gin (List.mem_append_right _ (tb_7 (List.mem_of_getElem? (i := 86) rfl))) rfl, lw_gin (List.mem_append_right _ (tb_1 (List.mem_of_getElem? (i := 13) rfl))) rfl, by decide +kernel⟩
theorem I_X11_hypothesis : Cond.instanceMethod yX11_hypothesis ∈ lw_g ∧ Cond.selects yX11_hypothesis.cls yX11_hypothesis yX11_hypothesis ∈ lw_g := ⟨lw_gin (List.mem_append_right _ (tb_7 (List.mem_of_getElem? (i := 85) rfl))) rfl, lw_gin (List.mem_append_left _ (List.mem_of_getElem? (i := 96) rfl)) rfl⟩
theorem Y_X11_isPairAt : Cond.code yX11_isPairAt cX11_isPairAt 3 (some .boolean) ∈ lw_g ∧ Cond.initialized yX11_isPairAt.cls ∈ lw_g ∧ (yX11_isPairAt.cls ≠ "java/lang/invoke/MethodHandle" ∧ yX11_isPairAt.cls ≠ "java/lang/invoke/VarHandle" ∧ (parseMethodDescriptor yX11_isPairAt.desc).map (fun d => d.parameters.length) = some 2) := ⟨lw_gin (List.mem_append_right _ (tb_7 (List.mem_of_getElem? (i := 66) rfl))) rfl, lw_gin (List.mem_append_right _ (tb_1 (List.mem_of_getElem? (i := 13) rfl))) rfl, by decide +kernel⟩
theorem I_X11_isPairAt : Cond.instanceMethod yX11_isPairAt ∈ lw_g ∧ Cond.selects yX11_isPairAt.cls yX11_isPairAt yX11_isPairAt ∈ lw_g := ⟨lw_gin (List.mem_append_right _ (tb_7 (List.mem_of_getElem? (i := 65) rfl))) rfl, lw_gin (List.mem_append_left _ (List.mem_of_getElem? (i := 94) rfl)) rfl⟩
theorem Y_X11_apart : Cond.code yX11_apart cX11_apart 8 (some .boolean) ∈ lw_g ∧ Cond.initialized yX11_apart.cls ∈ lw_g ∧ (yX11_apart.cls ≠ "java/lang/invoke/MethodHandle" ∧ yX11_apart.cls ≠ "java/lang/invoke/VarHandle" ∧ (parseMethodDescriptor yX11_apart.desc).map (fun d => d.parameters.length) = some 3) := ⟨lw_gin (List.mem_append_right _ (tb_7 (List.mem_of_getElem? (i := 62) rfl))) rfl, lw_gin (List.mem_append_right _ (tb_1 (List.mem_of_getElem? (i := 13) rfl))) rfl, by decide +kernel⟩
theorem I_X11_apart : Cond.instanceMethod yX11_apart ∈ lw_g ∧ Cond.selects yX11_apart.cls yX11_apart yX11_apart ∈ lw_g := ⟨lw_gin (List.mem_append_right _ (tb_7 (List.mem_of_getElem? (i := 61) rfl))) rfl, lw_gin (List.mem_append_left _ (List.mem_of_getElem? (i := 93) rfl)) rfl⟩
theorem Y_X11_isMandatory : Cond.code yX11_isMandatory cX11_isMandatory 5 (some .boolean) ∈ lw_g ∧ Cond.initialized yX11_isMandatory.cls ∈ lw_g ∧ (yX11_isMandatory.cls ≠ "java/lang/invoke/MethodHandle" ∧ yX11_isMandatory.cls ≠ "java/lang/invoke/VarHandle" ∧ (parseMethodDescriptor yX11_isMandatory.desc).map (fun d => d.parameters.length) = some 2) := ⟨lw_gin (List.mem_append_right _ (tb_7 (List.mem_of_getElem? (i := 58) rfl))) rfl, lw_gin (List.mem_append_right _ (tb_1 (List.mem_of_getElem? (i := 13) rfl))) rfl, by decide +kernel⟩
theorem I_X11_isMandatory : Cond.instanceMethod yX11_isMandatory ∈ lw_g ∧ Cond.selects yX11_isMandatory.cls yX11_isMandatory yX11_isMandatory ∈ lw_g := ⟨lw_gin (List.mem_append_right _ (tb_7 (List.mem_of_getElem? (i := 57) rfl))) rfl, lw_gin (List.mem_append_left _ (List.mem_of_getElem? (i := 92) rfl)) rfl⟩
theorem Y_X11_framePair : Cond.code yX11_framePair cX11_framePair 7 (some .int) ∈ lw_g ∧ Cond.initialized yX11_framePair.cls ∈ lw_g ∧ (yX11_framePair.cls ≠ "java/lang/invoke/MethodHandle" ∧ yX11_framePair.cls ≠ "java/lang/invoke/VarHandle" ∧ (parseMethodDescriptor yX11_framePair.desc).map (fun d => d.parameters.length) = some 2) := ⟨lw_gin (List.mem_append_right _ (tb_7 (List.mem_of_getElem? (i := 54) rfl))) rfl, lw_gin (List.mem_append_right _ (tb_1 (List.mem_of_getElem? (i := 13) rfl))) rfl, by decide +kernel⟩
theorem I_X11_framePair : Cond.instanceMethod yX11_framePair ∈ lw_g ∧ Cond.selects yX11_framePair.cls yX11_framePair yX11_framePair ∈ lw_g := ⟨lw_gin (List.mem_append_right _ (tb_7 (List.mem_of_getElem? (i := 53) rfl))) rfl, lw_gin (List.mem_append_left _ (List.mem_of_getElem? (i := 91) rfl)) rfl⟩
theorem Y_X11_count : Cond.code yX11_count cX11_count 2 (some .int) ∈ lw_g ∧ Cond.initialized yX11_count.cls ∈ lw_g ∧ (yX11_count.cls ≠ "java/lang/invoke/MethodHandle" ∧ yX11_count.cls ≠ "java/lang/invoke/VarHandle" ∧ (parseMethodDescriptor yX11_count.desc).map (fun d => d.parameters.length) = some 1) := ⟨lw_gin (List.mem_append_right _ (tb_7 (List.mem_of_getElem? (i := 30) rfl))) rfl, lw_gin (List.mem_append_right _ (tb_1 (List.mem_of_getElem? (i := 13) rfl))) rfl, by decide +kernel⟩
theorem I_X11_count : Cond.instanceMethod yX11_count ∈ lw_g ∧ Cond.selects yX11_count.cls yX11_count yX11_count ∈ lw_g := ⟨lw_gin (List.mem_append_right _ (tb_7 (List.mem_of_getElem? (i := 28) rfl))) rfl, lw_gin (List.mem_append_right _ (tb_7 (List.mem_of_getElem? (i := 29) rfl))) rfl⟩
theorem Y_X11_statement : Cond.code yX11_statement cX11_statement 3 (some .int) ∈ lw_g ∧ Cond.initialized yX11_statement.cls ∈ lw_g ∧ (yX11_statement.cls ≠ "java/lang/invoke/MethodHandle" ∧ yX11_statement.cls ≠ "java/lang/invoke/VarHandle" ∧ (parseMethodDescriptor yX11_statement.desc).map (fun d => d.parameters.length) = some 2) := ⟨lw_gin (List.mem_append_right _ (tb_7 (List.mem_of_getElem? (i := 34) rfl))) rfl, lw_gin (List.mem_append_right _ (tb_1 (List.mem_of_getElem? (i := 13) rfl))) rfl, by decide +kernel⟩
theorem I_X11_statement : Cond.instanceMethod yX11_statement ∈ lw_g ∧ Cond.selects yX11_statement.cls yX11_statement yX11_statement ∈ lw_g := ⟨lw_gin (List.mem_append_right _ (tb_7 (List.mem_of_getElem? (i := 32) rfl))) rfl, lw_gin (List.mem_append_right _ (tb_7 (List.mem_of_getElem? (i := 33) rfl))) rfl⟩
theorem Y_X11_symbol : Cond.code yX11_symbol cX11_symbol 3 (some .int) ∈ lw_g ∧ Cond.initialized yX11_symbol.cls ∈ lw_g ∧ (yX11_symbol.cls ≠ "java/lang/invoke/MethodHandle" ∧ yX11_symbol.cls ≠ "java/lang/invoke/VarHandle" ∧ (parseMethodDescriptor yX11_symbol.desc).map (fun d => d.parameters.length) = some 2) := ⟨lw_gin (List.mem_append_right _ (tb_7 (List.mem_of_getElem? (i := 70) rfl))) rfl, lw_gin (List.mem_append_right _ (tb_1 (List.mem_of_getElem? (i := 13) rfl))) rfl, by decide +kernel⟩
theorem I_X11_symbol : Cond.instanceMethod yX11_symbol ∈ lw_g ∧ Cond.selects yX11_symbol.cls yX11_symbol yX11_symbol ∈ lw_g := ⟨lw_gin (List.mem_append_right _ (tb_7 (List.mem_of_getElem? (i := 68) rfl))) rfl, lw_gin (List.mem_append_right _ (tb_7 (List.mem_of_getElem? (i := 69) rfl))) rfl⟩
theorem Y_X11_name : Cond.code yX11_name cX11_name 7 (some .int) ∈ lw_g ∧ Cond.initialized yX11_name.cls ∈ lw_g ∧ (yX11_name.cls ≠ "java/lang/invoke/MethodHandle" ∧ yX11_name.cls ≠ "java/lang/invoke/VarHandle" ∧ (parseMethodDescriptor yX11_name.desc).map (fun d => d.parameters.length) = some 3) := ⟨lw_gin (List.mem_append_right _ (tb_7 (List.mem_of_getElem? (i := 74) rfl))) rfl, lw_gin (List.mem_append_right _ (tb_1 (List.mem_of_getElem? (i := 13) rfl))) rfl, by decide +kernel⟩
theorem I_X11_name : Cond.instanceMethod yX11_name ∈ lw_g ∧ Cond.selects yX11_name.cls yX11_name yX11_name ∈ lw_g := ⟨lw_gin (List.mem_append_right _ (tb_7 (List.mem_of_getElem? (i := 72) rfl))) rfl, lw_gin (List.mem_append_right _ (tb_7 (List.mem_of_getElem? (i := 73) rfl))) rfl⟩
theorem Y_X11_frame : Cond.code yX11_frame cX11_frame 5 (some .int) ∈ lw_g ∧ Cond.initialized yX11_frame.cls ∈ lw_g ∧ (yX11_frame.cls ≠ "java/lang/invoke/MethodHandle" ∧ yX11_frame.cls ≠ "java/lang/invoke/VarHandle" ∧ (parseMethodDescriptor yX11_frame.desc).map (fun d => d.parameters.length) = some 3) := ⟨lw_gin (List.mem_append_right _ (tb_7 (List.mem_of_getElem? (i := 78) rfl))) rfl, lw_gin (List.mem_append_right _ (tb_1 (List.mem_of_getElem? (i := 13) rfl))) rfl, by decide +kernel⟩
theorem I_X11_frame : Cond.instanceMethod yX11_frame ∈ lw_g ∧ Cond.selects yX11_frame.cls yX11_frame yX11_frame ∈ lw_g := ⟨lw_gin (List.mem_append_right _ (tb_7 (List.mem_of_getElem? (i := 76) rfl))) rfl, lw_gin (List.mem_append_right _ (tb_7 (List.mem_of_getElem? (i := 77) rfl))) rfl⟩
theorem Y_X11_proofToken : Cond.code yX11_proofToken cX11_proofToken 3 (some .int) ∈ lw_g ∧ Cond.initialized yX11_proofToken.cls ∈ lw_g ∧ (yX11_proofToken.cls ≠ "java/lang/invoke/MethodHandle" ∧ yX11_proofToken.cls ≠ "java/lang/invoke/VarHandle" ∧ (parseMethodDescriptor yX11_proofToken.desc).map (fun d => d.parameters.length) = some 2) := ⟨lw_gin (List.mem_append_right _ (tb_7 (List.mem_of_getElem? (i := 106) rfl))) rfl, lw_gin (List.mem_append_right _ (tb_1 (List.mem_of_getElem? (i := 13) rfl))) rfl, by decide +kernel⟩
theorem I_X11_proofToken : Cond.instanceMethod yX11_proofToken ∈ lw_g ∧ Cond.selects yX11_proofToken.cls yX11_proofToken yX11_proofToken ∈ lw_g := ⟨lw_gin (List.mem_append_right _ (tb_7 (List.mem_of_getElem? (i := 105) rfl))) rfl, lw_gin (List.mem_append_left _ (List.mem_of_getElem? (i := 100) rfl)) rfl⟩
theorem Y_X11_isOne : Cond.code yX11_isOne cX11_isOne 5 (some .boolean) ∈ lw_g ∧ Cond.initialized yX11_isOne.cls ∈ lw_g ∧ (yX11_isOne.cls ≠ "java/lang/invoke/MethodHandle" ∧ yX11_isOne.cls ≠ "java/lang/invoke/VarHandle" ∧ (parseMethodDescriptor yX11_isOne.desc).map (fun d => d.parameters.length) = some 3) := ⟨lw_gin (List.mem_append_right _ (tb_7 (List.mem_of_getElem? (i := 102) rfl))) rfl, lw_gin (List.mem_append_right _ (tb_1 (List.mem_of_getElem? (i := 13) rfl))) rfl, by decide +kernel⟩
theorem I_X11_isOne : Cond.instanceMethod yX11_isOne ∈ lw_g ∧ Cond.selects yX11_isOne.cls yX11_isOne yX11_isOne ∈ lw_g := ⟨lw_gin (List.mem_append_right _ (tb_7 (List.mem_of_getElem? (i := 101) rfl))) rfl, lw_gin (List.mem_append_left _ (List.mem_of_getElem? (i := 99) rfl)) rfl⟩
theorem Y_X11_namedBy : Cond.code yX11_namedBy cX11_namedBy 7 (some .int) ∈ lw_g ∧ Cond.initialized yX11_namedBy.cls ∈ lw_g ∧ (yX11_namedBy.cls ≠ "java/lang/invoke/MethodHandle" ∧ yX11_namedBy.cls ≠ "java/lang/invoke/VarHandle" ∧ (parseMethodDescriptor yX11_namedBy.desc).map (fun d => d.parameters.length) = some 2) := ⟨lw_gin (List.mem_append_right _ (tb_7 (List.mem_of_getElem? (i := 134) rfl))) rfl, lw_gin (List.mem_append_right _ (tb_1 (List.mem_of_getElem? (i := 13) rfl))) rfl, by decide +kernel⟩
theorem I_X11_namedBy : Cond.instanceMethod yX11_namedBy ∈ lw_g ∧ Cond.selects yX11_namedBy.cls yX11_namedBy yX11_namedBy ∈ lw_g := ⟨lw_gin (List.mem_append_right _ (tb_7 (List.mem_of_getElem? (i := 133) rfl))) rfl, lw_gin (List.mem_append_left _ (List.mem_of_getElem? (i := 107) rfl)) rfl⟩
theorem Y_X11_isCompressed : Cond.code yX11_isCompressed cX11_isCompressed 2 (some .boolean) ∈ lw_g ∧ Cond.initialized yX11_isCompressed.cls ∈ lw_g ∧ (yX11_isCompressed.cls ≠ "java/lang/invoke/MethodHandle" ∧ yX11_isCompressed.cls ≠ "java/lang/invoke/VarHandle" ∧ (parseMethodDescriptor yX11_isCompressed.desc).map (fun d => d.parameters.length) = some 1) := ⟨lw_gin (List.mem_append_right _ (tb_7 (List.mem_of_getElem? (i := 110) rfl))) rfl, lw_gin (List.mem_append_right _ (tb_1 (List.mem_of_getElem? (i := 13) rfl))) rfl, by decide +kernel⟩
theorem I_X11_isCompressed : Cond.instanceMethod yX11_isCompressed ∈ lw_g ∧ Cond.selects yX11_isCompressed.cls yX11_isCompressed yX11_isCompressed ∈ lw_g := ⟨lw_gin (List.mem_append_right _ (tb_7 (List.mem_of_getElem? (i := 109) rfl))) rfl, lw_gin (List.mem_append_left _ (List.mem_of_getElem? (i := 101) rfl)) rfl⟩
theorem Y_X11_listEnd : Cond.code yX11_listEnd cX11_listEnd 3 (some .int) ∈ lw_g ∧ Cond.initialized yX11_listEnd.cls ∈ lw_g ∧ (yX11_listEnd.cls ≠ "java/lang/invoke/MethodHandle" ∧ yX11_listEnd.cls ≠ "java/lang/invoke/VarHandle" ∧ (parseMethodDescriptor yX11_listEnd.desc).map (fun d => d.parameters.length) = some 1) := ⟨lw_gin (List.mem_append_right _ (tb_7 (List.mem_of_getElem? (i := 118) rfl))) rfl, lw_gin (List.mem_append_right _ (tb_1 (List.mem_of_getElem? (i := 13) rfl))) rfl, by decide +kernel⟩
theorem I_X11_listEnd : Cond.instanceMethod yX11_listEnd ∈ lw_g ∧ Cond.selects yX11_listEnd.cls yX11_listEnd yX11_listEnd ∈ lw_g := ⟨lw_gin (List.mem_append_right _ (tb_7 (List.mem_of_getElem? (i := 117) rfl))) rfl, lw_gin (List.mem_append_left _ (List.mem_of_getElem? (i := 103) rfl)) rfl⟩
theorem Y_X11_takeLetters : Cond.code yX11_takeLetters cX11_takeLetters 5 (none) ∈ lw_g ∧ Cond.initialized yX11_takeLetters.cls ∈ lw_g ∧ (yX11_takeLetters.cls ≠ "java/lang/invoke/MethodHandle" ∧ yX11_takeLetters.cls ≠ "java/lang/invoke/VarHandle" ∧ (parseMethodDescriptor yX11_takeLetters.desc).map (fun d => d.parameters.length) = some 1) := ⟨lw_gin (List.mem_append_right _ (tb_7 (List.mem_of_getElem? (i := 114) rfl))) rfl, lw_gin (List.mem_append_right _ (tb_1 (List.mem_of_getElem? (i := 13) rfl))) rfl, by decide +kernel⟩
theorem I_X11_takeLetters : Cond.instanceMethod yX11_takeLetters ∈ lw_g ∧ Cond.selects yX11_takeLetters.cls yX11_takeLetters yX11_takeLetters ∈ lw_g := ⟨lw_gin (List.mem_append_right _ (tb_7 (List.mem_of_getElem? (i := 113) rfl))) rfl, lw_gin (List.mem_append_left _ (List.mem_of_getElem? (i := 102) rfl)) rfl⟩
theorem Y_X11_isOpen : Cond.code yX11_isOpen cX11_isOpen 4 (some .boolean) ∈ lw_g ∧ Cond.initialized yX11_isOpen.cls ∈ lw_g ∧ (yX11_isOpen.cls ≠ "java/lang/invoke/MethodHandle" ∧ yX11_isOpen.cls ≠ "java/lang/invoke/VarHandle" ∧ (parseMethodDescriptor yX11_isOpen.desc).map (fun d => d.parameters.length) = some 1) := ⟨lw_gin (List.mem_append_right _ (tb_7 (List.mem_of_getElem? (i := 98) rfl))) rfl, lw_gin (List.mem_append_right _ (tb_1 (List.mem_of_getElem? (i := 13) rfl))) rfl, by decide +kernel⟩
theorem I_X11_isOpen : Cond.instanceMethod yX11_isOpen ∈ lw_g ∧ Cond.selects yX11_isOpen.cls yX11_isOpen yX11_isOpen ∈ lw_g := ⟨lw_gin (List.mem_append_right _ (tb_7 (List.mem_of_getElem? (i := 97) rfl))) rfl, lw_gin (List.mem_append_left _ (List.mem_of_getElem? (i := 98) rfl)) rfl⟩
theorem Y_X11_fails : Cond.code yX11_fails cX11_fails 3 (some .boolean) ∈ lw_g ∧ Cond.initialized yX11_fails.cls ∈ lw_g ∧ (yX11_fails.cls ≠ "java/lang/invoke/MethodHandle" ∧ yX11_fails.cls ≠ "java/lang/invoke/VarHandle" ∧ (parseMethodDescriptor yX11_fails.desc).map (fun d => d.parameters.length) = some 2) := ⟨lw_gin (List.mem_append_right _ (tb_7 (List.mem_of_getElem? (i := 126) rfl))) rfl, lw_gin (List.mem_append_right _ (tb_1 (List.mem_of_getElem? (i := 13) rfl))) rfl, by decide +kernel⟩
theorem I_X11_fails : Cond.instanceMethod yX11_fails ∈ lw_g ∧ Cond.selects yX11_fails.cls yX11_fails yX11_fails ∈ lw_g := ⟨lw_gin (List.mem_append_right _ (tb_7 (List.mem_of_getElem? (i := 125) rfl))) rfl, lw_gin (List.mem_append_left _ (List.mem_of_getElem? (i := 105) rfl)) rfl⟩
theorem Y_X11_mayName : Cond.code yX11_mayName cX11_mayName 3 (some .boolean) ∈ lw_g ∧ Cond.initialized yX11_mayName.cls ∈ lw_g ∧ (yX11_mayName.cls ≠ "java/lang/invoke/MethodHandle" ∧ yX11_mayName.cls ≠ "java/lang/invoke/VarHandle" ∧ (parseMethodDescriptor yX11_mayName.desc).map (fun d => d.parameters.length) = some 2) := ⟨lw_gin (List.mem_append_right _ (tb_7 (List.mem_of_getElem? (i := 138) rfl))) rfl, lw_gin (List.mem_append_right _ (tb_1 (List.mem_of_getElem? (i := 13) rfl))) rfl, by decide +kernel⟩
theorem I_X11_mayName : Cond.instanceMethod yX11_mayName ∈ lw_g ∧ Cond.selects yX11_mayName.cls yX11_mayName yX11_mayName ∈ lw_g := ⟨lw_gin (List.mem_append_right _ (tb_7 (List.mem_of_getElem? (i := 137) rfl))) rfl, lw_gin (List.mem_append_left _ (List.mem_of_getElem? (i := 108) rfl)) rfl⟩
theorem Y_X11_readList : Cond.code yX11_readList cX11_readList 7 (some .boolean) ∈ lw_g ∧ Cond.initialized yX11_readList.cls ∈ lw_g ∧ (yX11_readList.cls ≠ "java/lang/invoke/MethodHandle" ∧ yX11_readList.cls ≠ "java/lang/invoke/VarHandle" ∧ (parseMethodDescriptor yX11_readList.desc).map (fun d => d.parameters.length) = some 1) := ⟨lw_gin (List.mem_append_right _ (tb_7 (List.mem_of_getElem? (i := 130) rfl))) rfl, lw_gin (List.mem_append_right _ (tb_1 (List.mem_of_getElem? (i := 13) rfl))) rfl, by decide +kernel⟩
theorem I_X11_readList : Cond.instanceMethod yX11_readList ∈ lw_g ∧ Cond.selects yX11_readList.cls yX11_readList yX11_readList ∈ lw_g := ⟨lw_gin (List.mem_append_right _ (tb_7 (List.mem_of_getElem? (i := 129) rfl))) rfl, lw_gin (List.mem_append_left _ (List.mem_of_getElem? (i := 106) rfl)) rfl⟩
theorem Y_X11_readLetters : Cond.code yX11_readLetters cX11_readLetters 8 (some .boolean) ∈ lw_g ∧ Cond.initialized yX11_readLetters.cls ∈ lw_g ∧ (yX11_readLetters.cls ≠ "java/lang/invoke/MethodHandle" ∧ yX11_readLetters.cls ≠ "java/lang/invoke/VarHandle" ∧ (parseMethodDescriptor yX11_readLetters.desc).map (fun d => d.parameters.length) = some 1) := ⟨lw_gin (List.mem_append_right _ (tb_7 (List.mem_of_getElem? (i := 142) rfl))) rfl, lw_gin (List.mem_append_right _ (tb_1 (List.mem_of_getElem? (i := 13) rfl))) rfl, by decide +kernel⟩
theorem I_X11_readLetters : Cond.instanceMethod yX11_readLetters ∈ lw_g ∧ Cond.selects yX11_readLetters.cls yX11_readLetters yX11_readLetters ∈ lw_g := ⟨lw_gin (List.mem_append_right _ (tb_7 (List.mem_of_getElem? (i := 141) rfl))) rfl, lw_gin (List.mem_append_left _ (List.mem_of_getElem? (i := 109) rfl)) rfl⟩
theorem Y_X11_readProof : Cond.code yX11_readProof cX11_readProof 5 (some .boolean) ∈ lw_g ∧ Cond.initialized yX11_readProof.cls ∈ lw_g ∧ (yX11_readProof.cls ≠ "java/lang/invoke/MethodHandle" ∧ yX11_readProof.cls ≠ "java/lang/invoke/VarHandle" ∧ (parseMethodDescriptor yX11_readProof.desc).map (fun d => d.parameters.length) = some 1) := ⟨lw_gin (List.mem_append_right _ (tb_7 (List.mem_of_getElem? (i := 122) rfl))) rfl, lw_gin (List.mem_append_right _ (tb_1 (List.mem_of_getElem? (i := 13) rfl))) rfl, by decide +kernel⟩
theorem I_X11_readProof : Cond.instanceMethod yX11_readProof ∈ lw_g ∧ Cond.selects yX11_readProof.cls yX11_readProof yX11_readProof ∈ lw_g := ⟨lw_gin (List.mem_append_right _ (tb_7 (List.mem_of_getElem? (i := 121) rfl))) rfl, lw_gin (List.mem_append_left _ (List.mem_of_getElem? (i := 104) rfl)) rfl⟩
theorem Y_X11_thing : Cond.code yX11_thing cX11_thing 2 (some .int) ∈ lw_g ∧ Cond.initialized yX11_thing.cls ∈ lw_g ∧ (yX11_thing.cls ≠ "java/lang/invoke/MethodHandle" ∧ yX11_thing.cls ≠ "java/lang/invoke/VarHandle" ∧ (parseMethodDescriptor yX11_thing.desc).map (fun d => d.parameters.length) = some 1) := ⟨lw_gin (List.mem_append_right _ (tb_7 (List.mem_of_getElem? (i := 155) rfl))) rfl, lw_gin (List.mem_append_right _ (tb_1 (List.mem_of_getElem? (i := 13) rfl))) rfl, by decide +kernel⟩
theorem I_X11_thing : Cond.instanceMethod yX11_thing ∈ lw_g ∧ Cond.selects yX11_thing.cls yX11_thing yX11_thing ∈ lw_g := ⟨lw_gin (List.mem_append_right _ (tb_7 (List.mem_of_getElem? (i := 154) rfl))) rfl, lw_gin (List.mem_append_left _ (List.mem_of_getElem? (i := 112) rfl)) rfl⟩
theorem Y_X11_endThing : Cond.code yX11_endThing cX11_endThing 5 (none) ∈ lw_g ∧ Cond.initialized yX11_endThing.cls ∈ lw_g ∧ (yX11_endThing.cls ≠ "java/lang/invoke/MethodHandle" ∧ yX11_endThing.cls ≠ "java/lang/invoke/VarHandle" ∧ (parseMethodDescriptor yX11_endThing.desc).map (fun d => d.parameters.length) = some 2) := ⟨lw_gin (List.mem_append_right _ (tb_7 (List.mem_of_getElem? (i := 159) rfl))) rfl, lw_gin (List.mem_append_right _ (tb_1 (List.mem_of_getElem? (i := 13) rfl))) rfl, by decide +kernel⟩
theorem I_X11_endThing : Cond.instanceMethod yX11_endThing ∈ lw_g ∧ Cond.selects yX11_endThing.cls yX11_endThing yX11_endThing ∈ lw_g := ⟨lw_gin (List.mem_append_right _ (tb_7 (List.mem_of_getElem? (i := 158) rfl))) rfl, lw_gin (List.mem_append_left _ (List.mem_of_getElem? (i := 113) rfl)) rfl⟩
theorem Y_X11_pushHypothesis : Cond.code yX11_pushHypothesis cX11_pushHypothesis 4 (some .boolean) ∈ lw_g ∧ Cond.initialized yX11_pushHypothesis.cls ∈ lw_g ∧ (yX11_pushHypothesis.cls ≠ "java/lang/invoke/MethodHandle" ∧ yX11_pushHypothesis.cls ≠ "java/lang/invoke/VarHandle" ∧ (parseMethodDescriptor yX11_pushHypothesis.desc).map (fun d => d.parameters.length) = some 2) := ⟨lw_gin (List.mem_append_right _ (tb_7 (List.mem_of_getElem? (i := 163) rfl))) rfl, lw_gin (List.mem_append_right _ (tb_1 (List.mem_of_getElem? (i := 13) rfl))) rfl, by decide +kernel⟩
theorem I_X11_pushHypothesis : Cond.instanceMethod yX11_pushHypothesis ∈ lw_g ∧ Cond.selects yX11_pushHypothesis.cls yX11_pushHypothesis yX11_pushHypothesis ∈ lw_g := ⟨lw_gin (List.mem_append_right _ (tb_7 (List.mem_of_getElem? (i := 162) rfl))) rfl, lw_gin (List.mem_append_left _ (List.mem_of_getElem? (i := 114) rfl)) rfl⟩
theorem Y_X11_pushMarked : Cond.code yX11_pushMarked cX11_pushMarked 4 (some .boolean) ∈ lw_g ∧ Cond.initialized yX11_pushMarked.cls ∈ lw_g ∧ (yX11_pushMarked.cls ≠ "java/lang/invoke/MethodHandle" ∧ yX11_pushMarked.cls ≠ "java/lang/invoke/VarHandle" ∧ (parseMethodDescriptor yX11_pushMarked.desc).map (fun d => d.parameters.length) = some 2) := ⟨lw_gin (List.mem_append_right _ (tb_7 (List.mem_of_getElem? (i := 151) rfl))) rfl, lw_gin (List.mem_append_right _ (tb_1 (List.mem_of_getElem? (i := 13) rfl))) rfl, by decide +kernel⟩
theorem I_X11_pushMarked : Cond.instanceMethod yX11_pushMarked ∈ lw_g ∧ Cond.selects yX11_pushMarked.cls yX11_pushMarked yX11_pushMarked ∈ lw_g := ⟨lw_gin (List.mem_append_right _ (tb_7 (List.mem_of_getElem? (i := 150) rfl))) rfl, lw_gin (List.mem_append_left _ (List.mem_of_getElem? (i := 111) rfl)) rfl⟩
theorem Y_X11_substitute : Cond.code yX11_substitute cX11_substitute 8 (some .int) ∈ lw_g ∧ Cond.initialized yX11_substitute.cls ∈ lw_g ∧ (yX11_substitute.cls ≠ "java/lang/invoke/MethodHandle" ∧ yX11_substitute.cls ≠ "java/lang/invoke/VarHandle" ∧ (parseMethodDescriptor yX11_substitute.desc).map (fun d => d.parameters.length) = some 1) := ⟨lw_gin (List.mem_append_right _ (tb_7 (List.mem_of_getElem? (i := 175) rfl))) rfl, lw_gin (List.mem_append_right _ (tb_1 (List.mem_of_getElem? (i := 13) rfl))) rfl, by decide +kernel⟩
theorem I_X11_substitute : Cond.instanceMethod yX11_substitute ∈ lw_g ∧ Cond.selects yX11_substitute.cls yX11_substitute yX11_substitute ∈ lw_g := ⟨lw_gin (List.mem_append_right _ (tb_7 (List.mem_of_getElem? (i := 174) rfl))) rfl, lw_gin (List.mem_append_left _ (List.mem_of_getElem? (i := 117) rfl)) rfl⟩
theorem Y_X11_meets : Cond.code yX11_meets cX11_meets 7 (some .boolean) ∈ lw_g ∧ Cond.initialized yX11_meets.cls ∈ lw_g ∧ (yX11_meets.cls ≠ "java/lang/invoke/MethodHandle" ∧ yX11_meets.cls ≠ "java/lang/invoke/VarHandle" ∧ (parseMethodDescriptor yX11_meets.desc).map (fun d => d.parameters.length) = some 3) := ⟨lw_gin (List.mem_append_right _ (tb_7 (List.mem_of_getElem? (i := 171) rfl))) rfl, lw_gin (List.mem_append_right _ (tb_1 (List.mem_of_getElem? (i := 13) rfl))) rfl, by decide +kernel⟩
theorem I_X11_meets : Cond.instanceMethod yX11_meets ∈ lw_g ∧ Cond.selects yX11_meets.cls yX11_meets yX11_meets ∈ lw_g := ⟨lw_gin (List.mem_append_right _ (tb_7 (List.mem_of_getElem? (i := 170) rfl))) rfl, lw_gin (List.mem_append_left _ (List.mem_of_getElem? (i := 116) rfl)) rfl⟩
theorem Y_X11_keepApart : Cond.code yX11_keepApart cX11_keepApart 11 (some .boolean) ∈ lw_g ∧ Cond.initialized yX11_keepApart.cls ∈ lw_g ∧ (yX11_keepApart.cls ≠ "java/lang/invoke/MethodHandle" ∧ yX11_keepApart.cls ≠ "java/lang/invoke/VarHandle" ∧ (parseMethodDescriptor yX11_keepApart.desc).map (fun d => d.parameters.length) = some 3) := ⟨lw_gin (List.mem_append_right _ (tb_7 (List.mem_of_getElem? (i := 179) rfl))) rfl, lw_gin (List.mem_append_right _ (tb_1 (List.mem_of_getElem? (i := 13) rfl))) rfl, by decide +kernel⟩
theorem I_X11_keepApart : Cond.instanceMethod yX11_keepApart ∈ lw_g ∧ Cond.selects yX11_keepApart.cls yX11_keepApart yX11_keepApart ∈ lw_g := ⟨lw_gin (List.mem_append_right _ (tb_7 (List.mem_of_getElem? (i := 178) rfl))) rfl, lw_gin (List.mem_append_left _ (List.mem_of_getElem? (i := 118) rfl)) rfl⟩
theorem Y_X11_pushAssertion : Cond.code yX11_pushAssertion cX11_pushAssertion 9 (some .boolean) ∈ lw_g ∧ Cond.initialized yX11_pushAssertion.cls ∈ lw_g ∧ (yX11_pushAssertion.cls ≠ "java/lang/invoke/MethodHandle" ∧ yX11_pushAssertion.cls ≠ "java/lang/invoke/VarHandle" ∧ (parseMethodDescriptor yX11_pushAssertion.desc).map (fun d => d.parameters.length) = some 3) := ⟨lw_gin (List.mem_append_right _ (tb_7 (List.mem_of_getElem? (i := 167) rfl))) rfl, lw_gin (List.mem_append_right _ (tb_1 (List.mem_of_getElem? (i := 13) rfl))) rfl, by decide +kernel⟩
theorem I_X11_pushAssertion : Cond.instanceMethod yX11_pushAssertion ∈ lw_g ∧ Cond.selects yX11_pushAssertion.cls yX11_pushAssertion yX11_pushAssertion ∈ lw_g := ⟨lw_gin (List.mem_append_right _ (tb_7 (List.mem_of_getElem? (i := 166) rfl))) rfl, lw_gin (List.mem_append_left _ (List.mem_of_getElem? (i := 115) rfl)) rfl⟩
theorem Y_X11_runSteps : Cond.code yX11_runSteps cX11_runSteps 6 (some .boolean) ∈ lw_g ∧ Cond.initialized yX11_runSteps.cls ∈ lw_g ∧ (yX11_runSteps.cls ≠ "java/lang/invoke/MethodHandle" ∧ yX11_runSteps.cls ≠ "java/lang/invoke/VarHandle" ∧ (parseMethodDescriptor yX11_runSteps.desc).map (fun d => d.parameters.length) = some 2) := ⟨lw_gin (List.mem_append_right _ (tb_7 (List.mem_of_getElem? (i := 147) rfl))) rfl, lw_gin (List.mem_append_right _ (tb_1 (List.mem_of_getElem? (i := 13) rfl))) rfl, by decide +kernel⟩
theorem I_X11_runSteps : Cond.instanceMethod yX11_runSteps ∈ lw_g ∧ Cond.selects yX11_runSteps.cls yX11_runSteps yX11_runSteps ∈ lw_g := ⟨lw_gin (List.mem_append_right _ (tb_7 (List.mem_of_getElem? (i := 146) rfl))) rfl, lw_gin (List.mem_append_left _ (List.mem_of_getElem? (i := 110) rfl)) rfl⟩
theorem Y_X11_judge : Cond.code yX11_judge cX11_judge 4 (some .int) ∈ lw_g ∧ Cond.initialized yX11_judge.cls ∈ lw_g ∧ (yX11_judge.cls ≠ "java/lang/invoke/MethodHandle" ∧ yX11_judge.cls ≠ "java/lang/invoke/VarHandle" ∧ (parseMethodDescriptor yX11_judge.desc).map (fun d => d.parameters.length) = some 1) := ⟨lw_gin (List.mem_append_right _ (tb_7 (List.mem_of_getElem? (i := 94) rfl))) rfl, lw_gin (List.mem_append_right _ (tb_1 (List.mem_of_getElem? (i := 13) rfl))) rfl, by decide +kernel⟩
theorem I_X11_judge : Cond.instanceMethod yX11_judge ∈ lw_g ∧ Cond.selects yX11_judge.cls yX11_judge yX11_judge ∈ lw_g := ⟨lw_gin (List.mem_append_right _ (tb_7 (List.mem_of_getElem? (i := 93) rfl))) rfl, lw_gin (List.mem_append_left _ (List.mem_of_getElem? (i := 97) rfl)) rfl⟩
theorem Y_X11_check : Cond.code yX11_check cX11_check 3 (some .int) ∈ lw_g ∧ Cond.initialized yX11_check.cls ∈ lw_g ∧ (yX11_check.cls ≠ "java/lang/invoke/MethodHandle" ∧ yX11_check.cls ≠ "java/lang/invoke/VarHandle" ∧ (parseMethodDescriptor yX11_check.desc).map (fun d => d.parameters.length) = some 1) := ⟨lw_gin (List.mem_append_right _ (tb_7 (List.mem_of_getElem? (i := 90) rfl))) rfl, lw_gin (List.mem_append_right _ (tb_1 (List.mem_of_getElem? (i := 13) rfl))) rfl, by decide +kernel⟩
theorem I_X11_check : Cond.instanceMethod yX11_check ∈ lw_g ∧ Cond.selects yX11_check.cls yX11_check yX11_check ∈ lw_g := ⟨lw_gin (List.mem_append_right _ (tb_7 (List.mem_of_getElem? (i := 88) rfl))) rfl, lw_gin (List.mem_append_right _ (tb_7 (List.mem_of_getElem? (i := 89) rfl))) rfl⟩
theorem Y_X11_step : Cond.code yX11_step cX11_step 1 (some .int) ∈ lw_g ∧ Cond.initialized yX11_step.cls ∈ lw_g ∧ (yX11_step.cls ≠ "java/lang/invoke/MethodHandle" ∧ yX11_step.cls ≠ "java/lang/invoke/VarHandle" ∧ (parseMethodDescriptor yX11_step.desc).map (fun d => d.parameters.length) = some 0) := ⟨lw_gin (List.mem_append_right _ (tb_7 (List.mem_of_getElem? (i := 183) rfl))) rfl, lw_gin (List.mem_append_right _ (tb_1 (List.mem_of_getElem? (i := 13) rfl))) rfl, by decide +kernel⟩
theorem I_X11_step : Cond.instanceMethod yX11_step ∈ lw_g ∧ Cond.selects yX11_step.cls yX11_step yX11_step ∈ lw_g := ⟨lw_gin (List.mem_append_right _ (tb_7 (List.mem_of_getElem? (i := 181) rfl))) rfl, lw_gin (List.mem_append_right _ (tb_7 (List.mem_of_getElem? (i := 182) rfl))) rfl⟩
theorem Y_X11_trace : Cond.code yX11_trace cX11_trace 5 (some .int) ∈ lw_g ∧ Cond.initialized yX11_trace.cls ∈ lw_g ∧ (yX11_trace.cls ≠ "java/lang/invoke/MethodHandle" ∧ yX11_trace.cls ≠ "java/lang/invoke/VarHandle" ∧ (parseMethodDescriptor yX11_trace.desc).map (fun d => d.parameters.length) = some 2) := ⟨lw_gin (List.mem_append_right _ (tb_7 (List.mem_of_getElem? (i := 187) rfl))) rfl, lw_gin (List.mem_append_right _ (tb_1 (List.mem_of_getElem? (i := 13) rfl))) rfl, by decide +kernel⟩
theorem I_X11_trace : Cond.instanceMethod yX11_trace ∈ lw_g ∧ Cond.selects yX11_trace.cls yX11_trace yX11_trace ∈ lw_g := ⟨lw_gin (List.mem_append_right _ (tb_7 (List.mem_of_getElem? (i := 185) rfl))) rfl, lw_gin (List.mem_append_right _ (tb_7 (List.mem_of_getElem? (i := 186) rfl))) rfl⟩
theorem Y_X11_thing_ : Cond.code yX11_thing_ cX11_thing_ 4 (some .int) ∈ lw_g ∧ Cond.initialized yX11_thing_.cls ∈ lw_g ∧ (yX11_thing_.cls ≠ "java/lang/invoke/MethodHandle" ∧ yX11_thing_.cls ≠ "java/lang/invoke/VarHandle" ∧ (parseMethodDescriptor yX11_thing_.desc).map (fun d => d.parameters.length) = some 2) := ⟨lw_gin (List.mem_append_right _ (tb_7 (List.mem_of_getElem? (i := 191) rfl))) rfl, lw_gin (List.mem_append_right _ (tb_1 (List.mem_of_getElem? (i := 13) rfl))) rfl, by decide +kernel⟩
theorem I_X11_thing_ : Cond.instanceMethod yX11_thing_ ∈ lw_g ∧ Cond.selects yX11_thing_.cls yX11_thing_ yX11_thing_ ∈ lw_g := ⟨lw_gin (List.mem_append_right _ (tb_7 (List.mem_of_getElem? (i := 189) rfl))) rfl, lw_gin (List.mem_append_right _ (tb_7 (List.mem_of_getElem? (i := 190) rfl))) rfl⟩
theorem Y_X11_say : Cond.code yX11_say cX11_say 2 (none) ∈ lw_g ∧ Cond.initialized yX11_say.cls ∈ lw_g ∧ (yX11_say.cls ≠ "java/lang/invoke/MethodHandle" ∧ yX11_say.cls ≠ "java/lang/invoke/VarHandle" ∧ (parseMethodDescriptor yX11_say.desc).map (fun d => d.parameters.length) = some 1) := ⟨lw_gin (List.mem_append_right _ (tb_7 (List.mem_of_getElem? (i := 207) rfl))) rfl, lw_gin (List.mem_append_right _ (tb_1 (List.mem_of_getElem? (i := 13) rfl))) rfl, by decide +kernel⟩
theorem I_X11_say : Cond.instanceMethod yX11_say ∈ lw_g ∧ Cond.selects yX11_say.cls yX11_say yX11_say ∈ lw_g := ⟨lw_gin (List.mem_append_right _ (tb_7 (List.mem_of_getElem? (i := 206) rfl))) rfl, lw_gin (List.mem_append_left _ (List.mem_of_getElem? (i := 121) rfl)) rfl⟩
theorem Y_X11_sayLabel : Cond.code yX11_sayLabel cX11_sayLabel 3 (none) ∈ lw_g ∧ Cond.initialized yX11_sayLabel.cls ∈ lw_g ∧ (yX11_sayLabel.cls ≠ "java/lang/invoke/MethodHandle" ∧ yX11_sayLabel.cls ≠ "java/lang/invoke/VarHandle" ∧ (parseMethodDescriptor yX11_sayLabel.desc).map (fun d => d.parameters.length) = some 1) := ⟨lw_gin (List.mem_append_right _ (tb_7 (List.mem_of_getElem? (i := 211) rfl))) rfl, lw_gin (List.mem_append_right _ (tb_1 (List.mem_of_getElem? (i := 13) rfl))) rfl, by decide +kernel⟩
theorem I_X11_sayLabel : Cond.instanceMethod yX11_sayLabel ∈ lw_g ∧ Cond.selects yX11_sayLabel.cls yX11_sayLabel yX11_sayLabel ∈ lw_g := ⟨lw_gin (List.mem_append_right _ (tb_7 (List.mem_of_getElem? (i := 210) rfl))) rfl, lw_gin (List.mem_append_left _ (List.mem_of_getElem? (i := 122) rfl)) rfl⟩
theorem Y_X11_told : Cond.code yX11_told cX11_told 2 (some .int) ∈ lw_g ∧ Cond.initialized yX11_told.cls ∈ lw_g ∧ (yX11_told.cls ≠ "java/lang/invoke/MethodHandle" ∧ yX11_told.cls ≠ "java/lang/invoke/VarHandle" ∧ (parseMethodDescriptor yX11_told.desc).map (fun d => d.parameters.length) = some 0) := ⟨lw_gin (List.mem_append_right _ (tb_7 (List.mem_of_getElem? (i := 215) rfl))) rfl, lw_gin (List.mem_append_right _ (tb_1 (List.mem_of_getElem? (i := 13) rfl))) rfl, by decide +kernel⟩
theorem I_X11_told : Cond.instanceMethod yX11_told ∈ lw_g ∧ Cond.selects yX11_told.cls yX11_told yX11_told ∈ lw_g := ⟨lw_gin (List.mem_append_right _ (tb_7 (List.mem_of_getElem? (i := 214) rfl))) rfl, lw_gin (List.mem_append_left _ (List.mem_of_getElem? (i := 123) rfl)) rfl⟩
theorem Y_X11_compare : Cond.code yX11_compare cX11_compare 5 (none) ∈ lw_g ∧ Cond.initialized yX11_compare.cls ∈ lw_g ∧ (yX11_compare.cls ≠ "java/lang/invoke/MethodHandle" ∧ yX11_compare.cls ≠ "java/lang/invoke/VarHandle" ∧ (parseMethodDescriptor yX11_compare.desc).map (fun d => d.parameters.length) = some 0) := ⟨lw_gin (List.mem_append_right _ (tb_7 (List.mem_of_getElem? (i := 199) rfl))) rfl, lw_gin (List.mem_append_right _ (tb_1 (List.mem_of_getElem? (i := 13) rfl))) rfl, by decide +kernel⟩
theorem I_X11_compare : Cond.instanceMethod yX11_compare ∈ lw_g ∧ Cond.selects yX11_compare.cls yX11_compare yX11_compare ∈ lw_g := ⟨lw_gin (List.mem_append_right _ (tb_7 (List.mem_of_getElem? (i := 198) rfl))) rfl, lw_gin (List.mem_append_left _ (List.mem_of_getElem? (i := 119) rfl)) rfl⟩
theorem Y_X11_writeOut : Cond.code yX11_writeOut cX11_writeOut 5 (some .int) ∈ lw_g ∧ Cond.initialized yX11_writeOut.cls ∈ lw_g ∧ (yX11_writeOut.cls ≠ "java/lang/invoke/MethodHandle" ∧ yX11_writeOut.cls ≠ "java/lang/invoke/VarHandle" ∧ (parseMethodDescriptor yX11_writeOut.desc).map (fun d => d.parameters.length) = some 1) := ⟨lw_gin (List.mem_append_right _ (tb_7 (List.mem_of_getElem? (i := 203) rfl))) rfl, lw_gin (List.mem_append_right _ (tb_1 (List.mem_of_getElem? (i := 13) rfl))) rfl, by decide +kernel⟩
theorem I_X11_writeOut : Cond.instanceMethod yX11_writeOut ∈ lw_g ∧ Cond.selects yX11_writeOut.cls yX11_writeOut yX11_writeOut ∈ lw_g := ⟨lw_gin (List.mem_append_right _ (tb_7 (List.mem_of_getElem? (i := 202) rfl))) rfl, lw_gin (List.mem_append_left _ (List.mem_of_getElem? (i := 120) rfl)) rfl⟩
theorem Y_X11_sayNumber : Cond.code yX11_sayNumber cX11_sayNumber 6 (none) ∈ lw_g ∧ Cond.initialized yX11_sayNumber.cls ∈ lw_g ∧ (yX11_sayNumber.cls ≠ "java/lang/invoke/MethodHandle" ∧ yX11_sayNumber.cls ≠ "java/lang/invoke/VarHandle" ∧ (parseMethodDescriptor yX11_sayNumber.desc).map (fun d => d.parameters.length) = some 1) := ⟨lw_gin (List.mem_append_right _ (tb_7 (List.mem_of_getElem? (i := 231) rfl))) rfl, lw_gin (List.mem_append_right _ (tb_1 (List.mem_of_getElem? (i := 13) rfl))) rfl, by decide +kernel⟩
theorem I_X11_sayNumber : Cond.instanceMethod yX11_sayNumber ∈ lw_g ∧ Cond.selects yX11_sayNumber.cls yX11_sayNumber yX11_sayNumber ∈ lw_g := ⟨lw_gin (List.mem_append_right _ (tb_7 (List.mem_of_getElem? (i := 230) rfl))) rfl, lw_gin (List.mem_append_left _ (List.mem_of_getElem? (i := 127) rfl)) rfl⟩
theorem Y_X11_goDown : Cond.code yX11_goDown cX11_goDown 5 (none) ∈ lw_g ∧ Cond.initialized yX11_goDown.cls ∈ lw_g ∧ (yX11_goDown.cls ≠ "java/lang/invoke/MethodHandle" ∧ yX11_goDown.cls ≠ "java/lang/invoke/VarHandle" ∧ (parseMethodDescriptor yX11_goDown.desc).map (fun d => d.parameters.length) = some 1) := ⟨lw_gin (List.mem_append_right _ (tb_7 (List.mem_of_getElem? (i := 223) rfl))) rfl, lw_gin (List.mem_append_right _ (tb_1 (List.mem_of_getElem? (i := 13) rfl))) rfl, by decide +kernel⟩
theorem I_X11_goDown : Cond.instanceMethod yX11_goDown ∈ lw_g ∧ Cond.selects yX11_goDown.cls yX11_goDown yX11_goDown ∈ lw_g := ⟨lw_gin (List.mem_append_right _ (tb_7 (List.mem_of_getElem? (i := 222) rfl))) rfl, lw_gin (List.mem_append_left _ (List.mem_of_getElem? (i := 125) rfl)) rfl⟩
theorem Y_X11_indexOf : Cond.code yX11_indexOf cX11_indexOf 5 (some .int) ∈ lw_g ∧ Cond.initialized yX11_indexOf.cls ∈ lw_g ∧ (yX11_indexOf.cls ≠ "java/lang/invoke/MethodHandle" ∧ yX11_indexOf.cls ≠ "java/lang/invoke/VarHandle" ∧ (parseMethodDescriptor yX11_indexOf.desc).map (fun d => d.parameters.length) = some 2) := ⟨lw_gin (List.mem_append_right _ (tb_7 (List.mem_of_getElem? (i := 227) rfl))) rfl, lw_gin (List.mem_append_right _ (tb_1 (List.mem_of_getElem? (i := 13) rfl))) rfl, by decide +kernel⟩
theorem I_X11_indexOf : Cond.instanceMethod yX11_indexOf ∈ lw_g ∧ Cond.selects yX11_indexOf.cls yX11_indexOf yX11_indexOf ∈ lw_g := ⟨lw_gin (List.mem_append_right _ (tb_7 (List.mem_of_getElem? (i := 226) rfl))) rfl, lw_gin (List.mem_append_left _ (List.mem_of_getElem? (i := 126) rfl)) rfl⟩
theorem Y_X11_compressed : Cond.code yX11_compressed cX11_compressed 9 (some .int) ∈ lw_g ∧ Cond.initialized yX11_compressed.cls ∈ lw_g ∧ (yX11_compressed.cls ≠ "java/lang/invoke/MethodHandle" ∧ yX11_compressed.cls ≠ "java/lang/invoke/VarHandle" ∧ (parseMethodDescriptor yX11_compressed.desc).map (fun d => d.parameters.length) = some 2) := ⟨lw_gin (List.mem_append_right _ (tb_7 (List.mem_of_getElem? (i := 219) rfl))) rfl, lw_gin (List.mem_append_right _ (tb_1 (List.mem_of_getElem? (i := 13) rfl))) rfl, by decide +kernel⟩
theorem I_X11_compressed : Cond.instanceMethod yX11_compressed ∈ lw_g ∧ Cond.selects yX11_compressed.cls yX11_compressed yX11_compressed ∈ lw_g := ⟨lw_gin (List.mem_append_right _ (tb_7 (List.mem_of_getElem? (i := 218) rfl))) rfl, lw_gin (List.mem_append_left _ (List.mem_of_getElem? (i := 124) rfl)) rfl⟩
theorem Y_X11_tell : Cond.code yX11_tell cX11_tell 4 (some .int) ∈ lw_g ∧ Cond.initialized yX11_tell.cls ∈ lw_g ∧ (yX11_tell.cls ≠ "java/lang/invoke/MethodHandle" ∧ yX11_tell.cls ≠ "java/lang/invoke/VarHandle" ∧ (parseMethodDescriptor yX11_tell.desc).map (fun d => d.parameters.length) = some 2) := ⟨lw_gin (List.mem_append_right _ (tb_7 (List.mem_of_getElem? (i := 195) rfl))) rfl, lw_gin (List.mem_append_right _ (tb_1 (List.mem_of_getElem? (i := 13) rfl))) rfl, by decide +kernel⟩
theorem I_X11_tell : Cond.instanceMethod yX11_tell ∈ lw_g ∧ Cond.selects yX11_tell.cls yX11_tell yX11_tell ∈ lw_g := ⟨lw_gin (List.mem_append_right _ (tb_7 (List.mem_of_getElem? (i := 193) rfl))) rfl, lw_gin (List.mem_append_right _ (tb_7 (List.mem_of_getElem? (i := 194) rfl))) rfl⟩
theorem Y_X11_print : Cond.code yX11_print cX11_print 6 (some .int) ∈ lw_g ∧ Cond.initialized yX11_print.cls ∈ lw_g ∧ (yX11_print.cls ≠ "java/lang/invoke/MethodHandle" ∧ yX11_print.cls ≠ "java/lang/invoke/VarHandle" ∧ (parseMethodDescriptor yX11_print.desc).map (fun d => d.parameters.length) = some 1) := ⟨lw_gin (List.mem_append_right _ (tb_7 (List.mem_of_getElem? (i := 235) rfl))) rfl, lw_gin (List.mem_append_right _ (tb_1 (List.mem_of_getElem? (i := 13) rfl))) rfl, by decide +kernel⟩
theorem I_X11_print : Cond.instanceMethod yX11_print ∈ lw_g ∧ Cond.selects yX11_print.cls yX11_print yX11_print ∈ lw_g := ⟨lw_gin (List.mem_append_right _ (tb_7 (List.mem_of_getElem? (i := 233) rfl))) rfl, lw_gin (List.mem_append_right _ (tb_7 (List.mem_of_getElem? (i := 234) rfl))) rfl⟩
theorem Y_X11_out : Cond.code yX11_out cX11_out 2 (some .int) ∈ lw_g ∧ Cond.initialized yX11_out.cls ∈ lw_g ∧ (yX11_out.cls ≠ "java/lang/invoke/MethodHandle" ∧ yX11_out.cls ≠ "java/lang/invoke/VarHandle" ∧ (parseMethodDescriptor yX11_out.desc).map (fun d => d.parameters.length) = some 1) := ⟨lw_gin (List.mem_append_right _ (tb_7 (List.mem_of_getElem? (i := 239) rfl))) rfl, lw_gin (List.mem_append_right _ (tb_1 (List.mem_of_getElem? (i := 13) rfl))) rfl, by decide +kernel⟩
theorem I_X11_out : Cond.instanceMethod yX11_out ∈ lw_g ∧ Cond.selects yX11_out.cls yX11_out yX11_out ∈ lw_g := ⟨lw_gin (List.mem_append_right _ (tb_7 (List.mem_of_getElem? (i := 237) rfl))) rfl, lw_gin (List.mem_append_right _ (tb_7 (List.mem_of_getElem? (i := 238) rfl))) rfl⟩
theorem Y_X11_restOn : Cond.code yX11_restOn cX11_restOn 6 (none) ∈ lw_g ∧ Cond.initialized yX11_restOn.cls ∈ lw_g ∧ (yX11_restOn.cls ≠ "java/lang/invoke/MethodHandle" ∧ yX11_restOn.cls ≠ "java/lang/invoke/VarHandle" ∧ (parseMethodDescriptor yX11_restOn.desc).map (fun d => d.parameters.length) = some 1) := ⟨lw_gin (List.mem_append_right _ (tb_8 (List.mem_of_getElem? (i := 7) rfl))) rfl, lw_gin (List.mem_append_right _ (tb_1 (List.mem_of_getElem? (i := 13) rfl))) rfl, by decide +kernel⟩
theorem I_X11_restOn : Cond.instanceMethod yX11_restOn ∈ lw_g ∧ Cond.selects yX11_restOn.cls yX11_restOn yX11_restOn ∈ lw_g := ⟨lw_gin (List.mem_append_right _ (tb_8 (List.mem_of_getElem? (i := 6) rfl))) rfl, lw_gin (List.mem_append_left _ (List.mem_of_getElem? (i := 128) rfl)) rfl⟩
theorem Y_X11_rests : Cond.code yX11_rests cX11_rests 5 (some .int) ∈ lw_g ∧ Cond.initialized yX11_rests.cls ∈ lw_g ∧ (yX11_rests.cls ≠ "java/lang/invoke/MethodHandle" ∧ yX11_rests.cls ≠ "java/lang/invoke/VarHandle" ∧ (parseMethodDescriptor yX11_rests.desc).map (fun d => d.parameters.length) = some 2) := ⟨lw_gin (List.mem_append_right _ (tb_8 (List.mem_of_getElem? (i := 3) rfl))) rfl, lw_gin (List.mem_append_right _ (tb_1 (List.mem_of_getElem? (i := 13) rfl))) rfl, by decide +kernel⟩
theorem I_X11_rests : Cond.instanceMethod yX11_rests ∈ lw_g ∧ Cond.selects yX11_rests.cls yX11_rests yX11_rests ∈ lw_g := ⟨lw_gin (List.mem_append_right _ (tb_8 (List.mem_of_getElem? (i := 1) rfl))) rfl, lw_gin (List.mem_append_right _ (tb_8 (List.mem_of_getElem? (i := 2) rfl))) rfl⟩
theorem Y_X11_find : Cond.code yX11_find cX11_find 5 (some .int) ∈ lw_g ∧ Cond.initialized yX11_find.cls ∈ lw_g ∧ (yX11_find.cls ≠ "java/lang/invoke/MethodHandle" ∧ yX11_find.cls ≠ "java/lang/invoke/VarHandle" ∧ (parseMethodDescriptor yX11_find.desc).map (fun d => d.parameters.length) = some 0) := ⟨lw_gin (List.mem_append_right _ (tb_8 (List.mem_of_getElem? (i := 11) rfl))) rfl, lw_gin (List.mem_append_right _ (tb_1 (List.mem_of_getElem? (i := 13) rfl))) rfl, by decide +kernel⟩
theorem I_X11_find : Cond.instanceMethod yX11_find ∈ lw_g ∧ Cond.selects yX11_find.cls yX11_find yX11_find ∈ lw_g := ⟨lw_gin (List.mem_append_right _ (tb_8 (List.mem_of_getElem? (i := 9) rfl))) rfl, lw_gin (List.mem_append_right _ (tb_8 (List.mem_of_getElem? (i := 10) rfl))) rfl⟩
end

section
-- ===== PART A: goes FIRST, ahead of the names: the tables' words, and 'selects' of the private methods out of them =====
/-- a private method of a class that the tables say can be made, by its rows of tables_1 -/
def lw_okq (q : MethodName × Nat) : Prop := (q.1.cls ≠ "java/lang/invoke/MethodHandle" ∧ q.1.cls ≠ "java/lang/invoke/VarHandle") ∧ Cond.instantiable q.1.cls q.2 ∈ tables_1 ∧ Cond.privateMethod q.1 ∈ tables_1 ∧ Cond.instanceMethod q.1 ∈ tables_1
theorem lw_p0 : lw_okq (⟨"AxiomBook", "append", "(J)V"⟩, 11) := ⟨⟨by decide +kernel, by decide +kernel⟩, List.mem_of_getElem? (i := 17) (by decide +kernel), List.mem_of_getElem? (i := 502) (by decide +kernel), List.mem_of_getElem? (i := 503) (by decide +kernel)⟩
theorem lw_p1 : lw_okq (⟨"AxiomBook", "forgetAnswers", "()V"⟩, 11) := ⟨⟨by decide +kernel, by decide +kernel⟩, List.mem_of_getElem? (i := 17) (by decide +kernel), List.mem_of_getElem? (i := 510) (by decide +kernel), List.mem_of_getElem? (i := 511) (by decide +kernel)⟩
theorem lw_p2 : lw_okq (⟨"AxiomBook$Scanner", "cut", "()V"⟩, 5) := ⟨⟨by decide +kernel, by decide +kernel⟩, List.mem_of_getElem? (i := 236) (by decide +kernel), List.mem_of_getElem? (i := 547) (by decide +kernel), List.mem_of_getElem? (i := 548) (by decide +kernel)⟩
theorem lw_p3 : lw_okq (⟨"AxiomBook$Scanner", "hasWrongByte", "()Z"⟩, 5) := ⟨⟨by decide +kernel, by decide +kernel⟩, List.mem_of_getElem? (i := 236) (by decide +kernel), List.mem_of_getElem? (i := 554) (by decide +kernel), List.mem_of_getElem? (i := 555) (by decide +kernel)⟩
theorem lw_p4 : lw_okq (⟨"AxiomBook$Scanner", "isDollarAnd", "(I)Z"⟩, 5) := ⟨⟨by decide +kernel, by decide +kernel⟩, List.mem_of_getElem? (i := 236) (by decide +kernel), List.mem_of_getElem? (i := 558) (by decide +kernel), List.mem_of_getElem? (i := 559) (by decide +kernel)⟩
theorem lw_p5 : lw_okq (⟨"AxiomBook$Scanner", "hasCommentMark", "()Z"⟩, 5) := ⟨⟨by decide +kernel, by decide +kernel⟩, List.mem_of_getElem? (i := 236) (by decide +kernel), List.mem_of_getElem? (i := 562) (by decide +kernel), List.mem_of_getElem? (i := 563) (by decide +kernel)⟩
theorem lw_p6 : lw_okq (⟨"AxiomBook$Scanner", "keyword", "()I"⟩, 5) := ⟨⟨by decide +kernel, by decide +kernel⟩, List.mem_of_getElem? (i := 236) (by decide +kernel), List.mem_of_getElem? (i := 570) (by decide +kernel), List.mem_of_getElem? (i := 571) (by decide +kernel)⟩
theorem lw_p7 : lw_okq (⟨"AxiomBook$Reader", "takeLabel", "()I"⟩, 11) := ⟨⟨by decide +kernel, by decide +kernel⟩, List.mem_of_getElem? (i := 183) (by decide +kernel), List.mem_of_getElem? (i := 574) (by decide +kernel), List.mem_of_getElem? (i := 575) (by decide +kernel)⟩
theorem lw_p8 : lw_okq (⟨"AxiomBook$Reader", "namedByToken", "()I"⟩, 11) := ⟨⟨by decide +kernel, by decide +kernel⟩, List.mem_of_getElem? (i := 183) (by decide +kernel), List.mem_of_getElem? (i := 582) (by decide +kernel), List.mem_of_getElem? (i := 583) (by decide +kernel)⟩
theorem lw_p9 : lw_okq (⟨"AxiomBook$Names", "isSame", "(I[BI)Z"⟩, 5) := ⟨⟨by decide +kernel, by decide +kernel⟩, List.mem_of_getElem? (i := 31) (by decide +kernel), List.mem_of_getElem? (i := 593) (by decide +kernel), List.mem_of_getElem? (i := 594) (by decide +kernel)⟩
theorem lw_p10 : lw_okq (⟨"AxiomBook$Reader", "takeOutside", "(I)I"⟩, 11) := ⟨⟨by decide +kernel, by decide +kernel⟩, List.mem_of_getElem? (i := 183) (by decide +kernel), List.mem_of_getElem? (i := 597) (by decide +kernel), List.mem_of_getElem? (i := 598) (by decide +kernel)⟩
theorem lw_p11 : lw_okq (⟨"AxiomBook$Reader", "begin", "(I)I"⟩, 11) := ⟨⟨by decide +kernel, by decide +kernel⟩, List.mem_of_getElem? (i := 183) (by decide +kernel), List.mem_of_getElem? (i := 601) (by decide +kernel), List.mem_of_getElem? (i := 602) (by decide +kernel)⟩
theorem lw_p12 : lw_okq (⟨"AxiomBook$Scope", "dropPairs", "()V"⟩, 13) := ⟨⟨by decide +kernel, by decide +kernel⟩, List.mem_of_getElem? (i := 189) (by decide +kernel), List.mem_of_getElem? (i := 613) (by decide +kernel), List.mem_of_getElem? (i := 614) (by decide +kernel)⟩
theorem lw_p13 : lw_okq (⟨"AxiomBook$Scope", "dropHypothesis", "(LAxiomBook$Book;I)V"⟩, 13) := ⟨⟨by decide +kernel, by decide +kernel⟩, List.mem_of_getElem? (i := 189) (by decide +kernel), List.mem_of_getElem? (i := 617) (by decide +kernel), List.mem_of_getElem? (i := 618) (by decide +kernel)⟩
theorem lw_p14 : lw_okq (⟨"AxiomBook$Scope", "addNeeds", "(LAxiomBook$Book;II)V"⟩, 13) := ⟨⟨by decide +kernel, by decide +kernel⟩, List.mem_of_getElem? (i := 189) (by decide +kernel), List.mem_of_getElem? (i := 625) (by decide +kernel), List.mem_of_getElem? (i := 626) (by decide +kernel)⟩
theorem lw_p15 : lw_okq (⟨"AxiomBook$Reader", "takeKind", "(I)I"⟩, 11) := ⟨⟨by decide +kernel, by decide +kernel⟩, List.mem_of_getElem? (i := 183) (by decide +kernel), List.mem_of_getElem? (i := 633) (by decide +kernel), List.mem_of_getElem? (i := 634) (by decide +kernel)⟩
def lw_privs_1 : List (MethodName × Nat) := [(⟨"AxiomBook", "append", "(J)V"⟩, 11), (⟨"AxiomBook", "forgetAnswers", "()V"⟩, 11), (⟨"AxiomBook$Scanner", "cut", "()V"⟩, 5), (⟨"AxiomBook$Scanner", "hasWrongByte", "()Z"⟩, 5), (⟨"AxiomBook$Scanner", "isDollarAnd", "(I)Z"⟩, 5), (⟨"AxiomBook$Scanner", "hasCommentMark", "()Z"⟩, 5), (⟨"AxiomBook$Scanner", "keyword", "()I"⟩, 5), (⟨"AxiomBook$Reader", "takeLabel", "()I"⟩, 11), (⟨"AxiomBook$Reader", "namedByToken", "()I"⟩, 11), (⟨"AxiomBook$Names", "isSame", "(I[BI)Z"⟩, 5), (⟨"AxiomBook$Reader", "takeOutside", "(I)I"⟩, 11), (⟨"AxiomBook$Reader", "begin", "(I)I"⟩, 11), (⟨"AxiomBook$Scope", "dropPairs", "()V"⟩, 13), (⟨"AxiomBook$Scope", "dropHypothesis", "(LAxiomBook$Book;I)V"⟩, 13), (⟨"AxiomBook$Scope", "addNeeds", "(LAxiomBook$Book;II)V"⟩, 13), (⟨"AxiomBook$Reader", "takeKind", "(I)I"⟩, 11)]
theorem lw_r1 : ∀ q ∈ lw_privs_1, lw_okq q := List.forall_mem_cons.mpr ⟨lw_p0, List.forall_mem_cons.mpr ⟨lw_p1, List.forall_mem_cons.mpr ⟨lw_p2, List.forall_mem_cons.mpr ⟨lw_p3, List.forall_mem_cons.mpr ⟨lw_p4, List.forall_mem_cons.mpr ⟨lw_p5, List.forall_mem_cons.mpr ⟨lw_p6, List.forall_mem_cons.mpr ⟨lw_p7, List.forall_mem_cons.mpr ⟨lw_p8, List.forall_mem_cons.mpr ⟨lw_p9, List.forall_mem_cons.mpr ⟨lw_p10, List.forall_mem_cons.mpr ⟨lw_p11, List.forall_mem_cons.mpr ⟨lw_p12, List.forall_mem_cons.mpr ⟨lw_p13, List.forall_mem_cons.mpr ⟨lw_p14, List.forall_mem_cons.mpr ⟨lw_p15, fun _ h => absurd h List.not_mem_nil⟩⟩⟩⟩⟩⟩⟩⟩⟩⟩⟩⟩⟩⟩⟩⟩
theorem lw_p16 : lw_okq (⟨"AxiomBook$Reader", "takeDeclared", "(I)I"⟩, 11) := ⟨⟨by decide +kernel, by decide +kernel⟩, List.mem_of_getElem? (i := 183) (by decide +kernel), List.mem_of_getElem? (i := 637) (by decide +kernel), List.mem_of_getElem? (i := 638) (by decide +kernel)⟩
theorem lw_p17 : lw_okq (⟨"AxiomBook$Reader", "takeSeparated", "(I)I"⟩, 11) := ⟨⟨by decide +kernel, by decide +kernel⟩, List.mem_of_getElem? (i := 183) (by decide +kernel), List.mem_of_getElem? (i := 661) (by decide +kernel), List.mem_of_getElem? (i := 662) (by decide +kernel)⟩
theorem lw_p18 : lw_okq (⟨"AxiomBook$Reader", "takeSymbol", "()I"⟩, 11) := ⟨⟨by decide +kernel, by decide +kernel⟩, List.mem_of_getElem? (i := 183) (by decide +kernel), List.mem_of_getElem? (i := 678) (by decide +kernel), List.mem_of_getElem? (i := 679) (by decide +kernel)⟩
theorem lw_p19 : lw_okq (⟨"AxiomBook$Reader", "mayStand", "(I)Z"⟩, 11) := ⟨⟨by decide +kernel, by decide +kernel⟩, List.mem_of_getElem? (i := 183) (by decide +kernel), List.mem_of_getElem? (i := 682) (by decide +kernel), List.mem_of_getElem? (i := 683) (by decide +kernel)⟩
theorem lw_p20 : lw_okq (⟨"AxiomBook$Reader", "takeEnd", "(I)I"⟩, 11) := ⟨⟨by decide +kernel, by decide +kernel⟩, List.mem_of_getElem? (i := 183) (by decide +kernel), List.mem_of_getElem? (i := 710) (by decide +kernel), List.mem_of_getElem? (i := 711) (by decide +kernel)⟩
theorem lw_p21 : lw_okq (⟨"AxiomBook$Reader", "takeProofToken", "(I)I"⟩, 11) := ⟨⟨by decide +kernel, by decide +kernel⟩, List.mem_of_getElem? (i := 183) (by decide +kernel), List.mem_of_getElem? (i := 714) (by decide +kernel), List.mem_of_getElem? (i := 715) (by decide +kernel)⟩
theorem lw_p22 : lw_okq (⟨"AxiomBook$Reader", "endStatement", "()V"⟩, 11) := ⟨⟨by decide +kernel, by decide +kernel⟩, List.mem_of_getElem? (i := 183) (by decide +kernel), List.mem_of_getElem? (i := 718) (by decide +kernel), List.mem_of_getElem? (i := 719) (by decide +kernel)⟩
theorem lw_p23 : lw_okq (⟨"AxiomBook", "examine", "(I)I"⟩, 11) := ⟨⟨by decide +kernel, by decide +kernel⟩, List.mem_of_getElem? (i := 17) (by decide +kernel), List.mem_of_getElem? (i := 801) (by decide +kernel), List.mem_of_getElem? (i := 802) (by decide +kernel)⟩
theorem lw_p24 : lw_okq (⟨"AxiomBook$Proof", "isOpen", "()Z"⟩, 13) := ⟨⟨by decide +kernel, by decide +kernel⟩, List.mem_of_getElem? (i := 296) (by decide +kernel), List.mem_of_getElem? (i := 809) (by decide +kernel), List.mem_of_getElem? (i := 810) (by decide +kernel)⟩
theorem lw_p25 : lw_okq (⟨"AxiomBook$Proof", "decodeList", "()I"⟩, 13) := ⟨⟨by decide +kernel, by decide +kernel⟩, List.mem_of_getElem? (i := 296) (by decide +kernel), List.mem_of_getElem? (i := 817) (by decide +kernel), List.mem_of_getElem? (i := 818) (by decide +kernel)⟩
theorem lw_p26 : lw_okq (⟨"AxiomBook$Proof", "knowHypotheses", "()V"⟩, 13) := ⟨⟨by decide +kernel, by decide +kernel⟩, List.mem_of_getElem? (i := 296) (by decide +kernel), List.mem_of_getElem? (i := 821) (by decide +kernel), List.mem_of_getElem? (i := 822) (by decide +kernel)⟩
theorem lw_p27 : lw_okq (⟨"AxiomBook$Proof", "know", "(I)V"⟩, 13) := ⟨⟨by decide +kernel, by decide +kernel⟩, List.mem_of_getElem? (i := 296) (by decide +kernel), List.mem_of_getElem? (i := 826) (by decide +kernel), List.mem_of_getElem? (i := 827) (by decide +kernel)⟩
theorem lw_p28 : lw_okq (⟨"AxiomBook$Proof", "mayName", "(I)Z"⟩, 13) := ⟨⟨by decide +kernel, by decide +kernel⟩, List.mem_of_getElem? (i := 296) (by decide +kernel), List.mem_of_getElem? (i := 830) (by decide +kernel), List.mem_of_getElem? (i := 831) (by decide +kernel)⟩
theorem lw_p29 : lw_okq (⟨"AxiomBook$Proof", "fail", "(II)I"⟩, 13) := ⟨⟨by decide +kernel, by decide +kernel⟩, List.mem_of_getElem? (i := 296) (by decide +kernel), List.mem_of_getElem? (i := 834) (by decide +kernel), List.mem_of_getElem? (i := 835) (by decide +kernel)⟩
theorem lw_p30 : lw_okq (⟨"AxiomBook$Proof", "decodeLabels", "()I"⟩, 13) := ⟨⟨by decide +kernel, by decide +kernel⟩, List.mem_of_getElem? (i := 296) (by decide +kernel), List.mem_of_getElem? (i := 838) (by decide +kernel), List.mem_of_getElem? (i := 839) (by decide +kernel)⟩
theorem lw_p31 : lw_okq (⟨"AxiomBook$Proof", "addStep", "(I)V"⟩, 13) := ⟨⟨by decide +kernel, by decide +kernel⟩, List.mem_of_getElem? (i := 296) (by decide +kernel), List.mem_of_getElem? (i := 842) (by decide +kernel), List.mem_of_getElem? (i := 843) (by decide +kernel)⟩
def lw_privs_2 : List (MethodName × Nat) := [(⟨"AxiomBook$Reader", "takeDeclared", "(I)I"⟩, 11), (⟨"AxiomBook$Reader", "takeSeparated", "(I)I"⟩, 11), (⟨"AxiomBook$Reader", "takeSymbol", "()I"⟩, 11), (⟨"AxiomBook$Reader", "mayStand", "(I)Z"⟩, 11), (⟨"AxiomBook$Reader", "takeEnd", "(I)I"⟩, 11), (⟨"AxiomBook$Reader", "takeProofToken", "(I)I"⟩, 11), (⟨"AxiomBook$Reader", "endStatement", "()V"⟩, 11), (⟨"AxiomBook", "examine", "(I)I"⟩, 11), (⟨"AxiomBook$Proof", "isOpen", "()Z"⟩, 13), (⟨"AxiomBook$Proof", "decodeList", "()I"⟩, 13), (⟨"AxiomBook$Proof", "knowHypotheses", "()V"⟩, 13), (⟨"AxiomBook$Proof", "know", "(I)V"⟩, 13), (⟨"AxiomBook$Proof", "mayName", "(I)Z"⟩, 13), (⟨"AxiomBook$Proof", "fail", "(II)I"⟩, 13), (⟨"AxiomBook$Proof", "decodeLabels", "()I"⟩, 13), (⟨"AxiomBook$Proof", "addStep", "(I)V"⟩, 13)]
theorem lw_r2 : ∀ q ∈ lw_privs_2, lw_okq q := List.forall_mem_cons.mpr ⟨lw_p16, List.forall_mem_cons.mpr ⟨lw_p17, List.forall_mem_cons.mpr ⟨lw_p18, List.forall_mem_cons.mpr ⟨lw_p19, List.forall_mem_cons.mpr ⟨lw_p20, List.forall_mem_cons.mpr ⟨lw_p21, List.forall_mem_cons.mpr ⟨lw_p22, List.forall_mem_cons.mpr ⟨lw_p23, List.forall_mem_cons.mpr ⟨lw_p24, List.forall_mem_cons.mpr ⟨lw_p25, List.forall_mem_cons.mpr ⟨lw_p26, List.forall_mem_cons.mpr ⟨lw_p27, List.forall_mem_cons.mpr ⟨lw_p28, List.forall_mem_cons.mpr ⟨lw_p29, List.forall_mem_cons.mpr ⟨lw_p30, List.forall_mem_cons.mpr ⟨lw_p31, fun _ h => absurd h List.not_mem_nil⟩⟩⟩⟩⟩⟩⟩⟩⟩⟩⟩⟩⟩⟩⟩⟩
theorem lw_p32 : lw_okq (⟨"AxiomBook$Proof", "decodeLetters", "()I"⟩, 13) := ⟨⟨by decide +kernel, by decide +kernel⟩, List.mem_of_getElem? (i := 296) (by decide +kernel), List.mem_of_getElem? (i := 846) (by decide +kernel), List.mem_of_getElem? (i := 847) (by decide +kernel)⟩
theorem lw_p33 : lw_okq (⟨"AxiomBook$Proof", "takeLetter", "(I)I"⟩, 13) := ⟨⟨by decide +kernel, by decide +kernel⟩, List.mem_of_getElem? (i := 296) (by decide +kernel), List.mem_of_getElem? (i := 850) (by decide +kernel), List.mem_of_getElem? (i := 851) (by decide +kernel)⟩
theorem lw_p34 : lw_okq (⟨"AxiomBook$Proof", "mark", "()I"⟩, 13) := ⟨⟨by decide +kernel, by decide +kernel⟩, List.mem_of_getElem? (i := 296) (by decide +kernel), List.mem_of_getElem? (i := 854) (by decide +kernel), List.mem_of_getElem? (i := 855) (by decide +kernel)⟩
theorem lw_p35 : lw_okq (⟨"AxiomBook$Proof", "takeNumber", "(I)I"⟩, 13) := ⟨⟨by decide +kernel, by decide +kernel⟩, List.mem_of_getElem? (i := 296) (by decide +kernel), List.mem_of_getElem? (i := 860) (by decide +kernel), List.mem_of_getElem? (i := 861) (by decide +kernel)⟩
theorem lw_p36 : lw_okq (⟨"AxiomBook$Machine", "notePartners", "(I)V"⟩, 6) := ⟨⟨by decide +kernel, by decide +kernel⟩, List.mem_of_getElem? (i := 353) (by decide +kernel), List.mem_of_getElem? (i := 869) (by decide +kernel), List.mem_of_getElem? (i := 870) (by decide +kernel)⟩
theorem lw_p37 : lw_okq (⟨"AxiomBook$Machine", "addPartner", "(II)V"⟩, 6) := ⟨⟨by decide +kernel, by decide +kernel⟩, List.mem_of_getElem? (i := 353) (by decide +kernel), List.mem_of_getElem? (i := 878) (by decide +kernel), List.mem_of_getElem? (i := 879) (by decide +kernel)⟩
theorem lw_p38 : lw_okq (⟨"AxiomBook$Machine", "apply", "(I)I"⟩, 6) := ⟨⟨by decide +kernel, by decide +kernel⟩, List.mem_of_getElem? (i := 353) (by decide +kernel), List.mem_of_getElem? (i := 883) (by decide +kernel), List.mem_of_getElem? (i := 884) (by decide +kernel)⟩
theorem lw_p39 : lw_okq (⟨"AxiomBook$Machine", "fit", "(II)I"⟩, 6) := ⟨⟨by decide +kernel, by decide +kernel⟩, List.mem_of_getElem? (i := 353) (by decide +kernel), List.mem_of_getElem? (i := 887) (by decide +kernel), List.mem_of_getElem? (i := 888) (by decide +kernel)⟩
theorem lw_p40 : lw_okq (⟨"AxiomBook$Machine", "isInstance", "(II)Z"⟩, 6) := ⟨⟨by decide +kernel, by decide +kernel⟩, List.mem_of_getElem? (i := 353) (by decide +kernel), List.mem_of_getElem? (i := 891) (by decide +kernel), List.mem_of_getElem? (i := 892) (by decide +kernel)⟩
theorem lw_p41 : lw_okq (⟨"AxiomBook$Machine", "keepsApart", "(I)Z"⟩, 6) := ⟨⟨by decide +kernel, by decide +kernel⟩, List.mem_of_getElem? (i := 353) (by decide +kernel), List.mem_of_getElem? (i := 896) (by decide +kernel), List.mem_of_getElem? (i := 897) (by decide +kernel)⟩
theorem lw_p42 : lw_okq (⟨"AxiomBook$Machine", "areApart", "(II)Z"⟩, 6) := ⟨⟨by decide +kernel, by decide +kernel⟩, List.mem_of_getElem? (i := 353) (by decide +kernel), List.mem_of_getElem? (i := 900) (by decide +kernel), List.mem_of_getElem? (i := 901) (by decide +kernel)⟩
theorem lw_p43 : lw_okq (⟨"AxiomBook$Machine", "isPartnerOfOthers", "(I)Z"⟩, 6) := ⟨⟨by decide +kernel, by decide +kernel⟩, List.mem_of_getElem? (i := 353) (by decide +kernel), List.mem_of_getElem? (i := 904) (by decide +kernel), List.mem_of_getElem? (i := 905) (by decide +kernel)⟩
theorem lw_p44 : lw_okq (⟨"AxiomBook$Machine", "sizeOf", "(I)I"⟩, 6) := ⟨⟨by decide +kernel, by decide +kernel⟩, List.mem_of_getElem? (i := 353) (by decide +kernel), List.mem_of_getElem? (i := 909) (by decide +kernel), List.mem_of_getElem? (i := 910) (by decide +kernel)⟩
theorem lw_p45 : lw_okq (⟨"AxiomBook$Machine", "pushInstance", "(I)V"⟩, 6) := ⟨⟨by decide +kernel, by decide +kernel⟩, List.mem_of_getElem? (i := 353) (by decide +kernel), List.mem_of_getElem? (i := 913) (by decide +kernel), List.mem_of_getElem? (i := 914) (by decide +kernel)⟩
theorem lw_p46 : lw_okq (⟨"AxiomBook$Machine", "push", "(I)I"⟩, 6) := ⟨⟨by decide +kernel, by decide +kernel⟩, List.mem_of_getElem? (i := 353) (by decide +kernel), List.mem_of_getElem? (i := 931) (by decide +kernel), List.mem_of_getElem? (i := 932) (by decide +kernel)⟩
theorem lw_p47 : lw_okq (⟨"AxiomBook$Teller", "nodeOf", "(III)I"⟩, 17) := ⟨⟨by decide +kernel, by decide +kernel⟩, List.mem_of_getElem? (i := 381) (by decide +kernel), List.mem_of_getElem? (i := 971) (by decide +kernel), List.mem_of_getElem? (i := 972) (by decide +kernel)⟩
def lw_privs_3 : List (MethodName × Nat) := [(⟨"AxiomBook$Proof", "decodeLetters", "()I"⟩, 13), (⟨"AxiomBook$Proof", "takeLetter", "(I)I"⟩, 13), (⟨"AxiomBook$Proof", "mark", "()I"⟩, 13), (⟨"AxiomBook$Proof", "takeNumber", "(I)I"⟩, 13), (⟨"AxiomBook$Machine", "notePartners", "(I)V"⟩, 6), (⟨"AxiomBook$Machine", "addPartner", "(II)V"⟩, 6), (⟨"AxiomBook$Machine", "apply", "(I)I"⟩, 6), (⟨"AxiomBook$Machine", "fit", "(II)I"⟩, 6), (⟨"AxiomBook$Machine", "isInstance", "(II)Z"⟩, 6), (⟨"AxiomBook$Machine", "keepsApart", "(I)Z"⟩, 6), (⟨"AxiomBook$Machine", "areApart", "(II)Z"⟩, 6), (⟨"AxiomBook$Machine", "isPartnerOfOthers", "(I)Z"⟩, 6), (⟨"AxiomBook$Machine", "sizeOf", "(I)I"⟩, 6), (⟨"AxiomBook$Machine", "pushInstance", "(I)V"⟩, 6), (⟨"AxiomBook$Machine", "push", "(I)I"⟩, 6), (⟨"AxiomBook$Teller", "nodeOf", "(III)I"⟩, 17)]
theorem lw_r3 : ∀ q ∈ lw_privs_3, lw_okq q := List.forall_mem_cons.mpr ⟨lw_p32, List.forall_mem_cons.mpr ⟨lw_p33, List.forall_mem_cons.mpr ⟨lw_p34, List.forall_mem_cons.mpr ⟨lw_p35, List.forall_mem_cons.mpr ⟨lw_p36, List.forall_mem_cons.mpr ⟨lw_p37, List.forall_mem_cons.mpr ⟨lw_p38, List.forall_mem_cons.mpr ⟨lw_p39, List.forall_mem_cons.mpr ⟨lw_p40, List.forall_mem_cons.mpr ⟨lw_p41, List.forall_mem_cons.mpr ⟨lw_p42, List.forall_mem_cons.mpr ⟨lw_p43, List.forall_mem_cons.mpr ⟨lw_p44, List.forall_mem_cons.mpr ⟨lw_p45, List.forall_mem_cons.mpr ⟨lw_p46, List.forall_mem_cons.mpr ⟨lw_p47, fun _ h => absurd h List.not_mem_nil⟩⟩⟩⟩⟩⟩⟩⟩⟩⟩⟩⟩⟩⟩⟩⟩
theorem lw_p48 : lw_okq (⟨"AxiomBook$Teller", "takesStack", "(II)Z"⟩, 17) := ⟨⟨by decide +kernel, by decide +kernel⟩, List.mem_of_getElem? (i := 381) (by decide +kernel), List.mem_of_getElem? (i := 975) (by decide +kernel), List.mem_of_getElem? (i := 976) (by decide +kernel)⟩
theorem lw_p49 : lw_okq (⟨"AxiomBook$Teller", "addNode", "(IIII)I"⟩, 17) := ⟨⟨by decide +kernel, by decide +kernel⟩, List.mem_of_getElem? (i := 381) (by decide +kernel), List.mem_of_getElem? (i := 980) (by decide +kernel), List.mem_of_getElem? (i := 981) (by decide +kernel)⟩
theorem lw_p50 : lw_okq (⟨"AxiomBook$Teller", "numberLabels", "(LAxiomBook$Sheet;)V"⟩, 17) := ⟨⟨by decide +kernel, by decide +kernel⟩, List.mem_of_getElem? (i := 381) (by decide +kernel), List.mem_of_getElem? (i := 990) (by decide +kernel), List.mem_of_getElem? (i := 991) (by decide +kernel)⟩
theorem lw_p51 : lw_okq (⟨"AxiomBook$Teller", "enterRoot", "()V"⟩, 17) := ⟨⟨by decide +kernel, by decide +kernel⟩, List.mem_of_getElem? (i := 381) (by decide +kernel), List.mem_of_getElem? (i := 1008) (by decide +kernel), List.mem_of_getElem? (i := 1009) (by decide +kernel)⟩
theorem lw_p52 : lw_okq (⟨"AxiomBook$Teller", "enter", "(I)V"⟩, 17) := ⟨⟨by decide +kernel, by decide +kernel⟩, List.mem_of_getElem? (i := 381) (by decide +kernel), List.mem_of_getElem? (i := 1012) (by decide +kernel), List.mem_of_getElem? (i := 1013) (by decide +kernel)⟩
theorem lw_p53 : lw_okq (⟨"AxiomBook$Teller", "nextTaken", "()I"⟩, 17) := ⟨⟨by decide +kernel, by decide +kernel⟩, List.mem_of_getElem? (i := 381) (by decide +kernel), List.mem_of_getElem? (i := 1016) (by decide +kernel), List.mem_of_getElem? (i := 1017) (by decide +kernel)⟩
theorem lw_p54 : lw_okq (⟨"AxiomBook$Teller", "leave", "(LAxiomBook$Sheet;)V"⟩, 17) := ⟨⟨by decide +kernel, by decide +kernel⟩, List.mem_of_getElem? (i := 381) (by decide +kernel), List.mem_of_getElem? (i := 1020) (by decide +kernel), List.mem_of_getElem? (i := 1021) (by decide +kernel)⟩
theorem lw_p55 : lw_okq (⟨"AxiomBook$Teller", "putNumber", "(LAxiomBook$Sheet;I)V"⟩, 17) := ⟨⟨by decide +kernel, by decide +kernel⟩, List.mem_of_getElem? (i := 381) (by decide +kernel), List.mem_of_getElem? (i := 1024) (by decide +kernel), List.mem_of_getElem? (i := 1025) (by decide +kernel)⟩
theorem lw_p56 : lw_okq (⟨"AxiomBook", "publish", "()I"⟩, 11) := ⟨⟨by decide +kernel, by decide +kernel⟩, List.mem_of_getElem? (i := 17) (by decide +kernel), List.mem_of_getElem? (i := 1028) (by decide +kernel), List.mem_of_getElem? (i := 1029) (by decide +kernel)⟩
theorem lw_p57 : lw_okq (⟨"AxiomBook", "writeStatement", "(LAxiomBook$Sheet;I)V"⟩, 11) := ⟨⟨by decide +kernel, by decide +kernel⟩, List.mem_of_getElem? (i := 17) (by decide +kernel), List.mem_of_getElem? (i := 1040) (by decide +kernel), List.mem_of_getElem? (i := 1041) (by decide +kernel)⟩
theorem lw_p58 : lw_okq (⟨"AxiomBookModel", "readBook", "()I"⟩, 86) := ⟨⟨by decide +kernel, by decide +kernel⟩, List.mem_of_getElem? (i := 1066) (by decide +kernel), List.mem_of_getElem? (i := 1345) (by decide +kernel), List.mem_of_getElem? (i := 1346) (by decide +kernel)⟩
theorem lw_p59 : lw_okq (⟨"AxiomBookModel", "beginBook", "()V"⟩, 86) := ⟨⟨by decide +kernel, by decide +kernel⟩, List.mem_of_getElem? (i := 1066) (by decide +kernel), List.mem_of_getElem? (i := 1349) (by decide +kernel), List.mem_of_getElem? (i := 1350) (by decide +kernel)⟩
theorem lw_p60 : lw_okq (⟨"AxiomBookModel", "nextToken", "()Z"⟩, 86) := ⟨⟨by decide +kernel, by decide +kernel⟩, List.mem_of_getElem? (i := 1066) (by decide +kernel), List.mem_of_getElem? (i := 1353) (by decide +kernel), List.mem_of_getElem? (i := 1354) (by decide +kernel)⟩
theorem lw_p61 : lw_okq (⟨"AxiomBookModel", "hasBad", "()Z"⟩, 86) := ⟨⟨by decide +kernel, by decide +kernel⟩, List.mem_of_getElem? (i := 1066) (by decide +kernel), List.mem_of_getElem? (i := 1360) (by decide +kernel), List.mem_of_getElem? (i := 1361) (by decide +kernel)⟩
theorem lw_p62 : lw_okq (⟨"AxiomBookModel", "isWord", "(I)Z"⟩, 86) := ⟨⟨by decide +kernel, by decide +kernel⟩, List.mem_of_getElem? (i := 1066) (by decide +kernel), List.mem_of_getElem? (i := 1364) (by decide +kernel), List.mem_of_getElem? (i := 1365) (by decide +kernel)⟩
theorem lw_p63 : lw_okq (⟨"AxiomBookModel", "hasPart", "(I)Z"⟩, 86) := ⟨⟨by decide +kernel, by decide +kernel⟩, List.mem_of_getElem? (i := 1066) (by decide +kernel), List.mem_of_getElem? (i := 1368) (by decide +kernel), List.mem_of_getElem? (i := 1369) (by decide +kernel)⟩
def lw_privs_4 : List (MethodName × Nat) := [(⟨"AxiomBook$Teller", "takesStack", "(II)Z"⟩, 17), (⟨"AxiomBook$Teller", "addNode", "(IIII)I"⟩, 17), (⟨"AxiomBook$Teller", "numberLabels", "(LAxiomBook$Sheet;)V"⟩, 17), (⟨"AxiomBook$Teller", "enterRoot", "()V"⟩, 17), (⟨"AxiomBook$Teller", "enter", "(I)V"⟩, 17), (⟨"AxiomBook$Teller", "nextTaken", "()I"⟩, 17), (⟨"AxiomBook$Teller", "leave", "(LAxiomBook$Sheet;)V"⟩, 17), (⟨"AxiomBook$Teller", "putNumber", "(LAxiomBook$Sheet;I)V"⟩, 17), (⟨"AxiomBook", "publish", "()I"⟩, 11), (⟨"AxiomBook", "writeStatement", "(LAxiomBook$Sheet;I)V"⟩, 11), (⟨"AxiomBookModel", "readBook", "()I"⟩, 86), (⟨"AxiomBookModel", "beginBook", "()V"⟩, 86), (⟨"AxiomBookModel", "nextToken", "()Z"⟩, 86), (⟨"AxiomBookModel", "hasBad", "()Z"⟩, 86), (⟨"AxiomBookModel", "isWord", "(I)Z"⟩, 86), (⟨"AxiomBookModel", "hasPart", "(I)Z"⟩, 86)]
theorem lw_r4 : ∀ q ∈ lw_privs_4, lw_okq q := List.forall_mem_cons.mpr ⟨lw_p48, List.forall_mem_cons.mpr ⟨lw_p49, List.forall_mem_cons.mpr ⟨lw_p50, List.forall_mem_cons.mpr ⟨lw_p51, List.forall_mem_cons.mpr ⟨lw_p52, List.forall_mem_cons.mpr ⟨lw_p53, List.forall_mem_cons.mpr ⟨lw_p54, List.forall_mem_cons.mpr ⟨lw_p55, List.forall_mem_cons.mpr ⟨lw_p56, List.forall_mem_cons.mpr ⟨lw_p57, List.forall_mem_cons.mpr ⟨lw_p58, List.forall_mem_cons.mpr ⟨lw_p59, List.forall_mem_cons.mpr ⟨lw_p60, List.forall_mem_cons.mpr ⟨lw_p61, List.forall_mem_cons.mpr ⟨lw_p62, List.forall_mem_cons.mpr ⟨lw_p63, fun _ h => absurd h List.not_mem_nil⟩⟩⟩⟩⟩⟩⟩⟩⟩⟩⟩⟩⟩⟩⟩⟩
theorem lw_p64 : lw_okq (⟨"AxiomBookModel", "hasDollar", "()Z"⟩, 86) := ⟨⟨by decide +kernel, by decide +kernel⟩, List.mem_of_getElem? (i := 1066) (by decide +kernel), List.mem_of_getElem? (i := 1372) (by decide +kernel), List.mem_of_getElem? (i := 1373) (by decide +kernel)⟩
theorem lw_p65 : lw_okq (⟨"AxiomBookModel", "isKeyword", "()Z"⟩, 86) := ⟨⟨by decide +kernel, by decide +kernel⟩, List.mem_of_getElem? (i := 1066) (by decide +kernel), List.mem_of_getElem? (i := 1376) (by decide +kernel), List.mem_of_getElem? (i := 1377) (by decide +kernel)⟩
theorem lw_p66 : lw_okq (⟨"AxiomBookModel", "token", "()I"⟩, 86) := ⟨⟨by decide +kernel, by decide +kernel⟩, List.mem_of_getElem? (i := 1066) (by decide +kernel), List.mem_of_getElem? (i := 1380) (by decide +kernel), List.mem_of_getElem? (i := 1381) (by decide +kernel)⟩
theorem lw_p67 : lw_okq (⟨"AxiomBookModel", "outside", "()I"⟩, 86) := ⟨⟨by decide +kernel, by decide +kernel⟩, List.mem_of_getElem? (i := 1066) (by decide +kernel), List.mem_of_getElem? (i := 1384) (by decide +kernel), List.mem_of_getElem? (i := 1385) (by decide +kernel)⟩
theorem lw_p68 : lw_okq (⟨"AxiomBookModel", "closeBlock", "()V"⟩, 86) := ⟨⟨by decide +kernel, by decide +kernel⟩, List.mem_of_getElem? (i := 1066) (by decide +kernel), List.mem_of_getElem? (i := 1388) (by decide +kernel), List.mem_of_getElem? (i := 1389) (by decide +kernel)⟩
theorem lw_p69 : lw_okq (⟨"AxiomBookModel", "isLabel", "()Z"⟩, 86) := ⟨⟨by decide +kernel, by decide +kernel⟩, List.mem_of_getElem? (i := 1066) (by decide +kernel), List.mem_of_getElem? (i := 1392) (by decide +kernel), List.mem_of_getElem? (i := 1393) (by decide +kernel)⟩
theorem lw_p70 : lw_okq (⟨"AxiomBookModel", "labelHere", "()I"⟩, 86) := ⟨⟨by decide +kernel, by decide +kernel⟩, List.mem_of_getElem? (i := 1066) (by decide +kernel), List.mem_of_getElem? (i := 1396) (by decide +kernel), List.mem_of_getElem? (i := 1397) (by decide +kernel)⟩
theorem lw_p71 : lw_okq (⟨"AxiomBookModel", "same", "(II)Z"⟩, 86) := ⟨⟨by decide +kernel, by decide +kernel⟩, List.mem_of_getElem? (i := 1066) (by decide +kernel), List.mem_of_getElem? (i := 1400) (by decide +kernel), List.mem_of_getElem? (i := 1401) (by decide +kernel)⟩
theorem lw_p72 : lw_okq (⟨"AxiomBookModel", "symbolHere", "()I"⟩, 86) := ⟨⟨by decide +kernel, by decide +kernel⟩, List.mem_of_getElem? (i := 1066) (by decide +kernel), List.mem_of_getElem? (i := 1404) (by decide +kernel), List.mem_of_getElem? (i := 1405) (by decide +kernel)⟩
theorem lw_p73 : lw_okq (⟨"AxiomBookModel", "kindOf", "()I"⟩, 86) := ⟨⟨by decide +kernel, by decide +kernel⟩, List.mem_of_getElem? (i := 1066) (by decide +kernel), List.mem_of_getElem? (i := 1408) (by decide +kernel), List.mem_of_getElem? (i := 1409) (by decide +kernel)⟩
theorem lw_p74 : lw_okq (⟨"AxiomBookModel", "declared", "()I"⟩, 86) := ⟨⟨by decide +kernel, by decide +kernel⟩, List.mem_of_getElem? (i := 1066) (by decide +kernel), List.mem_of_getElem? (i := 1412) (by decide +kernel), List.mem_of_getElem? (i := 1413) (by decide +kernel)⟩
theorem lw_p75 : lw_okq (⟨"AxiomBookModel", "distinct", "()I"⟩, 86) := ⟨⟨by decide +kernel, by decide +kernel⟩, List.mem_of_getElem? (i := 1066) (by decide +kernel), List.mem_of_getElem? (i := 1416) (by decide +kernel), List.mem_of_getElem? (i := 1417) (by decide +kernel)⟩
theorem lw_p76 : lw_okq (⟨"AxiomBookModel", "isOpenPair", "(II)Z"⟩, 86) := ⟨⟨by decide +kernel, by decide +kernel⟩, List.mem_of_getElem? (i := 1066) (by decide +kernel), List.mem_of_getElem? (i := 1420) (by decide +kernel), List.mem_of_getElem? (i := 1421) (by decide +kernel)⟩
theorem lw_p77 : lw_okq (⟨"AxiomBookModel", "openPair", "(II)V"⟩, 86) := ⟨⟨by decide +kernel, by decide +kernel⟩, List.mem_of_getElem? (i := 1066) (by decide +kernel), List.mem_of_getElem? (i := 1424) (by decide +kernel), List.mem_of_getElem? (i := 1425) (by decide +kernel)⟩
theorem lw_p78 : lw_okq (⟨"AxiomBookModel", "typed", "()I"⟩, 86) := ⟨⟨by decide +kernel, by decide +kernel⟩, List.mem_of_getElem? (i := 1066) (by decide +kernel), List.mem_of_getElem? (i := 1428) (by decide +kernel), List.mem_of_getElem? (i := 1429) (by decide +kernel)⟩
theorem lw_p79 : lw_okq (⟨"AxiomBookModel", "endStatement", "()V"⟩, 86) := ⟨⟨by decide +kernel, by decide +kernel⟩, List.mem_of_getElem? (i := 1066) (by decide +kernel), List.mem_of_getElem? (i := 1432) (by decide +kernel), List.mem_of_getElem? (i := 1433) (by decide +kernel)⟩
def lw_privs_5 : List (MethodName × Nat) := [(⟨"AxiomBookModel", "hasDollar", "()Z"⟩, 86), (⟨"AxiomBookModel", "isKeyword", "()Z"⟩, 86), (⟨"AxiomBookModel", "token", "()I"⟩, 86), (⟨"AxiomBookModel", "outside", "()I"⟩, 86), (⟨"AxiomBookModel", "closeBlock", "()V"⟩, 86), (⟨"AxiomBookModel", "isLabel", "()Z"⟩, 86), (⟨"AxiomBookModel", "labelHere", "()I"⟩, 86), (⟨"AxiomBookModel", "same", "(II)Z"⟩, 86), (⟨"AxiomBookModel", "symbolHere", "()I"⟩, 86), (⟨"AxiomBookModel", "kindOf", "()I"⟩, 86), (⟨"AxiomBookModel", "declared", "()I"⟩, 86), (⟨"AxiomBookModel", "distinct", "()I"⟩, 86), (⟨"AxiomBookModel", "isOpenPair", "(II)Z"⟩, 86), (⟨"AxiomBookModel", "openPair", "(II)V"⟩, 86), (⟨"AxiomBookModel", "typed", "()I"⟩, 86), (⟨"AxiomBookModel", "endStatement", "()V"⟩, 86)]
theorem lw_r5 : ∀ q ∈ lw_privs_5, lw_okq q := List.forall_mem_cons.mpr ⟨lw_p64, List.forall_mem_cons.mpr ⟨lw_p65, List.forall_mem_cons.mpr ⟨lw_p66, List.forall_mem_cons.mpr ⟨lw_p67, List.forall_mem_cons.mpr ⟨lw_p68, List.forall_mem_cons.mpr ⟨lw_p69, List.forall_mem_cons.mpr ⟨lw_p70, List.forall_mem_cons.mpr ⟨lw_p71, List.forall_mem_cons.mpr ⟨lw_p72, List.forall_mem_cons.mpr ⟨lw_p73, List.forall_mem_cons.mpr ⟨lw_p74, List.forall_mem_cons.mpr ⟨lw_p75, List.forall_mem_cons.mpr ⟨lw_p76, List.forall_mem_cons.mpr ⟨lw_p77, List.forall_mem_cons.mpr ⟨lw_p78, List.forall_mem_cons.mpr ⟨lw_p79, fun _ h => absurd h List.not_mem_nil⟩⟩⟩⟩⟩⟩⟩⟩⟩⟩⟩⟩⟩⟩⟩⟩
theorem lw_p80 : lw_okq (⟨"AxiomBookModel", "frameOf", "(I)V"⟩, 86) := ⟨⟨by decide +kernel, by decide +kernel⟩, List.mem_of_getElem? (i := 1066) (by decide +kernel), List.mem_of_getElem? (i := 1436) (by decide +kernel), List.mem_of_getElem? (i := 1437) (by decide +kernel)⟩
theorem lw_p81 : lw_okq (⟨"AxiomBookModel", "needs", "(II)V"⟩, 86) := ⟨⟨by decide +kernel, by decide +kernel⟩, List.mem_of_getElem? (i := 1066) (by decide +kernel), List.mem_of_getElem? (i := 1440) (by decide +kernel), List.mem_of_getElem? (i := 1441) (by decide +kernel)⟩
theorem lw_p82 : lw_okq (⟨"AxiomBookModel", "isConstant", "(I)Z"⟩, 86) := ⟨⟨by decide +kernel, by decide +kernel⟩, List.mem_of_getElem? (i := 1066) (by decide +kernel), List.mem_of_getElem? (i := 1444) (by decide +kernel), List.mem_of_getElem? (i := 1445) (by decide +kernel)⟩
theorem lw_p83 : lw_okq (⟨"AxiomBookModel", "takeSymbol", "(I)V"⟩, 86) := ⟨⟨by decide +kernel, by decide +kernel⟩, List.mem_of_getElem? (i := 1066) (by decide +kernel), List.mem_of_getElem? (i := 1448) (by decide +kernel), List.mem_of_getElem? (i := 1449) (by decide +kernel)⟩
theorem lw_p84 : lw_okq (⟨"AxiomBookModel", "formula", "()I"⟩, 86) := ⟨⟨by decide +kernel, by decide +kernel⟩, List.mem_of_getElem? (i := 1066) (by decide +kernel), List.mem_of_getElem? (i := 1452) (by decide +kernel), List.mem_of_getElem? (i := 1453) (by decide +kernel)⟩
theorem lw_p85 : lw_okq (⟨"AxiomBookModel", "proof", "()I"⟩, 86) := ⟨⟨by decide +kernel, by decide +kernel⟩, List.mem_of_getElem? (i := 1066) (by decide +kernel), List.mem_of_getElem? (i := 1456) (by decide +kernel), List.mem_of_getElem? (i := 1457) (by decide +kernel)⟩
theorem lw_p86 : lw_okq (⟨"AxiomBookModel", "forgetWork", "()V"⟩, 86) := ⟨⟨by decide +kernel, by decide +kernel⟩, List.mem_of_getElem? (i := 1066) (by decide +kernel), List.mem_of_getElem? (i := 1460) (by decide +kernel), List.mem_of_getElem? (i := 1461) (by decide +kernel)⟩
theorem lw_p87 : lw_okq (⟨"AxiomBookModel", "isStatement", "(I)Z"⟩, 86) := ⟨⟨by decide +kernel, by decide +kernel⟩, List.mem_of_getElem? (i := 1066) (by decide +kernel), List.mem_of_getElem? (i := 1476) (by decide +kernel), List.mem_of_getElem? (i := 1477) (by decide +kernel)⟩
theorem lw_p88 : lw_okq (⟨"AxiomBookModel", "at", "(I)I"⟩, 86) := ⟨⟨by decide +kernel, by decide +kernel⟩, List.mem_of_getElem? (i := 1066) (by decide +kernel), List.mem_of_getElem? (i := 1480) (by decide +kernel), List.mem_of_getElem? (i := 1481) (by decide +kernel)⟩
theorem lw_p89 : lw_okq (⟨"AxiomBookModel", "hypotheses", "(I)I"⟩, 86) := ⟨⟨by decide +kernel, by decide +kernel⟩, List.mem_of_getElem? (i := 1066) (by decide +kernel), List.mem_of_getElem? (i := 1484) (by decide +kernel), List.mem_of_getElem? (i := 1485) (by decide +kernel)⟩
theorem lw_p90 : lw_okq (⟨"AxiomBookModel", "isBit", "([JII)Z"⟩, 86) := ⟨⟨by decide +kernel, by decide +kernel⟩, List.mem_of_getElem? (i := 1066) (by decide +kernel), List.mem_of_getElem? (i := 1488) (by decide +kernel), List.mem_of_getElem? (i := 1489) (by decide +kernel)⟩
theorem lw_p91 : lw_okq (⟨"AxiomBookModel", "framePair", "(II)I"⟩, 86) := ⟨⟨by decide +kernel, by decide +kernel⟩, List.mem_of_getElem? (i := 1066) (by decide +kernel), List.mem_of_getElem? (i := 1492) (by decide +kernel), List.mem_of_getElem? (i := 1493) (by decide +kernel)⟩
theorem lw_p92 : lw_okq (⟨"AxiomBookModel", "isMandatory", "(II)Z"⟩, 86) := ⟨⟨by decide +kernel, by decide +kernel⟩, List.mem_of_getElem? (i := 1066) (by decide +kernel), List.mem_of_getElem? (i := 1496) (by decide +kernel), List.mem_of_getElem? (i := 1497) (by decide +kernel)⟩
theorem lw_p93 : lw_okq (⟨"AxiomBookModel", "apart", "(III)Z"⟩, 86) := ⟨⟨by decide +kernel, by decide +kernel⟩, List.mem_of_getElem? (i := 1066) (by decide +kernel), List.mem_of_getElem? (i := 1500) (by decide +kernel), List.mem_of_getElem? (i := 1501) (by decide +kernel)⟩
theorem lw_p94 : lw_okq (⟨"AxiomBookModel", "isPairAt", "(II)Z"⟩, 86) := ⟨⟨by decide +kernel, by decide +kernel⟩, List.mem_of_getElem? (i := 1066) (by decide +kernel), List.mem_of_getElem? (i := 1504) (by decide +kernel), List.mem_of_getElem? (i := 1505) (by decide +kernel)⟩
theorem lw_p95 : lw_okq (⟨"AxiomBookModel", "isKind", "(II)Z"⟩, 86) := ⟨⟨by decide +kernel, by decide +kernel⟩, List.mem_of_getElem? (i := 1066) (by decide +kernel), List.mem_of_getElem? (i := 1520) (by decide +kernel), List.mem_of_getElem? (i := 1521) (by decide +kernel)⟩
def lw_privs_6 : List (MethodName × Nat) := [(⟨"AxiomBookModel", "frameOf", "(I)V"⟩, 86), (⟨"AxiomBookModel", "needs", "(II)V"⟩, 86), (⟨"AxiomBookModel", "isConstant", "(I)Z"⟩, 86), (⟨"AxiomBookModel", "takeSymbol", "(I)V"⟩, 86), (⟨"AxiomBookModel", "formula", "()I"⟩, 86), (⟨"AxiomBookModel", "proof", "()I"⟩, 86), (⟨"AxiomBookModel", "forgetWork", "()V"⟩, 86), (⟨"AxiomBookModel", "isStatement", "(I)Z"⟩, 86), (⟨"AxiomBookModel", "at", "(I)I"⟩, 86), (⟨"AxiomBookModel", "hypotheses", "(I)I"⟩, 86), (⟨"AxiomBookModel", "isBit", "([JII)Z"⟩, 86), (⟨"AxiomBookModel", "framePair", "(II)I"⟩, 86), (⟨"AxiomBookModel", "isMandatory", "(II)Z"⟩, 86), (⟨"AxiomBookModel", "apart", "(III)Z"⟩, 86), (⟨"AxiomBookModel", "isPairAt", "(II)Z"⟩, 86), (⟨"AxiomBookModel", "isKind", "(II)Z"⟩, 86)]
theorem lw_r6 : ∀ q ∈ lw_privs_6, lw_okq q := List.forall_mem_cons.mpr ⟨lw_p80, List.forall_mem_cons.mpr ⟨lw_p81, List.forall_mem_cons.mpr ⟨lw_p82, List.forall_mem_cons.mpr ⟨lw_p83, List.forall_mem_cons.mpr ⟨lw_p84, List.forall_mem_cons.mpr ⟨lw_p85, List.forall_mem_cons.mpr ⟨lw_p86, List.forall_mem_cons.mpr ⟨lw_p87, List.forall_mem_cons.mpr ⟨lw_p88, List.forall_mem_cons.mpr ⟨lw_p89, List.forall_mem_cons.mpr ⟨lw_p90, List.forall_mem_cons.mpr ⟨lw_p91, List.forall_mem_cons.mpr ⟨lw_p92, List.forall_mem_cons.mpr ⟨lw_p93, List.forall_mem_cons.mpr ⟨lw_p94, List.forall_mem_cons.mpr ⟨lw_p95, fun _ h => absurd h List.not_mem_nil⟩⟩⟩⟩⟩⟩⟩⟩⟩⟩⟩⟩⟩⟩⟩⟩
theorem lw_p96 : lw_okq (⟨"AxiomBookModel", "hypothesis", "(II)I"⟩, 86) := ⟨⟨by decide +kernel, by decide +kernel⟩, List.mem_of_getElem? (i := 1066) (by decide +kernel), List.mem_of_getElem? (i := 1524) (by decide +kernel), List.mem_of_getElem? (i := 1525) (by decide +kernel)⟩
theorem lw_p97 : lw_okq (⟨"AxiomBookModel", "judge", "(I)I"⟩, 86) := ⟨⟨by decide +kernel, by decide +kernel⟩, List.mem_of_getElem? (i := 1066) (by decide +kernel), List.mem_of_getElem? (i := 1532) (by decide +kernel), List.mem_of_getElem? (i := 1533) (by decide +kernel)⟩
theorem lw_p98 : lw_okq (⟨"AxiomBookModel", "isOpen", "(I)Z"⟩, 86) := ⟨⟨by decide +kernel, by decide +kernel⟩, List.mem_of_getElem? (i := 1066) (by decide +kernel), List.mem_of_getElem? (i := 1536) (by decide +kernel), List.mem_of_getElem? (i := 1537) (by decide +kernel)⟩
theorem lw_p99 : lw_okq (⟨"AxiomBookModel", "isOne", "(III)Z"⟩, 86) := ⟨⟨by decide +kernel, by decide +kernel⟩, List.mem_of_getElem? (i := 1066) (by decide +kernel), List.mem_of_getElem? (i := 1540) (by decide +kernel), List.mem_of_getElem? (i := 1541) (by decide +kernel)⟩
theorem lw_p100 : lw_okq (⟨"AxiomBookModel", "proofToken", "(II)I"⟩, 86) := ⟨⟨by decide +kernel, by decide +kernel⟩, List.mem_of_getElem? (i := 1066) (by decide +kernel), List.mem_of_getElem? (i := 1544) (by decide +kernel), List.mem_of_getElem? (i := 1545) (by decide +kernel)⟩
theorem lw_p101 : lw_okq (⟨"AxiomBookModel", "isCompressed", "(I)Z"⟩, 86) := ⟨⟨by decide +kernel, by decide +kernel⟩, List.mem_of_getElem? (i := 1066) (by decide +kernel), List.mem_of_getElem? (i := 1548) (by decide +kernel), List.mem_of_getElem? (i := 1549) (by decide +kernel)⟩
theorem lw_p102 : lw_okq (⟨"AxiomBookModel", "takeLetters", "(I)V"⟩, 86) := ⟨⟨by decide +kernel, by decide +kernel⟩, List.mem_of_getElem? (i := 1066) (by decide +kernel), List.mem_of_getElem? (i := 1552) (by decide +kernel), List.mem_of_getElem? (i := 1553) (by decide +kernel)⟩
theorem lw_p103 : lw_okq (⟨"AxiomBookModel", "listEnd", "(I)I"⟩, 86) := ⟨⟨by decide +kernel, by decide +kernel⟩, List.mem_of_getElem? (i := 1066) (by decide +kernel), List.mem_of_getElem? (i := 1556) (by decide +kernel), List.mem_of_getElem? (i := 1557) (by decide +kernel)⟩
theorem lw_p104 : lw_okq (⟨"AxiomBookModel", "readProof", "(I)Z"⟩, 86) := ⟨⟨by decide +kernel, by decide +kernel⟩, List.mem_of_getElem? (i := 1066) (by decide +kernel), List.mem_of_getElem? (i := 1560) (by decide +kernel), List.mem_of_getElem? (i := 1561) (by decide +kernel)⟩
theorem lw_p105 : lw_okq (⟨"AxiomBookModel", "fails", "(II)Z"⟩, 86) := ⟨⟨by decide +kernel, by decide +kernel⟩, List.mem_of_getElem? (i := 1066) (by decide +kernel), List.mem_of_getElem? (i := 1564) (by decide +kernel), List.mem_of_getElem? (i := 1565) (by decide +kernel)⟩
theorem lw_p106 : lw_okq (⟨"AxiomBookModel", "readList", "(I)Z"⟩, 86) := ⟨⟨by decide +kernel, by decide +kernel⟩, List.mem_of_getElem? (i := 1066) (by decide +kernel), List.mem_of_getElem? (i := 1568) (by decide +kernel), List.mem_of_getElem? (i := 1569) (by decide +kernel)⟩
theorem lw_p107 : lw_okq (⟨"AxiomBookModel", "namedBy", "(II)I"⟩, 86) := ⟨⟨by decide +kernel, by decide +kernel⟩, List.mem_of_getElem? (i := 1066) (by decide +kernel), List.mem_of_getElem? (i := 1572) (by decide +kernel), List.mem_of_getElem? (i := 1573) (by decide +kernel)⟩
theorem lw_p108 : lw_okq (⟨"AxiomBookModel", "mayName", "(II)Z"⟩, 86) := ⟨⟨by decide +kernel, by decide +kernel⟩, List.mem_of_getElem? (i := 1066) (by decide +kernel), List.mem_of_getElem? (i := 1576) (by decide +kernel), List.mem_of_getElem? (i := 1577) (by decide +kernel)⟩
theorem lw_p109 : lw_okq (⟨"AxiomBookModel", "readLetters", "(I)Z"⟩, 86) := ⟨⟨by decide +kernel, by decide +kernel⟩, List.mem_of_getElem? (i := 1066) (by decide +kernel), List.mem_of_getElem? (i := 1580) (by decide +kernel), List.mem_of_getElem? (i := 1581) (by decide +kernel)⟩
theorem lw_p110 : lw_okq (⟨"AxiomBookModel", "runSteps", "(II)Z"⟩, 86) := ⟨⟨by decide +kernel, by decide +kernel⟩, List.mem_of_getElem? (i := 1066) (by decide +kernel), List.mem_of_getElem? (i := 1585) (by decide +kernel), List.mem_of_getElem? (i := 1586) (by decide +kernel)⟩
theorem lw_p111 : lw_okq (⟨"AxiomBookModel", "pushMarked", "(II)Z"⟩, 86) := ⟨⟨by decide +kernel, by decide +kernel⟩, List.mem_of_getElem? (i := 1066) (by decide +kernel), List.mem_of_getElem? (i := 1589) (by decide +kernel), List.mem_of_getElem? (i := 1590) (by decide +kernel)⟩
def lw_privs_7 : List (MethodName × Nat) := [(⟨"AxiomBookModel", "hypothesis", "(II)I"⟩, 86), (⟨"AxiomBookModel", "judge", "(I)I"⟩, 86), (⟨"AxiomBookModel", "isOpen", "(I)Z"⟩, 86), (⟨"AxiomBookModel", "isOne", "(III)Z"⟩, 86), (⟨"AxiomBookModel", "proofToken", "(II)I"⟩, 86), (⟨"AxiomBookModel", "isCompressed", "(I)Z"⟩, 86), (⟨"AxiomBookModel", "takeLetters", "(I)V"⟩, 86), (⟨"AxiomBookModel", "listEnd", "(I)I"⟩, 86), (⟨"AxiomBookModel", "readProof", "(I)Z"⟩, 86), (⟨"AxiomBookModel", "fails", "(II)Z"⟩, 86), (⟨"AxiomBookModel", "readList", "(I)Z"⟩, 86), (⟨"AxiomBookModel", "namedBy", "(II)I"⟩, 86), (⟨"AxiomBookModel", "mayName", "(II)Z"⟩, 86), (⟨"AxiomBookModel", "readLetters", "(I)Z"⟩, 86), (⟨"AxiomBookModel", "runSteps", "(II)Z"⟩, 86), (⟨"AxiomBookModel", "pushMarked", "(II)Z"⟩, 86)]
theorem lw_r7 : ∀ q ∈ lw_privs_7, lw_okq q := List.forall_mem_cons.mpr ⟨lw_p96, List.forall_mem_cons.mpr ⟨lw_p97, List.forall_mem_cons.mpr ⟨lw_p98, List.forall_mem_cons.mpr ⟨lw_p99, List.forall_mem_cons.mpr ⟨lw_p100, List.forall_mem_cons.mpr ⟨lw_p101, List.forall_mem_cons.mpr ⟨lw_p102, List.forall_mem_cons.mpr ⟨lw_p103, List.forall_mem_cons.mpr ⟨lw_p104, List.forall_mem_cons.mpr ⟨lw_p105, List.forall_mem_cons.mpr ⟨lw_p106, List.forall_mem_cons.mpr ⟨lw_p107, List.forall_mem_cons.mpr ⟨lw_p108, List.forall_mem_cons.mpr ⟨lw_p109, List.forall_mem_cons.mpr ⟨lw_p110, List.forall_mem_cons.mpr ⟨lw_p111, fun _ h => absurd h List.not_mem_nil⟩⟩⟩⟩⟩⟩⟩⟩⟩⟩⟩⟩⟩⟩⟩⟩
theorem lw_p112 : lw_okq (⟨"AxiomBookModel", "thing", "(I)I"⟩, 86) := ⟨⟨by decide +kernel, by decide +kernel⟩, List.mem_of_getElem? (i := 1066) (by decide +kernel), List.mem_of_getElem? (i := 1593) (by decide +kernel), List.mem_of_getElem? (i := 1594) (by decide +kernel)⟩
theorem lw_p113 : lw_okq (⟨"AxiomBookModel", "endThing", "(II)V"⟩, 86) := ⟨⟨by decide +kernel, by decide +kernel⟩, List.mem_of_getElem? (i := 1066) (by decide +kernel), List.mem_of_getElem? (i := 1597) (by decide +kernel), List.mem_of_getElem? (i := 1598) (by decide +kernel)⟩
theorem lw_p114 : lw_okq (⟨"AxiomBookModel", "pushHypothesis", "(II)Z"⟩, 86) := ⟨⟨by decide +kernel, by decide +kernel⟩, List.mem_of_getElem? (i := 1066) (by decide +kernel), List.mem_of_getElem? (i := 1601) (by decide +kernel), List.mem_of_getElem? (i := 1602) (by decide +kernel)⟩
theorem lw_p115 : lw_okq (⟨"AxiomBookModel", "pushAssertion", "(III)Z"⟩, 86) := ⟨⟨by decide +kernel, by decide +kernel⟩, List.mem_of_getElem? (i := 1066) (by decide +kernel), List.mem_of_getElem? (i := 1605) (by decide +kernel), List.mem_of_getElem? (i := 1606) (by decide +kernel)⟩
theorem lw_p116 : lw_okq (⟨"AxiomBookModel", "meets", "(III)Z"⟩, 86) := ⟨⟨by decide +kernel, by decide +kernel⟩, List.mem_of_getElem? (i := 1066) (by decide +kernel), List.mem_of_getElem? (i := 1609) (by decide +kernel), List.mem_of_getElem? (i := 1610) (by decide +kernel)⟩
theorem lw_p117 : lw_okq (⟨"AxiomBookModel", "substitute", "(I)I"⟩, 86) := ⟨⟨by decide +kernel, by decide +kernel⟩, List.mem_of_getElem? (i := 1066) (by decide +kernel), List.mem_of_getElem? (i := 1613) (by decide +kernel), List.mem_of_getElem? (i := 1614) (by decide +kernel)⟩
theorem lw_p118 : lw_okq (⟨"AxiomBookModel", "keepApart", "(III)Z"⟩, 86) := ⟨⟨by decide +kernel, by decide +kernel⟩, List.mem_of_getElem? (i := 1066) (by decide +kernel), List.mem_of_getElem? (i := 1617) (by decide +kernel), List.mem_of_getElem? (i := 1618) (by decide +kernel)⟩
theorem lw_p119 : lw_okq (⟨"AxiomBookModel", "compare", "()V"⟩, 86) := ⟨⟨by decide +kernel, by decide +kernel⟩, List.mem_of_getElem? (i := 1066) (by decide +kernel), List.mem_of_getElem? (i := 1637) (by decide +kernel), List.mem_of_getElem? (i := 1638) (by decide +kernel)⟩
theorem lw_p120 : lw_okq (⟨"AxiomBookModel", "writeOut", "(I)I"⟩, 86) := ⟨⟨by decide +kernel, by decide +kernel⟩, List.mem_of_getElem? (i := 1066) (by decide +kernel), List.mem_of_getElem? (i := 1641) (by decide +kernel), List.mem_of_getElem? (i := 1642) (by decide +kernel)⟩
theorem lw_p121 : lw_okq (⟨"AxiomBookModel", "say", "(I)V"⟩, 86) := ⟨⟨by decide +kernel, by decide +kernel⟩, List.mem_of_getElem? (i := 1066) (by decide +kernel), List.mem_of_getElem? (i := 1645) (by decide +kernel), List.mem_of_getElem? (i := 1646) (by decide +kernel)⟩
theorem lw_p122 : lw_okq (⟨"AxiomBookModel", "sayLabel", "(I)V"⟩, 86) := ⟨⟨by decide +kernel, by decide +kernel⟩, List.mem_of_getElem? (i := 1066) (by decide +kernel), List.mem_of_getElem? (i := 1649) (by decide +kernel), List.mem_of_getElem? (i := 1650) (by decide +kernel)⟩
theorem lw_p123 : lw_okq (⟨"AxiomBookModel", "told", "()I"⟩, 86) := ⟨⟨by decide +kernel, by decide +kernel⟩, List.mem_of_getElem? (i := 1066) (by decide +kernel), List.mem_of_getElem? (i := 1653) (by decide +kernel), List.mem_of_getElem? (i := 1654) (by decide +kernel)⟩
theorem lw_p124 : lw_okq (⟨"AxiomBookModel", "compressed", "(II)I"⟩, 86) := ⟨⟨by decide +kernel, by decide +kernel⟩, List.mem_of_getElem? (i := 1066) (by decide +kernel), List.mem_of_getElem? (i := 1657) (by decide +kernel), List.mem_of_getElem? (i := 1658) (by decide +kernel)⟩
theorem lw_p125 : lw_okq (⟨"AxiomBookModel", "goDown", "(I)V"⟩, 86) := ⟨⟨by decide +kernel, by decide +kernel⟩, List.mem_of_getElem? (i := 1066) (by decide +kernel), List.mem_of_getElem? (i := 1661) (by decide +kernel), List.mem_of_getElem? (i := 1662) (by decide +kernel)⟩
theorem lw_p126 : lw_okq (⟨"AxiomBookModel", "indexOf", "(II)I"⟩, 86) := ⟨⟨by decide +kernel, by decide +kernel⟩, List.mem_of_getElem? (i := 1066) (by decide +kernel), List.mem_of_getElem? (i := 1665) (by decide +kernel), List.mem_of_getElem? (i := 1666) (by decide +kernel)⟩
theorem lw_p127 : lw_okq (⟨"AxiomBookModel", "sayNumber", "(I)V"⟩, 86) := ⟨⟨by decide +kernel, by decide +kernel⟩, List.mem_of_getElem? (i := 1066) (by decide +kernel), List.mem_of_getElem? (i := 1669) (by decide +kernel), List.mem_of_getElem? (i := 1670) (by decide +kernel)⟩
def lw_privs_8 : List (MethodName × Nat) := [(⟨"AxiomBookModel", "thing", "(I)I"⟩, 86), (⟨"AxiomBookModel", "endThing", "(II)V"⟩, 86), (⟨"AxiomBookModel", "pushHypothesis", "(II)Z"⟩, 86), (⟨"AxiomBookModel", "pushAssertion", "(III)Z"⟩, 86), (⟨"AxiomBookModel", "meets", "(III)Z"⟩, 86), (⟨"AxiomBookModel", "substitute", "(I)I"⟩, 86), (⟨"AxiomBookModel", "keepApart", "(III)Z"⟩, 86), (⟨"AxiomBookModel", "compare", "()V"⟩, 86), (⟨"AxiomBookModel", "writeOut", "(I)I"⟩, 86), (⟨"AxiomBookModel", "say", "(I)V"⟩, 86), (⟨"AxiomBookModel", "sayLabel", "(I)V"⟩, 86), (⟨"AxiomBookModel", "told", "()I"⟩, 86), (⟨"AxiomBookModel", "compressed", "(II)I"⟩, 86), (⟨"AxiomBookModel", "goDown", "(I)V"⟩, 86), (⟨"AxiomBookModel", "indexOf", "(II)I"⟩, 86), (⟨"AxiomBookModel", "sayNumber", "(I)V"⟩, 86)]
theorem lw_r8 : ∀ q ∈ lw_privs_8, lw_okq q := List.forall_mem_cons.mpr ⟨lw_p112, List.forall_mem_cons.mpr ⟨lw_p113, List.forall_mem_cons.mpr ⟨lw_p114, List.forall_mem_cons.mpr ⟨lw_p115, List.forall_mem_cons.mpr ⟨lw_p116, List.forall_mem_cons.mpr ⟨lw_p117, List.forall_mem_cons.mpr ⟨lw_p118, List.forall_mem_cons.mpr ⟨lw_p119, List.forall_mem_cons.mpr ⟨lw_p120, List.forall_mem_cons.mpr ⟨lw_p121, List.forall_mem_cons.mpr ⟨lw_p122, List.forall_mem_cons.mpr ⟨lw_p123, List.forall_mem_cons.mpr ⟨lw_p124, List.forall_mem_cons.mpr ⟨lw_p125, List.forall_mem_cons.mpr ⟨lw_p126, List.forall_mem_cons.mpr ⟨lw_p127, fun _ h => absurd h List.not_mem_nil⟩⟩⟩⟩⟩⟩⟩⟩⟩⟩⟩⟩⟩⟩⟩⟩
theorem lw_p128 : lw_okq (⟨"AxiomBookModel", "restOn", "(I)V"⟩, 86) := ⟨⟨by decide +kernel, by decide +kernel⟩, List.mem_of_getElem? (i := 1066) (by decide +kernel), List.mem_of_getElem? (i := 1685) (by decide +kernel), List.mem_of_getElem? (i := 1686) (by decide +kernel)⟩
def lw_privs_9 : List (MethodName × Nat) := [(⟨"AxiomBookModel", "restOn", "(I)V"⟩, 86)]
theorem lw_r9 : ∀ q ∈ lw_privs_9, lw_okq q := List.forall_mem_cons.mpr ⟨lw_p128, fun _ h => absurd h List.not_mem_nil⟩
def lw_privs : List (MethodName × Nat) := lw_privs_1 ++ (lw_privs_2 ++ (lw_privs_3 ++ (lw_privs_4 ++ (lw_privs_5 ++ (lw_privs_6 ++ (lw_privs_7 ++ (lw_privs_8 ++ (lw_privs_9))))))))
def lw_tbl : List Cond := k2_sels lw_privs ++ tables_1
theorem lw_privs_ok : ∀ q ∈ lw_privs, lw_okq q := by
  show ∀ q ∈ lw_privs_1 ++ (lw_privs_2 ++ (lw_privs_3 ++ (lw_privs_4 ++ (lw_privs_5 ++ (lw_privs_6 ++ (lw_privs_7 ++ (lw_privs_8 ++ (lw_privs_9)))))))), lw_okq q
  exact List.forall_mem_append.mpr ⟨lw_r1, List.forall_mem_append.mpr ⟨lw_r2, List.forall_mem_append.mpr ⟨lw_r3, List.forall_mem_append.mpr ⟨lw_r4, List.forall_mem_append.mpr ⟨lw_r5, List.forall_mem_append.mpr ⟨lw_r6, List.forall_mem_append.mpr ⟨lw_r7, List.forall_mem_append.mpr ⟨lw_r8, lw_r9⟩⟩⟩⟩⟩⟩⟩⟩
end
section
def RX0 : String := "AxiomBook$Book"
def TX0 : u_T := fun k => match k with
  | 0 => ("AxiomBook$Book", "names", "LAxiomBook$Names;", true)
  | 1 => ("AxiomBook$Book", "text", "[B", true)
  | 2 => ("AxiomBook$Book", "length", "I", false)
  | 3 => ("AxiomBook$Book", "symbols", "I", false)
  | 4 => ("AxiomBook$Book", "variables", "[B", true)
  | 5 => ("AxiomBook$Book", "statements", "I", false)
  | 6 => ("AxiomBook$Book", "kinds", "[I", true)
  | 7 => ("AxiomBook$Book", "depths", "[I", true)
  | 8 => ("AxiomBook$Book", "untils", "[I", true)
  | 9 => ("AxiomBook$Book", "formulas", "LAxiomBook$Rows;", true)
  | 10 => ("AxiomBook$Book", "tokens", "LAxiomBook$Rows;", true)
  | 11 => ("AxiomBook$Book", "named", "LAxiomBook$Rows;", true)
  | 12 => ("AxiomBook$Book", "hypotheses", "LAxiomBook$Rows;", true)
  | 13 => ("AxiomBook$Book", "distinct", "LAxiomBook$Rows;", true)
  | 14 => ("AxiomBook$Book", "activePairs", "LAxiomBook$Rows;", true)
  | 15 => ("AxiomBook$Book", "compressed", "[B", true)
  | 16 => ("AxiomBook$Book", "labelEnds", "[I", true)
  | _ => ("AxiomBook$Book", "axioms", "[J", true)
def tyX0 : Nat → FieldType := fun k => match k with
  | 0 => .object "AxiomBook$Names"
  | 1 => .array .byte
  | 2 => .int
  | 3 => .int
  | 4 => .array .byte
  | 5 => .int
  | 6 => .array .int
  | 7 => .array .int
  | 8 => .array .int
  | 9 => .object "AxiomBook$Rows"
  | 10 => .object "AxiomBook$Rows"
  | 11 => .object "AxiomBook$Rows"
  | 12 => .object "AxiomBook$Rows"
  | 13 => .object "AxiomBook$Rows"
  | 14 => .object "AxiomBook$Rows"
  | 15 => .array .byte
  | 16 => .array .int
  | _ => .array .long
theorem nmX0 : ∀ a, a < 18 → ∀ b, b < 18 → a ≠ b → (TX0 a).2.1 ≠ (TX0 b).2.1 := by decide +kernel
theorem tyX0_ok : ∀ k, k < 18 → parseFieldDescriptor (TX0 k).2.2.1 = some (tyX0 k) := by decide +kernel
abbrev cX0_init : ByteArray := prog_2_method_1_code
def yX0_init : MethodName := ⟨RX0, "<init>", "()V"⟩
abbrev cX0_clear : ByteArray := prog_2_method_2_code
def yX0_clear : MethodName := ⟨RX0, "clear", "()V"⟩
abbrev cX0_isStatement : ByteArray := prog_2_method_3_code
def yX0_isStatement : MethodName := ⟨RX0, "isStatement", "(I)Z"⟩
abbrev cX0_isAssertion : ByteArray := prog_2_method_4_code
def yX0_isAssertion : MethodName := ⟨RX0, "isAssertion", "(I)Z"⟩
abbrev cX0_isProvable : ByteArray := prog_2_method_5_code
def yX0_isProvable : MethodName := ⟨RX0, "isProvable", "(I)Z"⟩
abbrev cX0_isVariable : ByteArray := prog_2_method_6_code
def yX0_isVariable : MethodName := ⟨RX0, "isVariable", "(I)Z"⟩
abbrev cX0_isConstant : ByteArray := prog_2_method_7_code
def yX0_isConstant : MethodName := ⟨RX0, "isConstant", "(I)Z"⟩
abbrev cX0_addSymbol : ByteArray := prog_2_method_8_code
def yX0_addSymbol : MethodName := ⟨RX0, "addSymbol", "(ZII)I"⟩
abbrev cX0_isJust : ByteArray := prog_2_method_9_code
def yX0_isJust : MethodName := ⟨RX0, "isJust", "(III)Z"⟩
abbrev cX0_isInToken : ByteArray := prog_2_method_10_code
def yX0_isInToken : MethodName := ⟨RX0, "isInToken", "(I)Z"⟩
abbrev cX0_noteForm : ByteArray := prog_2_method_11_code
def yX0_noteForm : MethodName := ⟨RX0, "noteForm", "(I)V"⟩
abbrev cX0_noteAxioms : ByteArray := prog_2_method_12_code
def yX0_noteAxioms : MethodName := ⟨RX0, "noteAxioms", "(I)V"⟩
abbrev cX0_axiomUnder : ByteArray := prog_2_method_13_code
def yX0_axiomUnder : MethodName := ⟨RX0, "axiomUnder", "(II)I"⟩
def RX1 : String := "AxiomBook$Machine"
def TX1 : u_T := fun k => match k with
  | 0 => ("AxiomBook$Machine", "stack", "LAxiomBook$Rows;", true)
  | 1 => ("AxiomBook$Machine", "marks", "LAxiomBook$Rows;", true)
  | 2 => ("AxiomBook$Machine", "book", "LAxiomBook$Book;", false)
  | 3 => ("AxiomBook$Machine", "standing", "[I", true)
  | 4 => ("AxiomBook$Machine", "partners", "[J", true)
  | _ => ("AxiomBook$Machine", "others", "[J", true)
def tyX1 : Nat → FieldType := fun k => match k with
  | 0 => .object "AxiomBook$Rows"
  | 1 => .object "AxiomBook$Rows"
  | 2 => .object "AxiomBook$Book"
  | 3 => .array .int
  | 4 => .array .long
  | _ => .array .long
theorem nmX1 : ∀ a, a < 6 → ∀ b, b < 6 → a ≠ b → (TX1 a).2.1 ≠ (TX1 b).2.1 := by decide +kernel
theorem tyX1_ok : ∀ k, k < 6 → parseFieldDescriptor (TX1 k).2.2.1 = some (tyX1 k) := by decide +kernel
abbrev cX1_init : ByteArray := prog_3_method_1_code
def yX1_init : MethodName := ⟨RX1, "<init>", "(LAxiomBook$Book;)V"⟩
abbrev cX1_run : ByteArray := prog_3_method_2_code
def yX1_run : MethodName := ⟨RX1, "run", "(LAxiomBook$Book;LAxiomBook$Proof;I)I"⟩
abbrev cX1_verdict : ByteArray := prog_3_method_3_code
def yX1_verdict : MethodName := ⟨RX1, "verdict", "(LAxiomBook$Book;LAxiomBook$Proof;)I"⟩
abbrev cX1_notePartners : ByteArray := prog_3_method_4_code
def yX1_notePartners : MethodName := ⟨RX1, "notePartners", "(I)V"⟩
abbrev cX1_addPartner : ByteArray := prog_3_method_5_code
def yX1_addPartner : MethodName := ⟨RX1, "addPartner", "(II)V"⟩
abbrev cX1_push : ByteArray := prog_3_method_6_code
def yX1_push : MethodName := ⟨RX1, "push", "(I)I"⟩
abbrev cX1_apply : ByteArray := prog_3_method_7_code
def yX1_apply : MethodName := ⟨RX1, "apply", "(I)I"⟩
abbrev cX1_fit : ByteArray := prog_3_method_8_code
def yX1_fit : MethodName := ⟨RX1, "fit", "(II)I"⟩
abbrev cX1_isInstance : ByteArray := prog_3_method_9_code
def yX1_isInstance : MethodName := ⟨RX1, "isInstance", "(II)Z"⟩
abbrev cX1_keepsApart : ByteArray := prog_3_method_10_code
def yX1_keepsApart : MethodName := ⟨RX1, "keepsApart", "(I)Z"⟩
abbrev cX1_areApart : ByteArray := prog_3_method_11_code
def yX1_areApart : MethodName := ⟨RX1, "areApart", "(II)Z"⟩
abbrev cX1_isPartnerOfOthers : ByteArray := prog_3_method_12_code
def yX1_isPartnerOfOthers : MethodName := ⟨RX1, "isPartnerOfOthers", "(I)Z"⟩
abbrev cX1_sizeOf : ByteArray := prog_3_method_13_code
def yX1_sizeOf : MethodName := ⟨RX1, "sizeOf", "(I)I"⟩
abbrev cX1_pushInstance : ByteArray := prog_3_method_14_code
def yX1_pushInstance : MethodName := ⟨RX1, "pushInstance", "(I)V"⟩
def RX2 : String := "AxiomBook$Names"
def TX2 : u_T := fun k => match k with
  | 0 => ("AxiomBook$Names", "text", "[B", true)
  | 1 => ("AxiomBook$Names", "heads", "[I", true)
  | 2 => ("AxiomBook$Names", "nexts", "[I", true)
  | 3 => ("AxiomBook$Names", "starts", "[I", true)
  | _ => ("AxiomBook$Names", "lengths", "[I", true)
def tyX2 : Nat → FieldType := fun k => match k with
  | 0 => .array .byte
  | 1 => .array .int
  | 2 => .array .int
  | 3 => .array .int
  | _ => .array .int
theorem nmX2 : ∀ a, a < 5 → ∀ b, b < 5 → a ≠ b → (TX2 a).2.1 ≠ (TX2 b).2.1 := by decide +kernel
theorem tyX2_ok : ∀ k, k < 5 → parseFieldDescriptor (TX2 k).2.2.1 = some (tyX2 k) := by decide +kernel
abbrev cX2_init : ByteArray := prog_4_method_1_code
def yX2_init : MethodName := ⟨RX2, "<init>", "()V"⟩
abbrev cX2_clear : ByteArray := prog_4_method_2_code
def yX2_clear : MethodName := ⟨RX2, "clear", "()V"⟩
abbrev cX2_headOf : ByteArray := prog_4_method_3_code
def yX2_headOf : MethodName := ⟨RX2, "headOf", "([BII)I"⟩
abbrev cX2_add : ByteArray := prog_4_method_4_code
def yX2_add : MethodName := ⟨RX2, "add", "(III)V"⟩
abbrev cX2_lookUp : ByteArray := prog_4_method_5_code
def yX2_lookUp : MethodName := ⟨RX2, "lookUp", "([BII)I"⟩
abbrev cX2_isSame : ByteArray := prog_4_method_6_code
def yX2_isSame : MethodName := ⟨RX2, "isSame", "(I[BI)Z"⟩
abbrev cX2_byteOf : ByteArray := prog_4_method_7_code
def yX2_byteOf : MethodName := ⟨RX2, "byteOf", "(II)I"⟩
abbrev cX2_lengthOf : ByteArray := prog_4_method_8_code
def yX2_lengthOf : MethodName := ⟨RX2, "lengthOf", "(I)I"⟩
def RX3 : String := "AxiomBook$Proof"
def TX3 : u_T := fun k => match k with
  | 0 => ("AxiomBook$Proof", "owner", "I", false)
  | 1 => ("AxiomBook$Proof", "steps", "I", false)
  | 2 => ("AxiomBook$Proof", "at", "I", false)
  | 3 => ("AxiomBook$Proof", "names", "[I", true)
  | 4 => ("AxiomBook$Proof", "marked", "[B", true)
  | 5 => ("AxiomBook$Proof", "marks", "I", false)
  | 6 => ("AxiomBook$Proof", "book", "LAxiomBook$Book;", false)
  | 7 => ("AxiomBook$Proof", "known", "[I", true)
  | 8 => ("AxiomBook$Proof", "knownCount", "I", false)
  | 9 => ("AxiomBook$Proof", "isKnown", "[B", true)
  | 10 => ("AxiomBook$Proof", "prefix", "I", false)
  | 11 => ("AxiomBook$Proof", "inNumber", "Z", false)
  | _ => ("AxiomBook$Proof", "mayMark", "Z", false)
def tyX3 : Nat → FieldType := fun k => match k with
  | 0 => .int
  | 1 => .int
  | 2 => .int
  | 3 => .array .int
  | 4 => .array .byte
  | 5 => .int
  | 6 => .object "AxiomBook$Book"
  | 7 => .array .int
  | 8 => .int
  | 9 => .array .byte
  | 10 => .int
  | 11 => .boolean
  | _ => .boolean
theorem nmX3 : ∀ a, a < 13 → ∀ b, b < 13 → a ≠ b → (TX3 a).2.1 ≠ (TX3 b).2.1 := by decide +kernel
theorem tyX3_ok : ∀ k, k < 13 → parseFieldDescriptor (TX3 k).2.2.1 = some (tyX3 k) := by decide +kernel
abbrev cX3_init : ByteArray := prog_5_method_1_code
def yX3_init : MethodName := ⟨RX3, "<init>", "(LAxiomBook$Book;)V"⟩
abbrev cX3_decode : ByteArray := prog_5_method_2_code
def yX3_decode : MethodName := ⟨RX3, "decode", "(LAxiomBook$Book;I)I"⟩
abbrev cX3_isOpen : ByteArray := prog_5_method_3_code
def yX3_isOpen : MethodName := ⟨RX3, "isOpen", "()Z"⟩
abbrev cX3_mayName : ByteArray := prog_5_method_4_code
def yX3_mayName : MethodName := ⟨RX3, "mayName", "(I)Z"⟩
abbrev cX3_decodeLabels : ByteArray := prog_5_method_5_code
def yX3_decodeLabels : MethodName := ⟨RX3, "decodeLabels", "()I"⟩
abbrev cX3_fail : ByteArray := prog_5_method_6_code
def yX3_fail : MethodName := ⟨RX3, "fail", "(II)I"⟩
abbrev cX3_addStep : ByteArray := prog_5_method_7_code
def yX3_addStep : MethodName := ⟨RX3, "addStep", "(I)V"⟩
abbrev cX3_decodeList : ByteArray := prog_5_method_8_code
def yX3_decodeList : MethodName := ⟨RX3, "decodeList", "()I"⟩
abbrev cX3_knowHypotheses : ByteArray := prog_5_method_9_code
def yX3_knowHypotheses : MethodName := ⟨RX3, "knowHypotheses", "()V"⟩
abbrev cX3_know : ByteArray := prog_5_method_10_code
def yX3_know : MethodName := ⟨RX3, "know", "(I)V"⟩
abbrev cX3_decodeLetters : ByteArray := prog_5_method_11_code
def yX3_decodeLetters : MethodName := ⟨RX3, "decodeLetters", "()I"⟩
abbrev cX3_takeLetter : ByteArray := prog_5_method_12_code
def yX3_takeLetter : MethodName := ⟨RX3, "takeLetter", "(I)I"⟩
abbrev cX3_mark : ByteArray := prog_5_method_13_code
def yX3_mark : MethodName := ⟨RX3, "mark", "()I"⟩
abbrev cX3_takeNumber : ByteArray := prog_5_method_14_code
def yX3_takeNumber : MethodName := ⟨RX3, "takeNumber", "(I)I"⟩
def RX4 : String := "AxiomBook$Reader"
def TX4 : u_T := fun k => match k with
  | 0 => ("AxiomBook$Reader", "faultPlace", "I", false)
  | 1 => ("AxiomBook$Reader", "book", "LAxiomBook$Book;", false)
  | 2 => ("AxiomBook$Reader", "scanner", "LAxiomBook$Scanner;", true)
  | 3 => ("AxiomBook$Reader", "scope", "LAxiomBook$Scope;", true)
  | 4 => ("AxiomBook$Reader", "state", "I", false)
  | 5 => ("AxiomBook$Reader", "variable", "Z", false)
  | 6 => ("AxiomBook$Reader", "kind", "I", false)
  | 7 => ("AxiomBook$Reader", "labelStart", "I", false)
  | 8 => ("AxiomBook$Reader", "labelLength", "I", false)
  | 9 => ("AxiomBook$Reader", "taken", "I", false)
  | _ => ("AxiomBook$Reader", "apart", "[I", true)
def tyX4 : Nat → FieldType := fun k => match k with
  | 0 => .int
  | 1 => .object "AxiomBook$Book"
  | 2 => .object "AxiomBook$Scanner"
  | 3 => .object "AxiomBook$Scope"
  | 4 => .int
  | 5 => .boolean
  | 6 => .int
  | 7 => .int
  | 8 => .int
  | 9 => .int
  | _ => .array .int
theorem nmX4 : ∀ a, a < 11 → ∀ b, b < 11 → a ≠ b → (TX4 a).2.1 ≠ (TX4 b).2.1 := by decide +kernel
theorem tyX4_ok : ∀ k, k < 11 → parseFieldDescriptor (TX4 k).2.2.1 = some (tyX4 k) := by decide +kernel
abbrev cX4_init : ByteArray := prog_6_method_1_code
def yX4_init : MethodName := ⟨RX4, "<init>", "(LAxiomBook$Book;)V"⟩
abbrev cX4_readBook : ByteArray := prog_6_method_2_code
def yX4_readBook : MethodName := ⟨RX4, "readBook", "(LAxiomBook$Book;)I"⟩
abbrev cX4_takeLabel : ByteArray := prog_6_method_3_code
def yX4_takeLabel : MethodName := ⟨RX4, "takeLabel", "()I"⟩
abbrev cX4_namedByToken : ByteArray := prog_6_method_4_code
def yX4_namedByToken : MethodName := ⟨RX4, "namedByToken", "()I"⟩
abbrev cX4_takeOutside : ByteArray := prog_6_method_5_code
def yX4_takeOutside : MethodName := ⟨RX4, "takeOutside", "(I)I"⟩
abbrev cX4_begin : ByteArray := prog_6_method_6_code
def yX4_begin : MethodName := ⟨RX4, "begin", "(I)I"⟩
abbrev cX4_takeKind : ByteArray := prog_6_method_7_code
def yX4_takeKind : MethodName := ⟨RX4, "takeKind", "(I)I"⟩
abbrev cX4_takeDeclared : ByteArray := prog_6_method_8_code
def yX4_takeDeclared : MethodName := ⟨RX4, "takeDeclared", "(I)I"⟩
abbrev cX4_takeSeparated : ByteArray := prog_6_method_9_code
def yX4_takeSeparated : MethodName := ⟨RX4, "takeSeparated", "(I)I"⟩
abbrev cX4_takeSymbol : ByteArray := prog_6_method_10_code
def yX4_takeSymbol : MethodName := ⟨RX4, "takeSymbol", "()I"⟩
abbrev cX4_mayStand : ByteArray := prog_6_method_11_code
def yX4_mayStand : MethodName := ⟨RX4, "mayStand", "(I)Z"⟩
abbrev cX4_takeEnd : ByteArray := prog_6_method_12_code
def yX4_takeEnd : MethodName := ⟨RX4, "takeEnd", "(I)I"⟩
abbrev cX4_takeProofToken : ByteArray := prog_6_method_13_code
def yX4_takeProofToken : MethodName := ⟨RX4, "takeProofToken", "(I)I"⟩
abbrev cX4_endStatement : ByteArray := prog_6_method_14_code
def yX4_endStatement : MethodName := ⟨RX4, "endStatement", "()V"⟩
def RX5 : String := "AxiomBook$Rows"
def TX5 : u_T := fun k => match k with
  | 0 => ("AxiomBook$Rows", "items", "[I", false)
  | 1 => ("AxiomBook$Rows", "starts", "[I", true)
  | 2 => ("AxiomBook$Rows", "used", "I", false)
  | _ => ("AxiomBook$Rows", "rows", "I", false)
def tyX5 : Nat → FieldType := fun k => match k with
  | 0 => .array .int
  | 1 => .array .int
  | 2 => .int
  | _ => .int
theorem nmX5 : ∀ a, a < 4 → ∀ b, b < 4 → a ≠ b → (TX5 a).2.1 ≠ (TX5 b).2.1 := by decide +kernel
theorem tyX5_ok : ∀ k, k < 4 → parseFieldDescriptor (TX5 k).2.2.1 = some (tyX5 k) := by decide +kernel
abbrev cX5_init : ByteArray := prog_7_method_1_code
def yX5_init : MethodName := ⟨RX5, "<init>", "(I)V"⟩
abbrev cX5_clear : ByteArray := prog_7_method_2_code
def yX5_clear : MethodName := ⟨RX5, "clear", "()V"⟩
abbrev cX5_add : ByteArray := prog_7_method_3_code
def yX5_add : MethodName := ⟨RX5, "add", "(I)V"⟩
abbrev cX5_endRow : ByteArray := prog_7_method_4_code
def yX5_endRow : MethodName := ⟨RX5, "endRow", "()V"⟩
abbrev cX5_size : ByteArray := prog_7_method_5_code
def yX5_size : MethodName := ⟨RX5, "size", "(I)I"⟩
abbrev cX5_get : ByteArray := prog_7_method_6_code
def yX5_get : MethodName := ⟨RX5, "get", "(II)I"⟩
abbrev cX5_addFrom : ByteArray := prog_7_method_7_code
def yX5_addFrom : MethodName := ⟨RX5, "addFrom", "(LAxiomBook$Rows;II)V"⟩
abbrev cX5_dropUnderLast : ByteArray := prog_7_method_8_code
def yX5_dropUnderLast : MethodName := ⟨RX5, "dropUnderLast", "(I)V"⟩
abbrev cX5_hasRow : ByteArray := prog_7_method_9_code
def yX5_hasRow : MethodName := ⟨RX5, "hasRow", "(ILAxiomBook$Rows;I)Z"⟩
def RX6 : String := "AxiomBook$Scanner"
def TX6 : u_T := fun k => match k with
  | 0 => ("AxiomBook$Scanner", "start", "I", false)
  | 1 => ("AxiomBook$Scanner", "end", "I", false)
  | 2 => ("AxiomBook$Scanner", "fault", "I", false)
  | 3 => ("AxiomBook$Scanner", "text", "[B", false)
  | _ => ("AxiomBook$Scanner", "length", "I", false)
def tyX6 : Nat → FieldType := fun k => match k with
  | 0 => .int
  | 1 => .int
  | 2 => .int
  | 3 => .array .byte
  | _ => .int
theorem nmX6 : ∀ a, a < 5 → ∀ b, b < 5 → a ≠ b → (TX6 a).2.1 ≠ (TX6 b).2.1 := by decide +kernel
theorem tyX6_ok : ∀ k, k < 5 → parseFieldDescriptor (TX6 k).2.2.1 = some (tyX6 k) := by decide +kernel
abbrev cX6_init : ByteArray := prog_8_method_1_code
def yX6_init : MethodName := ⟨RX6, "<init>", "([B)V"⟩
abbrev cX6_open : ByteArray := prog_8_method_2_code
def yX6_open : MethodName := ⟨RX6, "open", "([BI)V"⟩
abbrev cX6_advance : ByteArray := prog_8_method_3_code
def yX6_advance : MethodName := ⟨RX6, "advance", "()Z"⟩
abbrev cX6_cut : ByteArray := prog_8_method_4_code
def yX6_cut : MethodName := ⟨RX6, "cut", "()V"⟩
abbrev cX6_isBlank : ByteArray := prog_8_method_5_code
def yX6_isBlank : MethodName := ⟨RX6, "isBlank", "(I)Z"⟩
abbrev cX6_hasWrongByte : ByteArray := prog_8_method_6_code
def yX6_hasWrongByte : MethodName := ⟨RX6, "hasWrongByte", "()Z"⟩
abbrev cX6_isDollarAnd : ByteArray := prog_8_method_7_code
def yX6_isDollarAnd : MethodName := ⟨RX6, "isDollarAnd", "(I)Z"⟩
abbrev cX6_hasCommentMark : ByteArray := prog_8_method_8_code
def yX6_hasCommentMark : MethodName := ⟨RX6, "hasCommentMark", "()Z"⟩
abbrev cX6_word : ByteArray := prog_8_method_9_code
def yX6_word : MethodName := ⟨RX6, "word", "()I"⟩
abbrev cX6_keyword : ByteArray := prog_8_method_10_code
def yX6_keyword : MethodName := ⟨RX6, "keyword", "()I"⟩
abbrev cX6_isLabel : ByteArray := prog_8_method_11_code
def yX6_isLabel : MethodName := ⟨RX6, "isLabel", "()Z"⟩
def RX7 : String := "AxiomBook$Scope"
def TX7 : u_T := fun k => match k with
  | 0 => ("AxiomBook$Scope", "depth", "I", false)
  | 1 => ("AxiomBook$Scope", "outerVariables", "[I", true)
  | 2 => ("AxiomBook$Scope", "outerHypotheses", "[I", true)
  | 3 => ("AxiomBook$Scope", "variables", "[I", true)
  | 4 => ("AxiomBook$Scope", "variableCount", "I", false)
  | 5 => ("AxiomBook$Scope", "active", "[B", true)
  | 6 => ("AxiomBook$Scope", "floating", "[B", true)
  | 7 => ("AxiomBook$Scope", "needs", "[I", true)
  | 8 => ("AxiomBook$Scope", "hypotheses", "[I", true)
  | 9 => ("AxiomBook$Scope", "hypothesisCount", "I", false)
  | 10 => ("AxiomBook$Scope", "pairs", "[I", true)
  | 11 => ("AxiomBook$Scope", "pairDepths", "[I", true)
  | _ => ("AxiomBook$Scope", "pairCount", "I", false)
def tyX7 : Nat → FieldType := fun k => match k with
  | 0 => .int
  | 1 => .array .int
  | 2 => .array .int
  | 3 => .array .int
  | 4 => .int
  | 5 => .array .byte
  | 6 => .array .byte
  | 7 => .array .int
  | 8 => .array .int
  | 9 => .int
  | 10 => .array .int
  | 11 => .array .int
  | _ => .int
theorem nmX7 : ∀ a, a < 13 → ∀ b, b < 13 → a ≠ b → (TX7 a).2.1 ≠ (TX7 b).2.1 := by decide +kernel
theorem tyX7_ok : ∀ k, k < 13 → parseFieldDescriptor (TX7 k).2.2.1 = some (tyX7 k) := by decide +kernel
abbrev cX7_init : ByteArray := prog_9_method_1_code
def yX7_init : MethodName := ⟨RX7, "<init>", "()V"⟩
abbrev cX7_clear : ByteArray := prog_9_method_2_code
def yX7_clear : MethodName := ⟨RX7, "clear", "()V"⟩
abbrev cX7_openBlock : ByteArray := prog_9_method_3_code
def yX7_openBlock : MethodName := ⟨RX7, "openBlock", "()Z"⟩
abbrev cX7_closeBlock : ByteArray := prog_9_method_4_code
def yX7_closeBlock : MethodName := ⟨RX7, "closeBlock", "(LAxiomBook$Book;)V"⟩
abbrev cX7_dropHypothesis : ByteArray := prog_9_method_5_code
def yX7_dropHypothesis : MethodName := ⟨RX7, "dropHypothesis", "(LAxiomBook$Book;I)V"⟩
abbrev cX7_dropPairs : ByteArray := prog_9_method_6_code
def yX7_dropPairs : MethodName := ⟨RX7, "dropPairs", "()V"⟩
abbrev cX7_isActive : ByteArray := prog_9_method_7_code
def yX7_isActive : MethodName := ⟨RX7, "isActive", "(I)Z"⟩
abbrev cX7_isTyped : ByteArray := prog_9_method_8_code
def yX7_isTyped : MethodName := ⟨RX7, "isTyped", "(I)Z"⟩
abbrev cX7_activate : ByteArray := prog_9_method_9_code
def yX7_activate : MethodName := ⟨RX7, "activate", "(I)V"⟩
abbrev cX7_addHypothesis : ByteArray := prog_9_method_10_code
def yX7_addHypothesis : MethodName := ⟨RX7, "addHypothesis", "(LAxiomBook$Book;I)V"⟩
abbrev cX7_addNeeds : ByteArray := prog_9_method_11_code
def yX7_addNeeds : MethodName := ⟨RX7, "addNeeds", "(LAxiomBook$Book;II)V"⟩
abbrev cX7_addPair : ByteArray := prog_9_method_12_code
def yX7_addPair : MethodName := ⟨RX7, "addPair", "(II)Z"⟩
abbrev cX7_makeFrame : ByteArray := prog_9_method_13_code
def yX7_makeFrame : MethodName := ⟨RX7, "makeFrame", "(LAxiomBook$Book;I)V"⟩
def RX8 : String := "AxiomBook$Sheet"
def TX8 : u_T := fun k => match k with
  | 0 => ("AxiomBook$Sheet", "bytes", "[B", true)
  | 1 => ("AxiomBook$Sheet", "length", "I", false)
  | _ => ("AxiomBook$Sheet", "overflowed", "Z", false)
def tyX8 : Nat → FieldType := fun k => match k with
  | 0 => .array .byte
  | 1 => .int
  | _ => .boolean
theorem nmX8 : ∀ a, a < 3 → ∀ b, b < 3 → a ≠ b → (TX8 a).2.1 ≠ (TX8 b).2.1 := by decide +kernel
theorem tyX8_ok : ∀ k, k < 3 → parseFieldDescriptor (TX8 k).2.2.1 = some (tyX8 k) := by decide +kernel
abbrev cX8_init : ByteArray := prog_10_method_1_code
def yX8_init : MethodName := ⟨RX8, "<init>", "()V"⟩
abbrev cX8_clear : ByteArray := prog_10_method_2_code
def yX8_clear : MethodName := ⟨RX8, "clear", "()V"⟩
abbrev cX8_put : ByteArray := prog_10_method_3_code
def yX8_put : MethodName := ⟨RX8, "put", "(I)V"⟩
abbrev cX8_putName : ByteArray := prog_10_method_4_code
def yX8_putName : MethodName := ⟨RX8, "putName", "(LAxiomBook$Names;I)V"⟩
def RX9 : String := "AxiomBook$Teller"
def TX9 : u_T := fun k => match k with
  | 0 => ("AxiomBook$Teller", "book", "LAxiomBook$Book;", false)
  | 1 => ("AxiomBook$Teller", "proof", "LAxiomBook$Proof;", false)
  | 2 => ("AxiomBook$Teller", "nodes", "I", false)
  | 3 => ("AxiomBook$Teller", "root", "I", false)
  | 4 => ("AxiomBook$Teller", "labels", "[I", true)
  | 5 => ("AxiomBook$Teller", "taken", "LAxiomBook$Rows;", true)
  | 6 => ("AxiomBook$Teller", "uses", "[I", true)
  | 7 => ("AxiomBook$Teller", "heads", "[I", true)
  | 8 => ("AxiomBook$Teller", "nexts", "[I", true)
  | 9 => ("AxiomBook$Teller", "markedNodes", "[I", true)
  | 10 => ("AxiomBook$Teller", "stack", "[I", true)
  | 11 => ("AxiomBook$Teller", "done", "[I", true)
  | 12 => ("AxiomBook$Teller", "depth", "I", false)
  | 13 => ("AxiomBook$Teller", "labelNumbers", "[I", true)
  | 14 => ("AxiomBook$Teller", "nodeNumbers", "[I", true)
  | 15 => ("AxiomBook$Teller", "numbers", "I", false)
  | _ => ("AxiomBook$Teller", "digits", "[I", true)
def tyX9 : Nat → FieldType := fun k => match k with
  | 0 => .object "AxiomBook$Book"
  | 1 => .object "AxiomBook$Proof"
  | 2 => .int
  | 3 => .int
  | 4 => .array .int
  | 5 => .object "AxiomBook$Rows"
  | 6 => .array .int
  | 7 => .array .int
  | 8 => .array .int
  | 9 => .array .int
  | 10 => .array .int
  | 11 => .array .int
  | 12 => .int
  | 13 => .array .int
  | 14 => .array .int
  | 15 => .int
  | _ => .array .int
theorem nmX9 : ∀ a, a < 17 → ∀ b, b < 17 → a ≠ b → (TX9 a).2.1 ≠ (TX9 b).2.1 := by decide +kernel
theorem tyX9_ok : ∀ k, k < 17 → parseFieldDescriptor (TX9 k).2.2.1 = some (tyX9 k) := by decide +kernel
abbrev cX9_init : ByteArray := prog_11_method_1_code
def yX9_init : MethodName := ⟨RX9, "<init>", "(LAxiomBook$Book;LAxiomBook$Proof;)V"⟩
abbrev cX9_plant : ByteArray := prog_11_method_2_code
def yX9_plant : MethodName := ⟨RX9, "plant", "(LAxiomBook$Book;LAxiomBook$Proof;)V"⟩
abbrev cX9_nodeOf : ByteArray := prog_11_method_3_code
def yX9_nodeOf : MethodName := ⟨RX9, "nodeOf", "(III)I"⟩
abbrev cX9_takesStack : ByteArray := prog_11_method_4_code
def yX9_takesStack : MethodName := ⟨RX9, "takesStack", "(II)Z"⟩
abbrev cX9_addNode : ByteArray := prog_11_method_5_code
def yX9_addNode : MethodName := ⟨RX9, "addNode", "(IIII)I"⟩
abbrev cX9_writeOut : ByteArray := prog_11_method_6_code
def yX9_writeOut : MethodName := ⟨RX9, "writeOut", "(LAxiomBook$Sheet;)Z"⟩
abbrev cX9_enterRoot : ByteArray := prog_11_method_7_code
def yX9_enterRoot : MethodName := ⟨RX9, "enterRoot", "()V"⟩
abbrev cX9_enter : ByteArray := prog_11_method_8_code
def yX9_enter : MethodName := ⟨RX9, "enter", "(I)V"⟩
abbrev cX9_nextTaken : ByteArray := prog_11_method_9_code
def yX9_nextTaken : MethodName := ⟨RX9, "nextTaken", "()I"⟩
abbrev cX9_compress : ByteArray := prog_11_method_10_code
def yX9_compress : MethodName := ⟨RX9, "compress", "(LAxiomBook$Sheet;)V"⟩
abbrev cX9_numberLabels : ByteArray := prog_11_method_11_code
def yX9_numberLabels : MethodName := ⟨RX9, "numberLabels", "(LAxiomBook$Sheet;)V"⟩
abbrev cX9_leave : ByteArray := prog_11_method_12_code
def yX9_leave : MethodName := ⟨RX9, "leave", "(LAxiomBook$Sheet;)V"⟩
abbrev cX9_putNumber : ByteArray := prog_11_method_13_code
def yX9_putNumber : MethodName := ⟨RX9, "putNumber", "(LAxiomBook$Sheet;I)V"⟩
def RX10 : String := "AxiomBook"
def TX10 : u_T := fun k => match k with
  | 0 => ("AxiomBook", "book", "LAxiomBook$Book;", false)
  | 1 => ("AxiomBook", "draft", "LAxiomBook$Book;", false)
  | 2 => ("AxiomBook", "reader", "LAxiomBook$Reader;", true)
  | 3 => ("AxiomBook", "proof", "LAxiomBook$Proof;", true)
  | 4 => ("AxiomBook", "checker", "LAxiomBook$Machine;", true)
  | 5 => ("AxiomBook", "tracer", "LAxiomBook$Machine;", true)
  | 6 => ("AxiomBook", "teller", "LAxiomBook$Teller;", true)
  | 7 => ("AxiomBook", "told", "LAxiomBook$Sheet;", false)
  | 8 => ("AxiomBook", "blankSheet", "LAxiomBook$Sheet;", false)
  | 9 => ("AxiomBook", "latestPlace", "I", false)
  | _ => ("AxiomBook", "latestStep", "I", false)
def tyX10 : Nat → FieldType := fun k => match k with
  | 0 => .object "AxiomBook$Book"
  | 1 => .object "AxiomBook$Book"
  | 2 => .object "AxiomBook$Reader"
  | 3 => .object "AxiomBook$Proof"
  | 4 => .object "AxiomBook$Machine"
  | 5 => .object "AxiomBook$Machine"
  | 6 => .object "AxiomBook$Teller"
  | 7 => .object "AxiomBook$Sheet"
  | 8 => .object "AxiomBook$Sheet"
  | 9 => .int
  | _ => .int
theorem nmX10 : ∀ a, a < 11 → ∀ b, b < 11 → a ≠ b → (TX10 a).2.1 ≠ (TX10 b).2.1 := by decide +kernel
theorem tyX10_ok : ∀ k, k < 11 → parseFieldDescriptor (TX10 k).2.2.1 = some (tyX10 k) := by decide +kernel
abbrev cX10_init : ByteArray := prog_1_method_1_code
def yX10_init : MethodName := ⟨RX10, "<init>", "()V"⟩
abbrev cX10_feed : ByteArray := prog_1_method_2_code
def yX10_feed : MethodName := ⟨RX10, "feed", "(JJ)I"⟩
abbrev cX10_bytesIn : ByteArray := prog_1_method_3_code
def yX10_bytesIn : MethodName := ⟨RX10, "bytesIn", "(J)I"⟩
abbrev cX10_append : ByteArray := prog_1_method_4_code
def yX10_append : MethodName := ⟨RX10, "append", "(J)V"⟩
abbrev cX10_read : ByteArray := prog_1_method_5_code
def yX10_read : MethodName := ⟨RX10, "read", "()I"⟩
abbrev cX10_forgetAnswers : ByteArray := prog_1_method_6_code
def yX10_forgetAnswers : MethodName := ⟨RX10, "forgetAnswers", "()V"⟩
abbrev cX10_place : ByteArray := prog_1_method_7_code
def yX10_place : MethodName := ⟨RX10, "place", "()I"⟩
abbrev cX10_count : ByteArray := prog_1_method_8_code
def yX10_count : MethodName := ⟨RX10, "count", "(I)I"⟩
abbrev cX10_statement : ByteArray := prog_1_method_9_code
def yX10_statement : MethodName := ⟨RX10, "statement", "(II)I"⟩
abbrev cX10_symbol : ByteArray := prog_1_method_10_code
def yX10_symbol : MethodName := ⟨RX10, "symbol", "(II)I"⟩
abbrev cX10_name : ByteArray := prog_1_method_11_code
def yX10_name : MethodName := ⟨RX10, "name", "(III)I"⟩
abbrev cX10_frame : ByteArray := prog_1_method_12_code
def yX10_frame : MethodName := ⟨RX10, "frame", "(III)I"⟩
abbrev cX10_check : ByteArray := prog_1_method_13_code
def yX10_check : MethodName := ⟨RX10, "check", "(I)I"⟩
abbrev cX10_examine : ByteArray := prog_1_method_14_code
def yX10_examine : MethodName := ⟨RX10, "examine", "(I)I"⟩
abbrev cX10_step : ByteArray := prog_1_method_15_code
def yX10_step : MethodName := ⟨RX10, "step", "()I"⟩
abbrev cX10_trace : ByteArray := prog_1_method_16_code
def yX10_trace : MethodName := ⟨RX10, "trace", "(II)I"⟩
abbrev cX10_thing : ByteArray := prog_1_method_17_code
def yX10_thing : MethodName := ⟨RX10, "thing", "(II)I"⟩
abbrev cX10_tell : ByteArray := prog_1_method_18_code
def yX10_tell : MethodName := ⟨RX10, "tell", "(II)I"⟩
abbrev cX10_print : ByteArray := prog_1_method_19_code
def yX10_print : MethodName := ⟨RX10, "print", "(I)I"⟩
abbrev cX10_writeStatement : ByteArray := prog_1_method_20_code
def yX10_writeStatement : MethodName := ⟨RX10, "writeStatement", "(LAxiomBook$Sheet;I)V"⟩
abbrev cX10_keywordOf : ByteArray := prog_1_method_21_code
def yX10_keywordOf : MethodName := ⟨RX10, "keywordOf", "(I)I"⟩
abbrev cX10_publish : ByteArray := prog_1_method_22_code
def yX10_publish : MethodName := ⟨RX10, "publish", "()I"⟩
abbrev cX10_out : ByteArray := prog_1_method_23_code
def yX10_out : MethodName := ⟨RX10, "out", "(I)I"⟩
abbrev cX10_rests : ByteArray := prog_1_method_24_code
def yX10_rests : MethodName := ⟨RX10, "rests", "(II)I"⟩
abbrev cX10_find : ByteArray := prog_1_method_25_code
def yX10_find : MethodName := ⟨RX10, "find", "()I"⟩
def RX11 : String := "AxiomBookModel"
def TX11 : u_T := fun k => match k with
  | 0 => ("AxiomBookModel", "text", "[I", true)
  | 1 => ("AxiomBookModel", "size", "I", false)
  | 2 => ("AxiomBookModel", "place", "I", false)
  | 3 => ("AxiomBookModel", "stepAt", "I", false)
  | 4 => ("AxiomBookModel", "now", "I", false)
  | 5 => ("AxiomBookModel", "bytes", "[I", true)
  | 6 => ("AxiomBookModel", "symbolAt", "[I", true)
  | 7 => ("AxiomBookModel", "symbolLong", "[I", true)
  | 8 => ("AxiomBookModel", "variable", "[Z", true)
  | 9 => ("AxiomBookModel", "symbols", "[I", true)
  | 10 => ("AxiomBookModel", "kinds", "[I", true)
  | 11 => ("AxiomBookModel", "labelAt", "[I", true)
  | 12 => ("AxiomBookModel", "labelLong", "[I", true)
  | 13 => ("AxiomBookModel", "depths", "[I", true)
  | 14 => ("AxiomBookModel", "from", "[I", true)
  | 15 => ("AxiomBookModel", "many", "[I", true)
  | 16 => ("AxiomBookModel", "proofFrom", "[I", true)
  | 17 => ("AxiomBookModel", "proofMany", "[I", true)
  | 18 => ("AxiomBookModel", "statements", "[I", true)
  | 19 => ("AxiomBookModel", "pool", "[I", true)
  | 20 => ("AxiomBookModel", "proofAt", "[I", true)
  | 21 => ("AxiomBookModel", "proofLong", "[I", true)
  | 22 => ("AxiomBookModel", "active", "[J", true)
  | 23 => ("AxiomBookModel", "mandatory", "[J", true)
  | 24 => ("AxiomBookModel", "pairX", "[I", true)
  | 25 => ("AxiomBookModel", "pairY", "[I", true)
  | 26 => ("AxiomBookModel", "pairBegin", "[I", true)
  | 27 => ("AxiomBookModel", "pairEnd", "[I", true)
  | 28 => ("AxiomBookModel", "pairs", "[I", true)
  | 29 => ("AxiomBookModel", "at", "I", false)
  | 30 => ("AxiomBookModel", "long0", "I", false)
  | 31 => ("AxiomBookModel", "cursor", "I", false)
  | 32 => ("AxiomBookModel", "book", "I", false)
  | 33 => ("AxiomBookModel", "depth", "I", false)
  | 34 => ("AxiomBookModel", "mode", "I", false)
  | 35 => ("AxiomBookModel", "inside", "I", false)
  | 36 => ("AxiomBookModel", "poolMany", "I", false)
  | 37 => ("AxiomBookModel", "proofTokens", "I", false)
  | 38 => ("AxiomBookModel", "activeAt", "[I", true)
  | 39 => ("AxiomBookModel", "typeOf", "[I", true)
  | 40 => ("AxiomBookModel", "isActive", "[Z", true)
  | 41 => ("AxiomBookModel", "openPairs", "[I", true)
  | 42 => ("AxiomBookModel", "openDepth", "[I", true)
  | 43 => ("AxiomBookModel", "openMany", "I", false)
  | 44 => ("AxiomBookModel", "ofThis", "[I", true)
  | 45 => ("AxiomBookModel", "list", "[I", true)
  | 46 => ("AxiomBookModel", "listMany", "I", false)
  | 47 => ("AxiomBookModel", "letters", "[I", true)
  | 48 => ("AxiomBookModel", "letterMany", "I", false)
  | 49 => ("AxiomBookModel", "steps", "[I", true)
  | 50 => ("AxiomBookModel", "stepMany", "I", false)
  | 51 => ("AxiomBookModel", "markStep", "[I", true)
  | 52 => ("AxiomBookModel", "markOf", "[I", true)
  | 53 => ("AxiomBookModel", "marks", "I", false)
  | 54 => ("AxiomBookModel", "fault", "I", false)
  | 55 => ("AxiomBookModel", "faultAt", "I", false)
  | 56 => ("AxiomBookModel", "things", "[I", true)
  | 57 => ("AxiomBookModel", "thingLong", "[I", true)
  | 58 => ("AxiomBookModel", "thingNode", "[I", true)
  | 59 => ("AxiomBookModel", "thingMany", "I", false)
  | 60 => ("AxiomBookModel", "kept", "[I", true)
  | 61 => ("AxiomBookModel", "keptLong", "[I", true)
  | 62 => ("AxiomBookModel", "made", "[I", true)
  | 63 => ("AxiomBookModel", "standFor", "[I", true)
  | 64 => ("AxiomBookModel", "takes", "[I", true)
  | 65 => ("AxiomBookModel", "takeFrom", "[I", true)
  | 66 => ("AxiomBookModel", "takeMany", "[I", true)
  | 67 => ("AxiomBookModel", "takeAll", "I", false)
  | 68 => ("AxiomBookModel", "nodeOf", "[I", true)
  | 69 => ("AxiomBookModel", "traced", "[I", true)
  | 70 => ("AxiomBookModel", "tracedLong", "[I", true)
  | 71 => ("AxiomBookModel", "tracedMany", "I", false)
  | 72 => ("AxiomBookModel", "alike", "[I", true)
  | 73 => ("AxiomBookModel", "sizes", "[I", true)
  | 74 => ("AxiomBookModel", "way", "[I", true)
  | 75 => ("AxiomBookModel", "wayChild", "[I", true)
  | 76 => ("AxiomBookModel", "times", "[I", true)
  | 77 => ("AxiomBookModel", "marked", "[I", true)
  | 78 => ("AxiomBookModel", "named", "[I", true)
  | 79 => ("AxiomBookModel", "out", "[I", true)
  | 80 => ("AxiomBookModel", "outMany", "I", false)
  | 81 => ("AxiomBookModel", "telling", "[I", true)
  | 82 => ("AxiomBookModel", "tellMany", "I", false)
  | 83 => ("AxiomBookModel", "rest", "[Z", true)
  | 84 => ("AxiomBookModel", "turn", "[I", true)
  | _ => ("AxiomBookModel", "turns", "I", false)
def tyX11 : Nat → FieldType := fun k => match k with
  | 0 => .array .int
  | 1 => .int
  | 2 => .int
  | 3 => .int
  | 4 => .int
  | 5 => .array .int
  | 6 => .array .int
  | 7 => .array .int
  | 8 => .array .boolean
  | 9 => .array .int
  | 10 => .array .int
  | 11 => .array .int
  | 12 => .array .int
  | 13 => .array .int
  | 14 => .array .int
  | 15 => .array .int
  | 16 => .array .int
  | 17 => .array .int
  | 18 => .array .int
  | 19 => .array .int
  | 20 => .array .int
  | 21 => .array .int
  | 22 => .array .long
  | 23 => .array .long
  | 24 => .array .int
  | 25 => .array .int
  | 26 => .array .int
  | 27 => .array .int
  | 28 => .array .int
  | 29 => .int
  | 30 => .int
  | 31 => .int
  | 32 => .int
  | 33 => .int
  | 34 => .int
  | 35 => .int
  | 36 => .int
  | 37 => .int
  | 38 => .array .int
  | 39 => .array .int
  | 40 => .array .boolean
  | 41 => .array .int
  | 42 => .array .int
  | 43 => .int
  | 44 => .array .int
  | 45 => .array .int
  | 46 => .int
  | 47 => .array .int
  | 48 => .int
  | 49 => .array .int
  | 50 => .int
  | 51 => .array .int
  | 52 => .array .int
  | 53 => .int
  | 54 => .int
  | 55 => .int
  | 56 => .array .int
  | 57 => .array .int
  | 58 => .array .int
  | 59 => .int
  | 60 => .array .int
  | 61 => .array .int
  | 62 => .array .int
  | 63 => .array .int
  | 64 => .array .int
  | 65 => .array .int
  | 66 => .array .int
  | 67 => .int
  | 68 => .array .int
  | 69 => .array .int
  | 70 => .array .int
  | 71 => .int
  | 72 => .array .int
  | 73 => .array .int
  | 74 => .array .int
  | 75 => .array .int
  | 76 => .array .int
  | 77 => .array .int
  | 78 => .array .int
  | 79 => .array .int
  | 80 => .int
  | 81 => .array .int
  | 82 => .int
  | 83 => .array .boolean
  | 84 => .array .int
  | _ => .int
theorem nmX11 : ∀ a, a < 86 → ∀ b, b < 86 → a ≠ b → (TX11 a).2.1 ≠ (TX11 b).2.1 := by decide +kernel
theorem tyX11_ok : ∀ k, k < 86 → parseFieldDescriptor (TX11 k).2.2.1 = some (tyX11 k) := by decide +kernel
abbrev cX11_init : ByteArray := prog_13_method_1_code
def yX11_init : MethodName := ⟨RX11, "<init>", "()V"⟩
abbrev cX11_feed : ByteArray := prog_13_method_2_code
def yX11_feed : MethodName := ⟨RX11, "feed", "(JJ)I"⟩
abbrev cX11_byteOf : ByteArray := prog_13_method_3_code
def yX11_byteOf : MethodName := ⟨RX11, "byteOf", "(JJI)I"⟩
abbrev cX11_isBlank : ByteArray := prog_13_method_4_code
def yX11_isBlank : MethodName := ⟨RX11, "isBlank", "(I)Z"⟩
abbrev cX11_nextToken : ByteArray := prog_13_method_5_code
def yX11_nextToken : MethodName := ⟨RX11, "nextToken", "()Z"⟩
abbrev cX11_hasBad : ByteArray := prog_13_method_6_code
def yX11_hasBad : MethodName := ⟨RX11, "hasBad", "()Z"⟩
abbrev cX11_hasDollar : ByteArray := prog_13_method_7_code
def yX11_hasDollar : MethodName := ⟨RX11, "hasDollar", "()Z"⟩
abbrev cX11_hasPart : ByteArray := prog_13_method_8_code
def yX11_hasPart : MethodName := ⟨RX11, "hasPart", "(I)Z"⟩
abbrev cX11_isWord : ByteArray := prog_13_method_9_code
def yX11_isWord : MethodName := ⟨RX11, "isWord", "(I)Z"⟩
abbrev cX11_isKeyword : ByteArray := prog_13_method_10_code
def yX11_isKeyword : MethodName := ⟨RX11, "isKeyword", "()Z"⟩
abbrev cX11_isLabel : ByteArray := prog_13_method_11_code
def yX11_isLabel : MethodName := ⟨RX11, "isLabel", "()Z"⟩
abbrev cX11_same : ByteArray := prog_13_method_12_code
def yX11_same : MethodName := ⟨RX11, "same", "(II)Z"⟩
abbrev cX11_symbolHere : ByteArray := prog_13_method_13_code
def yX11_symbolHere : MethodName := ⟨RX11, "symbolHere", "()I"⟩
abbrev cX11_labelHere : ByteArray := prog_13_method_14_code
def yX11_labelHere : MethodName := ⟨RX11, "labelHere", "()I"⟩
abbrev cX11_beginBook : ByteArray := prog_13_method_15_code
def yX11_beginBook : MethodName := ⟨RX11, "beginBook", "()V"⟩
abbrev cX11_readBook : ByteArray := prog_13_method_16_code
def yX11_readBook : MethodName := ⟨RX11, "readBook", "()I"⟩
abbrev cX11_token : ByteArray := prog_13_method_17_code
def yX11_token : MethodName := ⟨RX11, "token", "()I"⟩
abbrev cX11_outside : ByteArray := prog_13_method_18_code
def yX11_outside : MethodName := ⟨RX11, "outside", "()I"⟩
abbrev cX11_closeBlock : ByteArray := prog_13_method_19_code
def yX11_closeBlock : MethodName := ⟨RX11, "closeBlock", "()V"⟩
abbrev cX11_kindOf : ByteArray := prog_13_method_20_code
def yX11_kindOf : MethodName := ⟨RX11, "kindOf", "()I"⟩
abbrev cX11_declared : ByteArray := prog_13_method_21_code
def yX11_declared : MethodName := ⟨RX11, "declared", "()I"⟩
abbrev cX11_distinct : ByteArray := prog_13_method_22_code
def yX11_distinct : MethodName := ⟨RX11, "distinct", "()I"⟩
abbrev cX11_isOpenPair : ByteArray := prog_13_method_23_code
def yX11_isOpenPair : MethodName := ⟨RX11, "isOpenPair", "(II)Z"⟩
abbrev cX11_openPair : ByteArray := prog_13_method_24_code
def yX11_openPair : MethodName := ⟨RX11, "openPair", "(II)V"⟩
abbrev cX11_takeSymbol : ByteArray := prog_13_method_25_code
def yX11_takeSymbol : MethodName := ⟨RX11, "takeSymbol", "(I)V"⟩
abbrev cX11_isConstant : ByteArray := prog_13_method_26_code
def yX11_isConstant : MethodName := ⟨RX11, "isConstant", "(I)Z"⟩
abbrev cX11_typed : ByteArray := prog_13_method_27_code
def yX11_typed : MethodName := ⟨RX11, "typed", "()I"⟩
abbrev cX11_formula : ByteArray := prog_13_method_28_code
def yX11_formula : MethodName := ⟨RX11, "formula", "()I"⟩
abbrev cX11_proof : ByteArray := prog_13_method_29_code
def yX11_proof : MethodName := ⟨RX11, "proof", "()I"⟩
abbrev cX11_endStatement : ByteArray := prog_13_method_30_code
def yX11_endStatement : MethodName := ⟨RX11, "endStatement", "()V"⟩
abbrev cX11_needs : ByteArray := prog_13_method_31_code
def yX11_needs : MethodName := ⟨RX11, "needs", "(II)V"⟩
abbrev cX11_frameOf : ByteArray := prog_13_method_32_code
def yX11_frameOf : MethodName := ⟨RX11, "frameOf", "(I)V"⟩
abbrev cX11_forgetWork : ByteArray := prog_13_method_33_code
def yX11_forgetWork : MethodName := ⟨RX11, "forgetWork", "()V"⟩
abbrev cX11_read : ByteArray := prog_13_method_34_code
def yX11_read : MethodName := ⟨RX11, "read", "()I"⟩
abbrev cX11_place : ByteArray := prog_13_method_35_code
def yX11_place : MethodName := ⟨RX11, "place", "()I"⟩
abbrev cX11_isStatement : ByteArray := prog_13_method_36_code
def yX11_isStatement : MethodName := ⟨RX11, "isStatement", "(I)Z"⟩
abbrev cX11_at : ByteArray := prog_13_method_37_code
def yX11_at : MethodName := ⟨RX11, "at", "(I)I"⟩
abbrev cX11_isBit : ByteArray := prog_13_method_38_code
def yX11_isBit : MethodName := ⟨RX11, "isBit", "([JII)Z"⟩
abbrev cX11_isKind : ByteArray := prog_13_method_39_code
def yX11_isKind : MethodName := ⟨RX11, "isKind", "(II)Z"⟩
abbrev cX11_hypotheses : ByteArray := prog_13_method_40_code
def yX11_hypotheses : MethodName := ⟨RX11, "hypotheses", "(I)I"⟩
abbrev cX11_hypothesis : ByteArray := prog_13_method_41_code
def yX11_hypothesis : MethodName := ⟨RX11, "hypothesis", "(II)I"⟩
abbrev cX11_isPairAt : ByteArray := prog_13_method_42_code
def yX11_isPairAt : MethodName := ⟨RX11, "isPairAt", "(II)Z"⟩
abbrev cX11_apart : ByteArray := prog_13_method_43_code
def yX11_apart : MethodName := ⟨RX11, "apart", "(III)Z"⟩
abbrev cX11_isMandatory : ByteArray := prog_13_method_44_code
def yX11_isMandatory : MethodName := ⟨RX11, "isMandatory", "(II)Z"⟩
abbrev cX11_framePair : ByteArray := prog_13_method_45_code
def yX11_framePair : MethodName := ⟨RX11, "framePair", "(II)I"⟩
abbrev cX11_count : ByteArray := prog_13_method_46_code
def yX11_count : MethodName := ⟨RX11, "count", "(I)I"⟩
abbrev cX11_statement : ByteArray := prog_13_method_47_code
def yX11_statement : MethodName := ⟨RX11, "statement", "(II)I"⟩
abbrev cX11_symbol : ByteArray := prog_13_method_48_code
def yX11_symbol : MethodName := ⟨RX11, "symbol", "(II)I"⟩
abbrev cX11_name : ByteArray := prog_13_method_49_code
def yX11_name : MethodName := ⟨RX11, "name", "(III)I"⟩
abbrev cX11_frame : ByteArray := prog_13_method_50_code
def yX11_frame : MethodName := ⟨RX11, "frame", "(III)I"⟩
abbrev cX11_proofToken : ByteArray := prog_13_method_51_code
def yX11_proofToken : MethodName := ⟨RX11, "proofToken", "(II)I"⟩
abbrev cX11_isOne : ByteArray := prog_13_method_52_code
def yX11_isOne : MethodName := ⟨RX11, "isOne", "(III)Z"⟩
abbrev cX11_namedBy : ByteArray := prog_13_method_53_code
def yX11_namedBy : MethodName := ⟨RX11, "namedBy", "(II)I"⟩
abbrev cX11_isCompressed : ByteArray := prog_13_method_54_code
def yX11_isCompressed : MethodName := ⟨RX11, "isCompressed", "(I)Z"⟩
abbrev cX11_listEnd : ByteArray := prog_13_method_55_code
def yX11_listEnd : MethodName := ⟨RX11, "listEnd", "(I)I"⟩
abbrev cX11_takeLetters : ByteArray := prog_13_method_56_code
def yX11_takeLetters : MethodName := ⟨RX11, "takeLetters", "(I)V"⟩
abbrev cX11_isOpen : ByteArray := prog_13_method_57_code
def yX11_isOpen : MethodName := ⟨RX11, "isOpen", "(I)Z"⟩
abbrev cX11_fails : ByteArray := prog_13_method_58_code
def yX11_fails : MethodName := ⟨RX11, "fails", "(II)Z"⟩
abbrev cX11_mayName : ByteArray := prog_13_method_59_code
def yX11_mayName : MethodName := ⟨RX11, "mayName", "(II)Z"⟩
abbrev cX11_readProof : ByteArray := prog_13_method_60_code
def yX11_readProof : MethodName := ⟨RX11, "readProof", "(I)Z"⟩
abbrev cX11_readList : ByteArray := prog_13_method_61_code
def yX11_readList : MethodName := ⟨RX11, "readList", "(I)Z"⟩
abbrev cX11_readLetters : ByteArray := prog_13_method_62_code
def yX11_readLetters : MethodName := ⟨RX11, "readLetters", "(I)Z"⟩
abbrev cX11_thing : ByteArray := prog_13_method_63_code
def yX11_thing : MethodName := ⟨RX11, "thing", "(I)I"⟩
abbrev cX11_endThing : ByteArray := prog_13_method_64_code
def yX11_endThing : MethodName := ⟨RX11, "endThing", "(II)V"⟩
abbrev cX11_pushHypothesis : ByteArray := prog_13_method_65_code
def yX11_pushHypothesis : MethodName := ⟨RX11, "pushHypothesis", "(II)Z"⟩
abbrev cX11_pushMarked : ByteArray := prog_13_method_66_code
def yX11_pushMarked : MethodName := ⟨RX11, "pushMarked", "(II)Z"⟩
abbrev cX11_substitute : ByteArray := prog_13_method_67_code
def yX11_substitute : MethodName := ⟨RX11, "substitute", "(I)I"⟩
abbrev cX11_meets : ByteArray := prog_13_method_68_code
def yX11_meets : MethodName := ⟨RX11, "meets", "(III)Z"⟩
abbrev cX11_keepApart : ByteArray := prog_13_method_69_code
def yX11_keepApart : MethodName := ⟨RX11, "keepApart", "(III)Z"⟩
abbrev cX11_pushAssertion : ByteArray := prog_13_method_70_code
def yX11_pushAssertion : MethodName := ⟨RX11, "pushAssertion", "(III)Z"⟩
abbrev cX11_runSteps : ByteArray := prog_13_method_71_code
def yX11_runSteps : MethodName := ⟨RX11, "runSteps", "(II)Z"⟩
abbrev cX11_judge : ByteArray := prog_13_method_72_code
def yX11_judge : MethodName := ⟨RX11, "judge", "(I)I"⟩
abbrev cX11_check : ByteArray := prog_13_method_73_code
def yX11_check : MethodName := ⟨RX11, "check", "(I)I"⟩
abbrev cX11_step : ByteArray := prog_13_method_74_code
def yX11_step : MethodName := ⟨RX11, "step", "()I"⟩
abbrev cX11_trace : ByteArray := prog_13_method_75_code
def yX11_trace : MethodName := ⟨RX11, "trace", "(II)I"⟩
abbrev cX11_thing_ : ByteArray := prog_13_method_76_code
def yX11_thing_ : MethodName := ⟨RX11, "thing", "(II)I"⟩
abbrev cX11_say : ByteArray := prog_13_method_77_code
def yX11_say : MethodName := ⟨RX11, "say", "(I)V"⟩
abbrev cX11_sayLabel : ByteArray := prog_13_method_78_code
def yX11_sayLabel : MethodName := ⟨RX11, "sayLabel", "(I)V"⟩
abbrev cX11_told : ByteArray := prog_13_method_79_code
def yX11_told : MethodName := ⟨RX11, "told", "()I"⟩
abbrev cX11_compare : ByteArray := prog_13_method_80_code
def yX11_compare : MethodName := ⟨RX11, "compare", "()V"⟩
abbrev cX11_writeOut : ByteArray := prog_13_method_81_code
def yX11_writeOut : MethodName := ⟨RX11, "writeOut", "(I)I"⟩
abbrev cX11_sayNumber : ByteArray := prog_13_method_82_code
def yX11_sayNumber : MethodName := ⟨RX11, "sayNumber", "(I)V"⟩
abbrev cX11_goDown : ByteArray := prog_13_method_83_code
def yX11_goDown : MethodName := ⟨RX11, "goDown", "(I)V"⟩
abbrev cX11_indexOf : ByteArray := prog_13_method_84_code
def yX11_indexOf : MethodName := ⟨RX11, "indexOf", "(II)I"⟩
abbrev cX11_compressed : ByteArray := prog_13_method_85_code
def yX11_compressed : MethodName := ⟨RX11, "compressed", "(II)I"⟩
abbrev cX11_tell : ByteArray := prog_13_method_86_code
def yX11_tell : MethodName := ⟨RX11, "tell", "(II)I"⟩
abbrev cX11_print : ByteArray := prog_13_method_87_code
def yX11_print : MethodName := ⟨RX11, "print", "(I)I"⟩
abbrev cX11_out : ByteArray := prog_13_method_88_code
def yX11_out : MethodName := ⟨RX11, "out", "(I)I"⟩
abbrev cX11_restOn : ByteArray := prog_13_method_89_code
def yX11_restOn : MethodName := ⟨RX11, "restOn", "(I)V"⟩
abbrev cX11_rests : ByteArray := prog_13_method_90_code
def yX11_rests : MethodName := ⟨RX11, "rests", "(II)I"⟩
abbrev cX11_find : ByteArray := prog_13_method_91_code
def yX11_find : MethodName := ⟨RX11, "find", "()I"⟩
def RJx8e188 : String := "java/lang/Cloneable"
def TJx8e188 : u_T := fun k => match k with
  | _ => ("", "", "", false)
def tyJx8e188 : Nat → FieldType := fun k => match k with
  | _ => .int
theorem nmJx8e188 : ∀ a, a < 0 → ∀ b, b < 0 → a ≠ b → (TJx8e188 a).2.1 ≠ (TJx8e188 b).2.1 := by decide +kernel
theorem tyJx8e188_ok : ∀ k, k < 0 → parseFieldDescriptor (TJx8e188 k).2.2.1 = some (tyJx8e188 k) := by decide +kernel
def RJ9 : String := "java/lang/Math"
def TJ9 : u_T := fun k => match k with
  | _ => ("", "", "", false)
def tyJ9 : Nat → FieldType := fun k => match k with
  | _ => .int
theorem nmJ9 : ∀ a, a < 0 → ∀ b, b < 0 → a ≠ b → (TJ9 a).2.1 ≠ (TJ9 b).2.1 := by decide +kernel
theorem tyJ9_ok : ∀ k, k < 0 → parseFieldDescriptor (TJ9 k).2.2.1 = some (tyJ9 k) := by decide +kernel
abbrev cJ9_max_7cf53 : ByteArray := prog_15_method_65_code
def yJ9_max_7cf53 : MethodName := ⟨RJ9, "max", "(II)I"⟩
abbrev cJ9_min_7cf53 : ByteArray := prog_15_method_69_code
def yJ9_min_7cf53 : MethodName := ⟨RJ9, "min", "(II)I"⟩
def RJ10 : String := "java/lang/System"
def TJ10 : u_T := fun k => match k with
  | _ => ("", "", "", false)
def tyJ10 : Nat → FieldType := fun k => match k with
  | _ => .int
theorem nmJ10 : ∀ a, a < 0 → ∀ b, b < 0 → a ≠ b → (TJ10 a).2.1 ≠ (TJ10 b).2.1 := by decide +kernel
theorem tyJ10_ok : ∀ k, k < 0 → parseFieldDescriptor (TJ10 k).2.2.1 = some (tyJ10 k) := by decide +kernel
def RJ7 : String := "java/util/Arrays"
def TJ7 : u_T := fun k => match k with
  | _ => ("", "", "", false)
def tyJ7 : Nat → FieldType := fun k => match k with
  | _ => .int
theorem nmJ7 : ∀ a, a < 0 → ∀ b, b < 0 → a ≠ b → (TJ7 a).2.1 ≠ (TJ7 b).2.1 := by decide +kernel
theorem tyJ7_ok : ∀ k, k < 0 → parseFieldDescriptor (TJ7 k).2.2.1 = some (tyJ7 k) := by decide +kernel
abbrev cJ7_fill_d0a16 : ByteArray := prog_17_method_101_code
def yJ7_fill_d0a16 : MethodName := ⟨RJ7, "fill", "([JJ)V"⟩
abbrev cJ7_fill_53178 : ByteArray := prog_17_method_103_code
def yJ7_fill_53178 : MethodName := ⟨RJ7, "fill", "([II)V"⟩
abbrev cJ7_fill_031fb : ByteArray := prog_17_method_109_code
def yJ7_fill_031fb : MethodName := ⟨RJ7, "fill", "([BB)V"⟩
abbrev cJ7_copyOf_59c91 : ByteArray := prog_17_method_123_code
def yJ7_copyOf_59c91 : MethodName := ⟨RJ7, "copyOf", "([II)[I"⟩
def RL : String := "AxiomBookLaw"
abbrev cL_law : ByteArray := code
def yL_law : MethodName := ⟨RL, "law", "([I)Z"⟩
end
section
/-! A heap as a function: an address has nothing, an array of ints, bytes or booleans (0, 1, 2), an array of longs, or an object (its class's place in hp_cl, its fields) -/
abbrev hp_E : Type := (Nat × Nat × (Nat → Int32)) ⊕ (Nat × (Nat → Int64)) ⊕ (Nat × (Nat → Value))
abbrev hp_H : Type := Nat → Option hp_E
/-- the launch, the first address that is ours, the classes' numbers and slots, the array classes' numbers -/
abbrev hp_G : Type := Launch × Nat × va_G × (Nat → ClassId)
/-- how a method ends: its answer, the heap, how many cells there are, how many slots were made -/
abbrev hp_O : Type := Option Value × hp_H × Nat × Nat
/-- a method: its class, its bytes, its locals, its answer's type, frames and locals that it needs below it, its name -/
abbrev hp_M : Type := String × ByteArray × Nat × Option FieldType × Nat × Nat × String
/-- the words of the tables that hold in every callee, too; and those of nest mates, which go beside them -/
def lw_g : List Cond := lw_tbl.filter goodWord
theorem lw_gin {w : Cond} (h : w ∈ lw_tbl) (hg : goodWord w = true) : w ∈ lw_g := List.mem_filter.mpr ⟨h, hg⟩
def hp_nest : List Cond := [.methodLinkNest "AxiomBook" 11 ⟨"AxiomBook$Book", "<init>", "()V"⟩ "AxiomBook", .methodLinkNest "AxiomBook$Reader" 11 ⟨"AxiomBook$Scope", "<init>", "()V"⟩ "AxiomBook", .methodLinkNest "AxiomBook" 56 ⟨"AxiomBook$Sheet", "<init>", "()V"⟩ "AxiomBook"]
def hp_N (U : State) : Prop := ∀ w ∈ hp_nest, va_Nw w U
theorem hp_N.warm {s U : State} (hW : s.WarmedH U.vm) (h : hp_N s) : hp_N U := by
  intro w hw
  have h1 := h w hw
  simp only [hp_nest, List.mem_cons, List.not_mem_nil, or_false] at hw
  rcases hw with rfl | rfl | rfl <;> exact va_Nw.warmM hW h1
theorem hp_N.same {s U : State} (hv : s.vm = U.vm) (h : hp_N s) : hp_N U := by
  intro w hw
  have h1 := h w hw
  simp only [hp_nest, List.mem_cons, List.not_mem_nil, or_false] at hw
  rcases hw with rfl | rfl | rfl <;> exact va_Nw.same rfl hv h1
def hp_cl : List vw_C := [(RX0, TX0, 18), (RX1, TX1, 6), (RX2, TX2, 5), (RX3, TX3, 13), (RX4, TX4, 11), (RX5, TX5, 4), (RX6, TX6, 5), (RX7, TX7, 13), (RX8, TX8, 3), (RX9, TX9, 17), (RX10, TX10, 11), (RX11, TX11, 86)]
theorem hp_in0 : ∀ w ∈ u_ws RX0 TX0 18, w ∈ lw_g := by decide +kernel
theorem hp_in1 : ∀ w ∈ u_ws RX1 TX1 6, w ∈ lw_g := by decide +kernel
theorem hp_in2 : ∀ w ∈ u_ws RX2 TX2 5, w ∈ lw_g := by decide +kernel
theorem hp_in3 : ∀ w ∈ u_ws RX3 TX3 13, w ∈ lw_g := by decide +kernel
theorem hp_in4 : ∀ w ∈ u_ws RX4 TX4 11, w ∈ lw_g := by decide +kernel
theorem hp_in5 : ∀ w ∈ u_ws RX5 TX5 4, w ∈ lw_g := by decide +kernel
theorem hp_in6 : ∀ w ∈ u_ws RX6 TX6 5, w ∈ lw_g := by decide +kernel
theorem hp_in7 : ∀ w ∈ u_ws RX7 TX7 13, w ∈ lw_g := by decide +kernel
theorem hp_in8 : ∀ w ∈ u_ws RX8 TX8 3, w ∈ lw_g := by decide +kernel
theorem hp_in9 : ∀ w ∈ u_ws RX9 TX9 17, w ∈ lw_g := by decide +kernel
theorem hp_in10 : ∀ w ∈ u_ws RX10 TX10 11, w ∈ lw_g := by decide +kernel
theorem hp_in11 : ∀ w ∈ u_ws RX11 TX11 86, w ∈ lw_g := by decide +kernel
def hp_A (G : hp_G) : Nat → Prop := fun q => G.2.1 ≤ q
def hp_at (G : hp_G) (e : hp_E) (a : Nat) (H : Heap) : Prop := match e with
  | .inl (t, n, f) => t < 3 ∧ H[a]? = some (arrV (G.2.2.2 t) n (fun j => .int (f j)))
  | .inr (.inl (n, f)) => H[a]? = some (arrV (G.2.2.2 3) n (fun j => .long (f j)))
  | .inr (.inr (ci, V)) => ∃ r : vw_C, hp_cl[ci]? = some r ∧ t_OB a (G.2.2.1.1 ci) r.2.2 (G.2.2.1.2 ci) H V
def hp_ok (G : hp_G) (h : hp_H) (H : Heap) : Prop := ∀ (a : Nat) (e : hp_E), h a = some e → G.2.1 ≤ a ∧ hp_at G e a H
def hp_K (G : hp_G) (U : State) : Prop := va_K G.2.2.1 hp_cl [(G.2.2.2 0, .int), (G.2.2.2 1, .byte), (G.2.2.2 2, .boolean), (G.2.2.2 3, .long)] U
def hp_Cx (G : hp_G) (M : hp_M) (p : Program) (R : Room) (s : State) (m : MethodId) (args : Array Value) (meth : Method) (c : Code) : Prop :=
  p.tables.exec = Jvm.exec ∧ c.code = M.2.1 ∧ meth.sig.returnType = M.2.2.2.1 ∧ c.maxLocals = M.2.2.1 ∧ s.vm.findClass M.1 = some m.cls ∧ (∀ w ∈ lw_g, w.before args s = true) ∧ meth.locks = false ∧ meth.name = M.2.2.2.2.2.2 ∧ hp_K G s ∧ G.2.1 ≤ s.heap.size ∧ R.frames = M.2.2.2.2.1 ∧ R.locals = M.2.2.2.2.2.1 ∧ hp_N s
def hp_Q (G : hp_G) (o : hp_O) : Array Value → State → Outcome → State → Prop := fun _ st oc t =>
  (oc = .returned o.1 ∧ hp_ok G o.2.1 t.heap ∧ t.heap.size = o.2.2.1 ∧ hp_K G t ∧ hp_N t) ∧ va_F (hp_A G) st t
/-- from here the method comes to the outcome o -/
def hp_V (G : hp_G) (M : hp_M) (pc : Nat) (lv : List (Nat × Value)) (st : List Value) (h : hp_H) (sz sl : Nat) (o : hp_O) : Prop :=
  ∀ (p : Program) (e : Env) (R : Room) (s : State) (m : MethodId) (args : Array Value) (below : List Frame) (meth : Method) (c : Code) (H : Heap) (locs : List Loc) (cells slots : Nat) (ls : Array Slot),
    hp_Cx G M p R s m args meth c → hp_ok G h H → H.size = sz → lv_has ls M.2.2.1 lv → va_S (hp_A G) s.heap H locs → cells + o.2.2.1 ≤ R.cells + sz → slots + o.2.2.2 ≤ R.slots + sl →
    W p G.1 e R s m args below meth c H locs cells slots (MQ below (hp_Q G o) args s R.cells R.slots (hp_A G)) (F0 m pc ls st)
/-- a method's contract at one outcome -/
def hp_C (G : hp_G) (M : hp_M) (y : MethodName) (as : List Value) (h : hp_H) (sz sl : Nat) (o : hp_O) : Prop :=
  sz ≤ o.2.2.1 ∧ sl ≤ o.2.2.2 ∧ Met G.1 y (.code y M.2.1 M.2.2.1 M.2.2.2.1 :: lw_g) { frames := M.2.2.2.2.1, cells := o.2.2.1 - sz, slots := o.2.2.2 - sl, locals := M.2.2.2.2.2.1 }
    (va_Pc as (fun U => U.heap.size = sz ∧ hp_ok G h U.heap ∧ hp_K G U ∧ G.2.1 ≤ sz ∧ hp_N U)) (hp_Q G o) (o.2.2.1 - sz) (o.2.2.2 - sl) (hp_A G)
section HPV
variable {G : hp_G} {M : hp_M} {pc : Nat} {lv : List (Nat × Value)} {st : List Value} {h : hp_H} {sz sl : Nat} {o : hp_O}
theorem hv_to {pc' : Nat} {lv' : List (Nat × Value)} {st' : List Value} (e1 : pc' = pc) (e2 : lv' = lv) (e3 : st' = st) (k : hp_V G M pc lv st h sz sl o) : hp_V G M pc' lv' st' h sz sl o := by
  subst e1; subst e2; subst e3; exact k
theorem hv_iconst {n : Int} (v : Int32) (hd : decode M.2.1 pc = .ok (.iconst n, 1)) (hv : Int32.ofInt n = v) (k : hp_V G M (pc + 1) lv (.int v :: st) h sz sl o) : hp_V G M pc lv st h sz sl o :=
  fun p e R s m args below meth c H locs cells slots ls C hH hz hl hS hc hs => lv_iconst C.1 C.2.1 hd hv (k p e R s m args below meth c H locs cells slots ls C hH hz hl hS hc hs)
theorem hv_bipush {n : Int} (v : Int32) (hd : decode M.2.1 pc = .ok (.bipush n, 2)) (hv : (Int8.ofInt n).toInt32 = v) (k : hp_V G M (pc + 2) lv (.int v :: st) h sz sl o) : hp_V G M pc lv (st) h sz sl o :=
  fun p e R s m args below meth c H locs cells slots ls C hH hz hl hS hc hs => lv_bipush C.1 C.2.1 hd hv (k p e R s m args below meth c H locs cells slots ls C hH hz hl hS hc hs)
theorem hv_sipush {n : Int} (v : Int32) (hd : decode M.2.1 pc = .ok (.sipush n, 3)) (hv : (Int16.ofInt n).toInt32 = v) (k : hp_V G M (pc + 3) lv (.int v :: st) h sz sl o) : hp_V G M pc lv (st) h sz sl o :=
  fun p e R s m args below meth c H locs cells slots ls C hH hz hl hS hc hs => lv_sipush C.1 C.2.1 hd hv (k p e R s m args below meth c H locs cells slots ls C hH hz hl hS hc hs)
theorem hv_lconst {n : Fin 2} (v : Int64) (hd : decode M.2.1 pc = .ok (.lconst n, 1)) (hv : Int64.ofNat (n : Nat) = v) (k : hp_V G M (pc + 1) lv (.long v :: st) h sz sl o) : hp_V G M pc lv (st) h sz sl o :=
  fun p e R s m args below meth c H locs cells slots ls C hH hz hl hS hc hs => lv_lconst C.1 C.2.1 hd hv (k p e R s m args below meth c H locs cells slots ls C hH hz hl hS hc hs)
theorem hv_iload_n {k0 : Fin 4} {i : Nat} {x : Int32} (j : Nat) (hd : decode M.2.1 pc = .ok (.iload_n k0, 1)) (hi : (k0 : Nat) = i) (hj : lv[j]? = some (i, .int x)) (k : hp_V G M (pc + 1) lv (.int x :: st) h sz sl o) : hp_V G M pc lv (st) h sz sl o :=
  fun p e R s m args below meth c H locs cells slots ls C hH hz hl hS hc hs => lv_iload_n C.1 C.2.1 hd hi (lv_at hl j hj) (k p e R s m args below meth c H locs cells slots ls C hH hz hl hS hc hs)
theorem hv_iload {i : Nat} {x : Int32} (j : Nat) (hd : decode M.2.1 pc = .ok (.iload i, 2)) (hj : lv[j]? = some (i, .int x)) (k : hp_V G M (pc + 2) lv (.int x :: st) h sz sl o) : hp_V G M pc lv (st) h sz sl o :=
  fun p e R s m args below meth c H locs cells slots ls C hH hz hl hS hc hs => lv_iload C.1 C.2.1 hd (lv_at hl j hj) (k p e R s m args below meth c H locs cells slots ls C hH hz hl hS hc hs)
theorem hv_lload_n {k0 : Fin 4} {i : Nat} {x : Int64} (j : Nat) (hd : decode M.2.1 pc = .ok (.lload_n k0, 1)) (hi : (k0 : Nat) = i) (hj : lv[j]? = some (i, .long x)) (k : hp_V G M (pc + 1) lv (.long x :: st) h sz sl o) : hp_V G M pc lv (st) h sz sl o :=
  fun p e R s m args below meth c H locs cells slots ls C hH hz hl hS hc hs => lv_lload_n C.1 C.2.1 hd hi (lv_at hl j hj) (k p e R s m args below meth c H locs cells slots ls C hH hz hl hS hc hs)
theorem hv_lload {i : Nat} {x : Int64} (j : Nat) (hd : decode M.2.1 pc = .ok (.lload i, 2)) (hj : lv[j]? = some (i, .long x)) (k : hp_V G M (pc + 2) lv (.long x :: st) h sz sl o) : hp_V G M pc lv (st) h sz sl o :=
  fun p e R s m args below meth c H locs cells slots ls C hH hz hl hS hc hs => lv_lload C.1 C.2.1 hd (lv_at hl j hj) (k p e R s m args below meth c H locs cells slots ls C hH hz hl hS hc hs)
theorem hv_aload_n {k0 : Fin 4} {i : Nat} {x : Nat} (j : Nat) (hd : decode M.2.1 pc = .ok (.aload_n k0, 1)) (hi : (k0 : Nat) = i) (hj : lv[j]? = some (i, .ref x)) (k : hp_V G M (pc + 1) lv (.ref x :: st) h sz sl o) : hp_V G M pc lv (st) h sz sl o :=
  fun p e R s m args below meth c H locs cells slots ls C hH hz hl hS hc hs => lv_aload_n C.1 C.2.1 hd hi (lv_at hl j hj) (k p e R s m args below meth c H locs cells slots ls C hH hz hl hS hc hs)
theorem hv_aload {i : Nat} {x : Nat} (j : Nat) (hd : decode M.2.1 pc = .ok (.aload i, 2)) (hj : lv[j]? = some (i, .ref x)) (k : hp_V G M (pc + 2) lv (.ref x :: st) h sz sl o) : hp_V G M pc lv (st) h sz sl o :=
  fun p e R s m args below meth c H locs cells slots ls C hH hz hl hS hc hs => lv_aload C.1 C.2.1 hd (lv_at hl j hj) (k p e R s m args below meth c H locs cells slots ls C hH hz hl hS hc hs)
theorem hv_istore_n {k0 : Fin 4} {i : Nat} {x : Int32} (lv2 : List (Nat × Value)) (hd : decode M.2.1 pc = .ok (.istore_n k0, 1)) (hi : (k0 : Nat) = i) (hn : i < M.2.2.1) (hf : (i, Value.int x) :: lv.filter (fun q => !(q.1 == i) && !(q.1 + 1 == i && q.2.category == 2)) = lv2) (k : hp_V G M (pc + 1) lv2 st h sz sl o) : hp_V G M pc lv (.int x :: st) h sz sl o :=
  fun p e R s m args below meth c H locs cells slots ls C hH hz hl hS hc hs => lv_istore_n C.1 C.2.1 hd hi hl hn hf (fun ls2 hl2 => k p e R s m args below meth c H locs cells slots ls2 C hH hz hl2 hS hc hs)
theorem hv_istore {i : Nat} {x : Int32} (lv2 : List (Nat × Value)) (hd : decode M.2.1 pc = .ok (.istore i, 2)) (hn : i < M.2.2.1) (hf : (i, Value.int x) :: lv.filter (fun q => !(q.1 == i) && !(q.1 + 1 == i && q.2.category == 2)) = lv2) (k : hp_V G M (pc + 2) lv2 st h sz sl o) : hp_V G M pc lv (.int x :: st) h sz sl o :=
  fun p e R s m args below meth c H locs cells slots ls C hH hz hl hS hc hs => lv_istore C.1 C.2.1 hd hl hn hf (fun ls2 hl2 => k p e R s m args below meth c H locs cells slots ls2 C hH hz hl2 hS hc hs)
theorem hv_lstore_n {k0 : Fin 4} {i : Nat} {x : Int64} (lv2 : List (Nat × Value)) (hd : decode M.2.1 pc = .ok (.lstore_n k0, 1)) (hi : (k0 : Nat) = i) (hn : i + 1 < M.2.2.1) (hf : (i, Value.long x) :: lv.filter (fun q => !(q.1 == i) && (!(q.1 == i + 1) && !(q.1 + 1 == i && q.2.category == 2))) = lv2) (k : hp_V G M (pc + 1) lv2 st h sz sl o) : hp_V G M pc lv (.long x :: st) h sz sl o :=
  fun p e R s m args below meth c H locs cells slots ls C hH hz hl hS hc hs => lv_lstore_n C.1 C.2.1 hd hi hl hn hf (fun ls2 hl2 => k p e R s m args below meth c H locs cells slots ls2 C hH hz hl2 hS hc hs)
theorem hv_lstore {i : Nat} {x : Int64} (lv2 : List (Nat × Value)) (hd : decode M.2.1 pc = .ok (.lstore i, 2)) (hn : i + 1 < M.2.2.1) (hf : (i, Value.long x) :: lv.filter (fun q => !(q.1 == i) && (!(q.1 == i + 1) && !(q.1 + 1 == i && q.2.category == 2))) = lv2) (k : hp_V G M (pc + 2) lv2 st h sz sl o) : hp_V G M pc lv (.long x :: st) h sz sl o :=
  fun p e R s m args below meth c H locs cells slots ls C hH hz hl hS hc hs => lv_lstore C.1 C.2.1 hd hl hn hf (fun ls2 hl2 => k p e R s m args below meth c H locs cells slots ls2 C hH hz hl2 hS hc hs)
theorem hv_astore_n {k0 : Fin 4} {i : Nat} {x : Nat} (lv2 : List (Nat × Value)) (hd : decode M.2.1 pc = .ok (.astore_n k0, 1)) (hi : (k0 : Nat) = i) (hn : i < M.2.2.1) (hf : (i, Value.ref x) :: lv.filter (fun q => !(q.1 == i) && !(q.1 + 1 == i && q.2.category == 2)) = lv2) (k : hp_V G M (pc + 1) lv2 st h sz sl o) : hp_V G M pc lv (.ref x :: st) h sz sl o :=
  fun p e R s m args below meth c H locs cells slots ls C hH hz hl hS hc hs => lv_astore_n C.1 C.2.1 hd hi hl hn hf (fun ls2 hl2 => k p e R s m args below meth c H locs cells slots ls2 C hH hz hl2 hS hc hs)
theorem hv_astore {i : Nat} {x : Nat} (lv2 : List (Nat × Value)) (hd : decode M.2.1 pc = .ok (.astore i, 2)) (hn : i < M.2.2.1) (hf : (i, Value.ref x) :: lv.filter (fun q => !(q.1 == i) && !(q.1 + 1 == i && q.2.category == 2)) = lv2) (k : hp_V G M (pc + 2) lv2 st h sz sl o) : hp_V G M pc lv (.ref x :: st) h sz sl o :=
  fun p e R s m args below meth c H locs cells slots ls C hH hz hl hS hc hs => lv_astore C.1 C.2.1 hd hl hn hf (fun ls2 hl2 => k p e R s m args below meth c H locs cells slots ls2 C hH hz hl2 hS hc hs)
theorem hv_iinc {i : Nat} {n : Int} {x : Int32} (v : Int32) (j : Nat) (lv2 : List (Nat × Value)) (hd : decode M.2.1 pc = .ok (.iinc i n, 3)) (hj : lv[j]? = some (i, .int x)) (hv : x + Int32.ofInt n = v) (hn : i < M.2.2.1) (hf : (i, Value.int v) :: lv.filter (fun q => !(q.1 == i) && !(q.1 + 1 == i && q.2.category == 2)) = lv2) (k : hp_V G M (pc + 3) lv2 st h sz sl o) : hp_V G M pc lv st h sz sl o :=
  fun p e R s m args below meth c H locs cells slots ls C hH hz hl hS hc hs => lv_iinc C.1 C.2.1 hd hl hj hv hn hf (fun ls2 hl2 => k p e R s m args below meth c H locs cells slots ls2 C hH hz hl2 hS hc hs)
theorem hv_iadd {x y : Int32} (hd : decode M.2.1 pc = .ok (.iadd, 1)) (k : hp_V G M (pc + 1) lv (.int (x + y) :: st) h sz sl o) : hp_V G M pc lv (.int y :: .int x :: st) h sz sl o :=
  fun p e R s m args below meth c H locs cells slots ls C hH hz hl hS hc hs => lv_iadd C.1 C.2.1 hd (k p e R s m args below meth c H locs cells slots ls C hH hz hl hS hc hs)
theorem hv_isub {x y : Int32} (hd : decode M.2.1 pc = .ok (.isub, 1)) (k : hp_V G M (pc + 1) lv (.int (x - y) :: st) h sz sl o) : hp_V G M pc lv (.int y :: .int x :: st) h sz sl o :=
  fun p e R s m args below meth c H locs cells slots ls C hH hz hl hS hc hs => lv_isub C.1 C.2.1 hd (k p e R s m args below meth c H locs cells slots ls C hH hz hl hS hc hs)
theorem hv_imul {x y : Int32} (hd : decode M.2.1 pc = .ok (.imul, 1)) (k : hp_V G M (pc + 1) lv (.int (x * y) :: st) h sz sl o) : hp_V G M pc lv (.int y :: .int x :: st) h sz sl o :=
  fun p e R s m args below meth c H locs cells slots ls C hH hz hl hS hc hs => lv_imul C.1 C.2.1 hd (k p e R s m args below meth c H locs cells slots ls C hH hz hl hS hc hs)
theorem hv_iand {x y : Int32} (hd : decode M.2.1 pc = .ok (.iand, 1)) (k : hp_V G M (pc + 1) lv (.int (x &&& y) :: st) h sz sl o) : hp_V G M pc lv (.int y :: .int x :: st) h sz sl o :=
  fun p e R s m args below meth c H locs cells slots ls C hH hz hl hS hc hs => lv_iand C.1 C.2.1 hd (k p e R s m args below meth c H locs cells slots ls C hH hz hl hS hc hs)
theorem hv_ior {x y : Int32} (hd : decode M.2.1 pc = .ok (.ior, 1)) (k : hp_V G M (pc + 1) lv (.int (x ||| y) :: st) h sz sl o) : hp_V G M pc lv (.int y :: .int x :: st) h sz sl o :=
  fun p e R s m args below meth c H locs cells slots ls C hH hz hl hS hc hs => lv_ior C.1 C.2.1 hd (k p e R s m args below meth c H locs cells slots ls C hH hz hl hS hc hs)
theorem hv_ixor {x y : Int32} (hd : decode M.2.1 pc = .ok (.ixor, 1)) (k : hp_V G M (pc + 1) lv (.int (x ^^^ y) :: st) h sz sl o) : hp_V G M pc lv (.int y :: .int x :: st) h sz sl o :=
  fun p e R s m args below meth c H locs cells slots ls C hH hz hl hS hc hs => lv_ixor C.1 C.2.1 hd (k p e R s m args below meth c H locs cells slots ls C hH hz hl hS hc hs)
theorem hv_ishl {x y : Int32} (hd : decode M.2.1 pc = .ok (.ishl, 1)) (k : hp_V G M (pc + 1) lv (.int (x <<< (y &&& 31)) :: st) h sz sl o) : hp_V G M pc lv (.int y :: .int x :: st) h sz sl o :=
  fun p e R s m args below meth c H locs cells slots ls C hH hz hl hS hc hs => lv_ishl C.1 C.2.1 hd (k p e R s m args below meth c H locs cells slots ls C hH hz hl hS hc hs)
theorem hv_ishr {x y : Int32} (hd : decode M.2.1 pc = .ok (.ishr, 1)) (k : hp_V G M (pc + 1) lv (.int (x >>> (y &&& 31)) :: st) h sz sl o) : hp_V G M pc lv (.int y :: .int x :: st) h sz sl o :=
  fun p e R s m args below meth c H locs cells slots ls C hH hz hl hS hc hs => lv_ishr C.1 C.2.1 hd (k p e R s m args below meth c H locs cells slots ls C hH hz hl hS hc hs)
theorem hv_idiv {x y : Int32} (hd : decode M.2.1 pc = .ok (.idiv, 1)) (hne : ¬ y = 0) (k : hp_V G M (pc + 1) lv (.int (x / y) :: st) h sz sl o) : hp_V G M pc lv (.int y :: .int x :: st) h sz sl o :=
  fun p e R s m args below meth c H locs cells slots ls C hH hz hl hS hc hs => lv_idiv C.1 C.2.1 hd hne (k p e R s m args below meth c H locs cells slots ls C hH hz hl hS hc hs)
theorem hv_irem {x y : Int32} (hd : decode M.2.1 pc = .ok (.irem, 1)) (hne : ¬ y = 0) (k : hp_V G M (pc + 1) lv (.int (x - x / y * y) :: st) h sz sl o) : hp_V G M pc lv (.int y :: .int x :: st) h sz sl o :=
  fun p e R s m args below meth c H locs cells slots ls C hH hz hl hS hc hs => lv_irem C.1 C.2.1 hd hne (k p e R s m args below meth c H locs cells slots ls C hH hz hl hS hc hs)
theorem hv_ineg {x : Int32} (hd : decode M.2.1 pc = .ok (.ineg, 1)) (k : hp_V G M (pc + 1) lv (.int (-x) :: st) h sz sl o) : hp_V G M pc lv (.int x :: st) h sz sl o :=
  fun p e R s m args below meth c H locs cells slots ls C hH hz hl hS hc hs => lv_ineg C.1 C.2.1 hd (k p e R s m args below meth c H locs cells slots ls C hH hz hl hS hc hs)
theorem hv_iushr {x y : Int32} (hd : decode M.2.1 pc = .ok (.iushr, 1)) (k : hp_V G M (pc + 1) lv (.int ((x.toUInt32 >>> (y.toUInt32 &&& Int32.toUInt32 31)).toInt32) :: st) h sz sl o) : hp_V G M pc lv (.int y :: .int x :: st) h sz sl o :=
  fun p e R s m args below meth c H locs cells slots ls C hH hz hl hS hc hs => lv_iushr C.1 C.2.1 hd rfl (k p e R s m args below meth c H locs cells slots ls C hH hz hl hS hc hs)
theorem hv_ladd {x y : Int64} (hd : decode M.2.1 pc = .ok (.ladd, 1)) (k : hp_V G M (pc + 1) lv (.long (x + y) :: st) h sz sl o) : hp_V G M pc lv (.long y :: .long x :: st) h sz sl o :=
  fun p e R s m args below meth c H locs cells slots ls C hH hz hl hS hc hs => lv_ladd C.1 C.2.1 hd (k p e R s m args below meth c H locs cells slots ls C hH hz hl hS hc hs)
theorem hv_lsub {x y : Int64} (hd : decode M.2.1 pc = .ok (.lsub, 1)) (k : hp_V G M (pc + 1) lv (.long (x - y) :: st) h sz sl o) : hp_V G M pc lv (.long y :: .long x :: st) h sz sl o :=
  fun p e R s m args below meth c H locs cells slots ls C hH hz hl hS hc hs => lv_lsub C.1 C.2.1 hd (k p e R s m args below meth c H locs cells slots ls C hH hz hl hS hc hs)
theorem hv_lmul {x y : Int64} (hd : decode M.2.1 pc = .ok (.lmul, 1)) (k : hp_V G M (pc + 1) lv (.long (x * y) :: st) h sz sl o) : hp_V G M pc lv (.long y :: .long x :: st) h sz sl o :=
  fun p e R s m args below meth c H locs cells slots ls C hH hz hl hS hc hs => lv_lmul C.1 C.2.1 hd (k p e R s m args below meth c H locs cells slots ls C hH hz hl hS hc hs)
theorem hv_land {x y : Int64} (hd : decode M.2.1 pc = .ok (.land, 1)) (k : hp_V G M (pc + 1) lv (.long (x &&& y) :: st) h sz sl o) : hp_V G M pc lv (.long y :: .long x :: st) h sz sl o :=
  fun p e R s m args below meth c H locs cells slots ls C hH hz hl hS hc hs => lv_land C.1 C.2.1 hd (k p e R s m args below meth c H locs cells slots ls C hH hz hl hS hc hs)
theorem hv_lor {x y : Int64} (hd : decode M.2.1 pc = .ok (.lor, 1)) (k : hp_V G M (pc + 1) lv (.long (x ||| y) :: st) h sz sl o) : hp_V G M pc lv (.long y :: .long x :: st) h sz sl o :=
  fun p e R s m args below meth c H locs cells slots ls C hH hz hl hS hc hs => lv_lor C.1 C.2.1 hd (k p e R s m args below meth c H locs cells slots ls C hH hz hl hS hc hs)
theorem hv_lxor {x y : Int64} (hd : decode M.2.1 pc = .ok (.lxor, 1)) (k : hp_V G M (pc + 1) lv (.long (x ^^^ y) :: st) h sz sl o) : hp_V G M pc lv (.long y :: .long x :: st) h sz sl o :=
  fun p e R s m args below meth c H locs cells slots ls C hH hz hl hS hc hs => lv_lxor C.1 C.2.1 hd (k p e R s m args below meth c H locs cells slots ls C hH hz hl hS hc hs)
theorem hv_lushr {x : Int64} {y : Int32} (hd : decode M.2.1 pc = .ok (.lushr, 1)) (k : hp_V G M (pc + 1) lv (.long ((x.toUInt64 >>> (y.toInt64.toUInt64 &&& Int64.toUInt64 63)).toInt64) :: st) h sz sl o) : hp_V G M pc lv (.int y :: .long x :: st) h sz sl o :=
  fun p e R s m args below meth c H locs cells slots ls C hH hz hl hS hc hs => lv_lushr C.1 C.2.1 hd rfl (k p e R s m args below meth c H locs cells slots ls C hH hz hl hS hc hs)
theorem hv_lshl {x : Int64} {y : Int32} (hd : decode M.2.1 pc = .ok (.lshl, 1)) (k : hp_V G M (pc + 1) lv (.long (x <<< (y.toInt64 &&& 63)) :: st) h sz sl o) : hp_V G M pc lv (.int y :: .long x :: st) h sz sl o :=
  fun p e R s m args below meth c H locs cells slots ls C hH hz hl hS hc hs => lv_lshl C.1 C.2.1 hd rfl (k p e R s m args below meth c H locs cells slots ls C hH hz hl hS hc hs)
theorem hv_i2l {x : Int32} (hd : decode M.2.1 pc = .ok (.i2l, 1)) (k : hp_V G M (pc + 1) lv (.long x.toInt64 :: st) h sz sl o) : hp_V G M pc lv (.int x :: st) h sz sl o :=
  fun p e R s m args below meth c H locs cells slots ls C hH hz hl hS hc hs => lv_i2l C.1 C.2.1 hd rfl (k p e R s m args below meth c H locs cells slots ls C hH hz hl hS hc hs)
theorem hv_l2i {x : Int64} (hd : decode M.2.1 pc = .ok (.l2i, 1)) (k : hp_V G M (pc + 1) lv (.int x.toInt32 :: st) h sz sl o) : hp_V G M pc lv (.long x :: st) h sz sl o :=
  fun p e R s m args below meth c H locs cells slots ls C hH hz hl hS hc hs => lv_l2i C.1 C.2.1 hd rfl (k p e R s m args below meth c H locs cells slots ls C hH hz hl hS hc hs)
theorem hv_i2b {x : Int32} (hd : decode M.2.1 pc = .ok (.i2b, 1)) (k : hp_V G M (pc + 1) lv (.int x.toInt8.toInt32 :: st) h sz sl o) : hp_V G M pc lv (.int x :: st) h sz sl o :=
  fun p e R s m args below meth c H locs cells slots ls C hH hz hl hS hc hs => lv_i2b C.1 C.2.1 hd rfl (k p e R s m args below meth c H locs cells slots ls C hH hz hl hS hc hs)
theorem hv_lcmp {x y : Int64} (hd : decode M.2.1 pc = .ok (.lcmp, 1)) (k : hp_V G M (pc + 1) lv (.int (lg_cmp x y) :: st) h sz sl o) : hp_V G M pc lv (.long y :: .long x :: st) h sz sl o :=
  fun p e R s m args below meth c H locs cells slots ls C hH hz hl hS hc hs => W.lcmp C.1 C.2.1 hd (k p e R s m args below meth c H locs cells slots ls C hH hz hl hS hc hs)
theorem hv_dup {va : Value} (hd : decode M.2.1 pc = .ok (.dup, 1)) (h1 : va.category = 1) (k : hp_V G M (pc + 1) lv (va :: va :: st) h sz sl o) : hp_V G M pc lv (va :: st) h sz sl o :=
  fun p e R s m args below meth c H locs cells slots ls C hH hz hl hS hc hs => lv_dup C.1 C.2.1 hd h1 (k p e R s m args below meth c H locs cells slots ls C hH hz hl hS hc hs)
theorem hv_pop {va : Value} (hd : decode M.2.1 pc = .ok (.pop, 1)) (h1 : va.category = 1) (k : hp_V G M (pc + 1) lv (st) h sz sl o) : hp_V G M pc lv (va :: st) h sz sl o :=
  fun p e R s m args below meth c H locs cells slots ls C hH hz hl hS hc hs => lv_pop C.1 C.2.1 hd h1 (k p e R s m args below meth c H locs cells slots ls C hH hz hl hS hc hs)
theorem hv_dup2_11 {va vb : Value} (hd : decode M.2.1 pc = .ok (.dup2, 1)) (h1 : va.category = 1) (h2 : vb.category = 1) (k : hp_V G M (pc + 1) lv (va :: vb :: va :: vb :: st) h sz sl o) : hp_V G M pc lv (va :: vb :: st) h sz sl o :=
  fun p e R s m args below meth c H locs cells slots ls C hH hz hl hS hc hs => lv_dup2_11 C.1 C.2.1 hd h1 h2 (k p e R s m args below meth c H locs cells slots ls C hH hz hl hS hc hs)
theorem hv_ldc {index : Nat} (v : Int32) (hd : decode M.2.1 pc = .ok (.ldc index, 2)) (hw : Cond.constant M.1 index v ∈ lw_g) (k : hp_V G M (pc + 2) lv (.int v :: st) h sz sl o) : hp_V G M pc lv (st) h sz sl o :=
  fun p e R s m args below meth c H locs cells slots ls C hH hz hl hS hc hs => lv_ldc C.1 C.2.1 C.2.2.2.2.1 (C.2.2.2.2.2.1 _ hw) hd (k p e R s m args below meth c H locs cells slots ls C hH hz hl hS hc hs)
theorem hv_ldcw {index : Nat} (v : Int32) (hd : decode M.2.1 pc = .ok (.ldc_w index, 3)) (hw : Cond.constant M.1 index v ∈ lw_g) (k : hp_V G M (pc + 3) lv (.int v :: st) h sz sl o) : hp_V G M pc lv (st) h sz sl o :=
  fun p e R s m args below meth c H locs cells slots ls C hH hz hl hS hc hs => lv_ldcw C.1 C.2.1 C.2.2.2.2.1 (C.2.2.2.2.2.1 _ hw) hd (k p e R s m args below meth c H locs cells slots ls C hH hz hl hS hc hs)
theorem hv_ldc2 {index : Nat} (v : Int64) (hd : decode M.2.1 pc = .ok (.ldc2_w index, 3)) (hw : Cond.constantLong M.1 index v ∈ lw_g) (k : hp_V G M (pc + 3) lv (.long v :: st) h sz sl o) : hp_V G M pc lv (st) h sz sl o :=
  fun p e R s m args below meth c H locs cells slots ls C hH hz hl hS hc hs => lv_ldc2 C.1 C.2.1 C.2.2.2.2.1 (C.2.2.2.2.2.1 _ hw) hd (k p e R s m args below meth c H locs cells slots ls C hH hz hl hS hc hs)
theorem hv_if_eq {x : Int32} {off : Int} {tgt : Nat} (hd : decode M.2.1 pc = .ok (.ifCond .eq off, 3)) (ht : (pc : Int) + off = (tgt : Int)) (kt : x = 0 → hp_V G M tgt lv st h sz sl o) (kf : ¬ x = 0 → hp_V G M (pc + 3) lv st h sz sl o) : hp_V G M pc lv (.int x :: st) h sz sl o :=
  fun p e R s m args below meth c H locs cells slots ls C hH hz hl hS hc hs => lv_if_eq C.1 C.2.1 hd ht (fun q => kt q p e R s m args below meth c H locs cells slots ls C hH hz hl hS hc hs) (fun q => kf q p e R s m args below meth c H locs cells slots ls C hH hz hl hS hc hs)
theorem hv_if_ne {x : Int32} {off : Int} {tgt : Nat} (hd : decode M.2.1 pc = .ok (.ifCond .ne off, 3)) (ht : (pc : Int) + off = (tgt : Int)) (kt : ¬ x = 0 → hp_V G M tgt lv st h sz sl o) (kf : x = 0 → hp_V G M (pc + 3) lv st h sz sl o) : hp_V G M pc lv (.int x :: st) h sz sl o :=
  fun p e R s m args below meth c H locs cells slots ls C hH hz hl hS hc hs => lv_if_ne C.1 C.2.1 hd ht (fun q => kt q p e R s m args below meth c H locs cells slots ls C hH hz hl hS hc hs) (fun q => kf q p e R s m args below meth c H locs cells slots ls C hH hz hl hS hc hs)
theorem hv_if_lt {x : Int32} {off : Int} {tgt : Nat} (hd : decode M.2.1 pc = .ok (.ifCond .lt off, 3)) (ht : (pc : Int) + off = (tgt : Int)) (kt : x < 0 → hp_V G M tgt lv st h sz sl o) (kf : ¬ x < 0 → hp_V G M (pc + 3) lv st h sz sl o) : hp_V G M pc lv (.int x :: st) h sz sl o :=
  fun p e R s m args below meth c H locs cells slots ls C hH hz hl hS hc hs => lv_if_lt C.1 C.2.1 hd ht (fun q => kt q p e R s m args below meth c H locs cells slots ls C hH hz hl hS hc hs) (fun q => kf q p e R s m args below meth c H locs cells slots ls C hH hz hl hS hc hs)
theorem hv_if_ge {x : Int32} {off : Int} {tgt : Nat} (hd : decode M.2.1 pc = .ok (.ifCond .ge off, 3)) (ht : (pc : Int) + off = (tgt : Int)) (kt : 0 ≤ x → hp_V G M tgt lv st h sz sl o) (kf : ¬ 0 ≤ x → hp_V G M (pc + 3) lv st h sz sl o) : hp_V G M pc lv (.int x :: st) h sz sl o :=
  fun p e R s m args below meth c H locs cells slots ls C hH hz hl hS hc hs => lv_if_ge C.1 C.2.1 hd ht (fun q => kt q p e R s m args below meth c H locs cells slots ls C hH hz hl hS hc hs) (fun q => kf q p e R s m args below meth c H locs cells slots ls C hH hz hl hS hc hs)
theorem hv_if_gt {x : Int32} {off : Int} {tgt : Nat} (hd : decode M.2.1 pc = .ok (.ifCond .gt off, 3)) (ht : (pc : Int) + off = (tgt : Int)) (kt : 0 < x → hp_V G M tgt lv st h sz sl o) (kf : ¬ 0 < x → hp_V G M (pc + 3) lv st h sz sl o) : hp_V G M pc lv (.int x :: st) h sz sl o :=
  fun p e R s m args below meth c H locs cells slots ls C hH hz hl hS hc hs => lv_if_gt C.1 C.2.1 hd ht (fun q => kt q p e R s m args below meth c H locs cells slots ls C hH hz hl hS hc hs) (fun q => kf q p e R s m args below meth c H locs cells slots ls C hH hz hl hS hc hs)
theorem hv_if_le {x : Int32} {off : Int} {tgt : Nat} (hd : decode M.2.1 pc = .ok (.ifCond .le off, 3)) (ht : (pc : Int) + off = (tgt : Int)) (kt : x ≤ 0 → hp_V G M tgt lv st h sz sl o) (kf : ¬ x ≤ 0 → hp_V G M (pc + 3) lv st h sz sl o) : hp_V G M pc lv (.int x :: st) h sz sl o :=
  fun p e R s m args below meth c H locs cells slots ls C hH hz hl hS hc hs => lv_if_le C.1 C.2.1 hd ht (fun q => kt q p e R s m args below meth c H locs cells slots ls C hH hz hl hS hc hs) (fun q => kf q p e R s m args below meth c H locs cells slots ls C hH hz hl hS hc hs)
theorem hv_icmp_eq {x y : Int32} {off : Int} {tgt : Nat} (hd : decode M.2.1 pc = .ok (.if_icmp .eq off, 3)) (ht : (pc : Int) + off = (tgt : Int)) (kt : x = y → hp_V G M tgt lv st h sz sl o) (kf : ¬ x = y → hp_V G M (pc + 3) lv st h sz sl o) : hp_V G M pc lv (.int y :: .int x :: st) h sz sl o :=
  fun p e R s m args below meth c H locs cells slots ls C hH hz hl hS hc hs => lv_icmp_eq C.1 C.2.1 hd ht (fun q => kt q p e R s m args below meth c H locs cells slots ls C hH hz hl hS hc hs) (fun q => kf q p e R s m args below meth c H locs cells slots ls C hH hz hl hS hc hs)
theorem hv_icmp_ne {x y : Int32} {off : Int} {tgt : Nat} (hd : decode M.2.1 pc = .ok (.if_icmp .ne off, 3)) (ht : (pc : Int) + off = (tgt : Int)) (kt : ¬ x = y → hp_V G M tgt lv st h sz sl o) (kf : x = y → hp_V G M (pc + 3) lv st h sz sl o) : hp_V G M pc lv (.int y :: .int x :: st) h sz sl o :=
  fun p e R s m args below meth c H locs cells slots ls C hH hz hl hS hc hs => lv_icmp_ne C.1 C.2.1 hd ht (fun q => kt q p e R s m args below meth c H locs cells slots ls C hH hz hl hS hc hs) (fun q => kf q p e R s m args below meth c H locs cells slots ls C hH hz hl hS hc hs)
theorem hv_icmp_lt {x y : Int32} {off : Int} {tgt : Nat} (hd : decode M.2.1 pc = .ok (.if_icmp .lt off, 3)) (ht : (pc : Int) + off = (tgt : Int)) (kt : x < y → hp_V G M tgt lv st h sz sl o) (kf : ¬ x < y → hp_V G M (pc + 3) lv st h sz sl o) : hp_V G M pc lv (.int y :: .int x :: st) h sz sl o :=
  fun p e R s m args below meth c H locs cells slots ls C hH hz hl hS hc hs => lv_icmp_lt C.1 C.2.1 hd ht (fun q => kt q p e R s m args below meth c H locs cells slots ls C hH hz hl hS hc hs) (fun q => kf q p e R s m args below meth c H locs cells slots ls C hH hz hl hS hc hs)
theorem hv_icmp_ge {x y : Int32} {off : Int} {tgt : Nat} (hd : decode M.2.1 pc = .ok (.if_icmp .ge off, 3)) (ht : (pc : Int) + off = (tgt : Int)) (kt : y ≤ x → hp_V G M tgt lv st h sz sl o) (kf : ¬ y ≤ x → hp_V G M (pc + 3) lv st h sz sl o) : hp_V G M pc lv (.int y :: .int x :: st) h sz sl o :=
  fun p e R s m args below meth c H locs cells slots ls C hH hz hl hS hc hs => lv_icmp_ge C.1 C.2.1 hd ht (fun q => kt q p e R s m args below meth c H locs cells slots ls C hH hz hl hS hc hs) (fun q => kf q p e R s m args below meth c H locs cells slots ls C hH hz hl hS hc hs)
theorem hv_icmp_gt {x y : Int32} {off : Int} {tgt : Nat} (hd : decode M.2.1 pc = .ok (.if_icmp .gt off, 3)) (ht : (pc : Int) + off = (tgt : Int)) (kt : y < x → hp_V G M tgt lv st h sz sl o) (kf : ¬ y < x → hp_V G M (pc + 3) lv st h sz sl o) : hp_V G M pc lv (.int y :: .int x :: st) h sz sl o :=
  fun p e R s m args below meth c H locs cells slots ls C hH hz hl hS hc hs => lv_icmp_gt C.1 C.2.1 hd ht (fun q => kt q p e R s m args below meth c H locs cells slots ls C hH hz hl hS hc hs) (fun q => kf q p e R s m args below meth c H locs cells slots ls C hH hz hl hS hc hs)
theorem hv_icmp_le {x y : Int32} {off : Int} {tgt : Nat} (hd : decode M.2.1 pc = .ok (.if_icmp .le off, 3)) (ht : (pc : Int) + off = (tgt : Int)) (kt : x ≤ y → hp_V G M tgt lv st h sz sl o) (kf : ¬ x ≤ y → hp_V G M (pc + 3) lv st h sz sl o) : hp_V G M pc lv (.int y :: .int x :: st) h sz sl o :=
  fun p e R s m args below meth c H locs cells slots ls C hH hz hl hS hc hs => lv_icmp_le C.1 C.2.1 hd ht (fun q => kt q p e R s m args below meth c H locs cells slots ls C hH hz hl hS hc hs) (fun q => kf q p e R s m args below meth c H locs cells slots ls C hH hz hl hS hc hs)
theorem hv_goto {off : Int} {tgt : Nat} (hd : decode M.2.1 pc = .ok (.goto off, 3)) (ht : (pc : Int) + off = (tgt : Int)) (k : hp_V G M tgt lv st h sz sl o) : hp_V G M pc lv st h sz sl o :=
  fun p e R s m args below meth c H locs cells slots ls C hH hz hl hS hc hs => lv_goto C.1 C.2.1 hd ht (k p e R s m args below meth c H locs cells slots ls C hH hz hl hS hc hs)
theorem hv_lookup {dflt : Int} {ps : Array (Int × Int)} {len : Nat} {x : Int32} {off : Int} {tgt : Nat} (hd : decode M.2.1 pc = .ok (.lookupswitch dflt ps, len)) (hp : (ps.toList.zip (ps.toList.drop 1)).all (fun (a, next) => a.1 < next.1) = true) (ho : Op.lookupswitch.offset ps.toList dflt x.toInt = off) (ht : (pc : Int) + off = (tgt : Int)) (k : hp_V G M tgt lv st h sz sl o) : hp_V G M pc lv (.int x :: st) h sz sl o :=
  fun p e R s m args below meth c H locs cells slots ls C hH hz hl hS hc hs => lv_lookup C.1 C.2.1 hd hp ho ht (k p e R s m args below meth c H locs cells slots ls C hH hz hl hS hc hs)
theorem hv_tabOut {dflt lo hi : Int} {offs : Array Int} {len : Nat} {x : Int32} {tgt : Nat} (hd : decode M.2.1 pc = .ok (.tableswitch dflt lo hi offs, len)) (hb : x.toInt < lo ∨ hi < x.toInt) (ht : (pc : Int) + dflt = (tgt : Int)) (k : hp_V G M tgt lv st h sz sl o) : hp_V G M pc lv (.int x :: st) h sz sl o :=
  fun p e R s m args below meth c H locs cells slots ls C hH hz hl hS hc hs => lv_tableOut C.1 C.2.1 hd hb ht (k p e R s m args below meth c H locs cells slots ls C hH hz hl hS hc hs)
theorem hv_tabIn {dflt lo hi : Int} {offs : Array Int} {len : Nat} {x : Int32} {off : Int} {tgt : Nat} (hd : decode M.2.1 pc = .ok (.tableswitch dflt lo hi offs, len)) (h1 : ¬ x.toInt < lo) (h2 : ¬ hi < x.toInt) (ho : offs[(x.toInt - lo).toNat]? = some off) (ht : (pc : Int) + off = (tgt : Int)) (k : hp_V G M tgt lv st h sz sl o) : hp_V G M pc lv (.int x :: st) h sz sl o :=
  fun p e R s m args below meth c H locs cells slots ls C hH hz hl hS hc hs => lv_tableIn C.1 C.2.1 hd h1 h2 ho ht (k p e R s m args below meth c H locs cells slots ls C hH hz hl hS hc hs)
end HPV
end
section
/-! What a method reads and writes in a heap that is a function -/
def hp_w (h : hp_H) (a : Nat) (e : hp_E) : hp_H := fun q => if q = a then some e else h q
def hp_f (h : hp_H) (ci a k : Nat) : Option Value := match h a with
  | some (.inr (.inr (c, V))) => if c = ci then some (V k) else none
  | _ => none
def hp_fI (h : hp_H) (ci a k : Nat) : Option Int32 := match hp_f h ci a k with
  | some (.int x) => some x
  | _ => none
def hp_fR (h : hp_H) (ci a k : Nat) : Option Nat := match hp_f h ci a k with
  | some (.ref x) => some x
  | _ => none
def hp_in (i : Int32) (n : Nat) : Prop := 0 ≤ i.toInt ∧ i.toInt < (n : Int)
theorem hp_in_def (i : Int32) (n : Nat) : hp_in i n ↔ (0 ≤ i.toInt ∧ i.toInt < (n : Int)) := Iff.rfl
def hp_aI (h : hp_H) (t a : Nat) (i : Int32) : Option Int32 := match h a with
  | some (.inl (t2, n, f)) => if t2 = t ∧ (0 ≤ i.toInt ∧ i.toInt < (n : Int)) then some (f i.toNatClampNeg) else none
  | _ => none
def hp_aJ (h : hp_H) (a : Nat) (i : Int32) : Option Int64 := match h a with
  | some (.inr (.inl (n, f))) => if 0 ≤ i.toInt ∧ i.toInt < (n : Int) then some (f i.toNatClampNeg) else none
  | _ => none
def hp_len (h : hp_H) (a : Nat) : Option Int32 := match h a with
  | some (.inl (_, n, _)) => some (Int32.ofNat n)
  | some (.inr (.inl (n, _))) => some (Int32.ofNat n)
  | _ => none
def hp_pF (h : hp_H) (ci a k : Nat) (v : Value) : Option hp_H := match h a with
  | some (.inr (.inr (c, V))) => if c = ci then some (hp_w h a (.inr (.inr (c, updV V k v)))) else none
  | _ => none
def hp_nar (t : Nat) (x : Int32) : Int32 := match t with
  | 0 => x
  | 1 => vp_nar .byte x
  | _ => vp_nar .boolean x
def hp_sI (h : hp_H) (t a : Nat) (i x : Int32) : Option hp_H := match h a with
  | some (.inl (t2, n, f)) => if t2 = t ∧ (0 ≤ i.toInt ∧ i.toInt < (n : Int)) then some (hp_w h a (.inl (t2, n, upd f i.toNatClampNeg (hp_nar t x)))) else none
  | _ => none
def hp_sJ (h : hp_H) (a : Nat) (i : Int32) (x : Int64) : Option hp_H := match h a with
  | some (.inr (.inl (n, f))) => if 0 ≤ i.toInt ∧ i.toInt < (n : Int) then some (hp_w h a (.inr (.inl (n, vp_updL f i.toNatClampNeg x)))) else none
  | _ => none
theorem hp_f_spec {h : hp_H} {ci a k : Nat} {v : Value} (e : hp_f h ci a k = some v) : ∃ V, h a = some (.inr (.inr (ci, V))) ∧ V k = v := by
  unfold hp_f at e
  split at e
  · rename_i c V he
    split at e
    · rename_i hc
      subst hc
      exact ⟨V, he, Option.some.inj e⟩
    · cases e
  · cases e
theorem hp_fI_spec {h : hp_H} {ci a k : Nat} {v : Int32} (e : hp_fI h ci a k = some v) : hp_f h ci a k = some (.int v) := by
  unfold hp_fI at e
  split at e
  · rename_i x he
    rw [he, Option.some.inj e]
  · cases e
theorem hp_fR_spec {h : hp_H} {ci a k : Nat} {v : Nat} (e : hp_fR h ci a k = some v) : hp_f h ci a k = some (.ref v) := by
  unfold hp_fR at e
  split at e
  · rename_i x he
    rw [he, Option.some.inj e]
  · cases e
theorem hp_aI_spec {h : hp_H} {t a : Nat} {i v : Int32} (e : hp_aI h t a i = some v) : ∃ n f, h a = some (.inl (t, n, f)) ∧ vp_in i n ∧ f i.toNatClampNeg = v := by
  unfold hp_aI at e
  split at e
  · rename_i t2 n f he
    split at e
    · rename_i hc
      obtain ⟨rfl, hc⟩ := hc
      exact ⟨n, f, he, vp_in_iff.mpr hc, Option.some.inj e⟩
    · cases e
  · cases e
theorem hp_aJ_spec {h : hp_H} {a : Nat} {i : Int32} {v : Int64} (e : hp_aJ h a i = some v) : ∃ n f, h a = some (.inr (.inl (n, f))) ∧ vp_in i n ∧ f i.toNatClampNeg = v := by
  unfold hp_aJ at e
  split at e
  · rename_i n f he
    split at e
    · rename_i hc
      exact ⟨n, f, he, vp_in_iff.mpr hc, Option.some.inj e⟩
    · cases e
  · cases e
theorem hp_pF_spec {h h2 : hp_H} {ci a k : Nat} {v : Value} (e : hp_pF h ci a k v = some h2) : ∃ V, h a = some (.inr (.inr (ci, V))) ∧ h2 = hp_w h a (.inr (.inr (ci, updV V k v))) := by
  unfold hp_pF at e
  split at e
  · rename_i c V he
    split at e
    · rename_i hc
      subst hc
      exact ⟨V, he, (Option.some.inj e).symm⟩
    · cases e
  · cases e
theorem hp_sI_spec {h h2 : hp_H} {t a : Nat} {i x : Int32} (e : hp_sI h t a i x = some h2) : ∃ n f, h a = some (.inl (t, n, f)) ∧ vp_in i n ∧ h2 = hp_w h a (.inl (t, n, upd f i.toNatClampNeg (hp_nar t x))) := by
  unfold hp_sI at e
  split at e
  · rename_i t2 n f he
    split at e
    · rename_i hc
      obtain ⟨rfl, hc⟩ := hc
      exact ⟨n, f, he, vp_in_iff.mpr hc, (Option.some.inj e).symm⟩
    · cases e
  · cases e
theorem hp_sJ_spec {h h2 : hp_H} {a : Nat} {i : Int32} {x : Int64} (e : hp_sJ h a i x = some h2) : ∃ n f, h a = some (.inr (.inl (n, f))) ∧ vp_in i n ∧ h2 = hp_w h a (.inr (.inl (n, vp_updL f i.toNatClampNeg x))) := by
  unfold hp_sJ at e
  split at e
  · rename_i n f he
    split at e
    · rename_i hc
      exact ⟨n, f, he, vp_in_iff.mpr hc, (Option.some.inj e).symm⟩
    · cases e
  · cases e
theorem hp_at.kept {G : hp_G} {e : hp_E} {a : Nat} {H H1 : Heap} (h : hp_at G e a H) (hq : H1[a]? = H[a]?) : hp_at G e a H1 := by
  obtain ⟨t, n, f⟩ | ⟨n, f⟩ | ⟨ci, V⟩ := e
  · exact ⟨h.1, hq.trans h.2⟩
  · exact hq.trans h
  · obtain ⟨r, h1, h2⟩ := h
    exact ⟨r, h1, h2.kept hq⟩
theorem hp_at.lt {G : hp_G} {e : hp_E} {a : Nat} {H : Heap} (h : hp_at G e a H) : a < H.size := by
  obtain ⟨t, n, f⟩ | ⟨n, f⟩ | ⟨ci, V⟩ := e
  · exact (Array.getElem?_eq_some_iff.mp h.2).1
  · exact (Array.getElem?_eq_some_iff.mp h).1
  · obtain ⟨r, h1, cell, h2, -⟩ := h
    exact (Array.getElem?_eq_some_iff.mp h2).1
/-- one cell is written, the others stay -/
theorem hp_ok.put {G : hp_G} {h : hp_H} {H H1 : Heap} {a : Nat} {e : hp_E} (hH : hp_ok G h H) (hb : G.2.1 ≤ a) (he : hp_at G e a H1) (hq : ∀ q : Nat, q ≠ a → H1[q]? = H[q]?) : hp_ok G (hp_w h a e) H1 := by
  intro q e2 h2
  unfold hp_w at h2
  split at h2
  · rename_i hqa
    subst hqa
    cases h2
    exact ⟨hb, he⟩
  · rename_i hqa
    obtain ⟨h3, h4⟩ := hH q e2 h2
    exact ⟨h3, h4.kept (hq q hqa)⟩
/-- a cell comes -/
theorem hp_ok.push {G : hp_G} {h : hp_H} {H H1 : Heap} {e : hp_E} (hH : hp_ok G h H) (hb : G.2.1 ≤ H.size) (he : hp_at G e H.size H1) (hq : ∀ q : Nat, q < H.size → H1[q]? = H[q]?) : hp_ok G (hp_w h H.size e) H1 := by
  intro q e2 h2
  unfold hp_w at h2
  split at h2
  · rename_i hqa
    subst hqa
    cases h2
    exact ⟨hb, he⟩
  · obtain ⟨h3, h4⟩ := hH q e2 h2
    exact ⟨h3, h4.kept (hq q h4.lt)⟩
/-- a class of the list, with its words -/
def hp_CL (ci : Nat) (C : String) (T : u_T) (N : Nat) (ty : Nat → FieldType) : Prop :=
  hp_cl[ci]? = some (C, T, N) ∧ (∀ w ∈ u_ws C T N, w ∈ lw_g) ∧ (∀ k, k < N → parseFieldDescriptor (T k).2.2.1 = some (ty k)) ∧ (∀ a, a < N → ∀ b, b < N → a ≠ b → (T a).2.1 ≠ (T b).2.1)
/-- a field's link: the pool's place in the class own is field k of class ci, of type ty, final or not -/
def hp_FL (own : String) (index ci k : Nat) (fin : Bool) (ty : FieldType) : Prop :=
  ∃ (C : String) (T : u_T) (N : Nat) (ty0 : Nat → FieldType), hp_CL ci C T N ty0 ∧ k < N ∧ ty0 k = ty ∧ (T k).2.2.2 = fin ∧ (T k).1 = C ∧ Cond.fieldLink own index C (T k).2.1 (T k).2.2.1 ∈ lw_g
section HPR
variable {G : hp_G} {M : hp_M} {pc : Nat} {lv : List (Nat × Value)} {st : List Value} {h h2 : hp_H} {sz sl : Nat} {o : hp_O}
theorem hv_get {index ci a k : Nat} {fin : Bool} {ty : FieldType} {v : Value} (hF : hp_FL M.1 index ci k fin ty) (hd : decode M.2.1 pc = .ok (.getfield index, 3)) (hv : hp_f h ci a k = some v) (kk : hp_V G M (pc + 3) lv (v :: st) h sz sl o) : hp_V G M pc lv (.ref a :: st) h sz sl o := by
  intro p e R s m args below meth c H locs cells slots ls C hH hz hl hS hc hs
  obtain ⟨V, ha, hV⟩ := hp_f_spec hv
  obtain ⟨Cn, T, N, ty0, ⟨g1, g2, g3, g4⟩, g5, g6, g7, g8, g9⟩ := hF
  obtain ⟨hbase, r, h1, cell, q1, q2, q3, q4⟩ := hH a _ ha
  have hr : r = (Cn, T, N) := Option.some.inj (h1.symm.trans g1)
  subst hr
  have hts := C.2.2.2.2.2.1
  obtain ⟨hSl, hfc, kC, hkC, hkind⟩ := C.2.2.2.2.2.2.2.2.1.1 ci _ g1
  obtain ⟨cf, kf, fi, f, hi, hsl⟩ := hSl k g5
  rw [g8] at hi
  refine W.getf C.1 C.2.1 C.2.2.2.2.1 (hts _ g9) hi (u_facts hfc hkC (by have := u_lays hts g2 g5; rw [g8] at this; exact this) hi).1 q1 (by rw [q3]; exact fun h => by cases h) (v := v) ?_ rfl rfl hd (kk p e R s m args below meth c H locs cells slots ls C hH hz hl hS hc hs)
  rw [hsl, q4 k g5, hV]
theorem hv_put {index ci a k : Nat} {ty : FieldType} {v : Value} (hF : hp_FL M.1 index ci k false ty) (hd : decode M.2.1 pc = .ok (.putfield index, 3)) (hn : narrow ty v = v) (hfit : fits ty v = true) (hw : hp_pF h ci a k v = some h2) (kk : hp_V G M (pc + 3) lv st h2 sz sl o) : hp_V G M pc lv (v :: .ref a :: st) h sz sl o := by
  intro p e R s m args below meth c H locs cells slots ls C hH hz hl hS hc hs
  obtain ⟨V, ha, rfl⟩ := hp_pF_spec hw
  obtain ⟨Cn, T, N, ty0, ⟨g1, g2, g3, g4⟩, g5, g6, g7, g8, g9⟩ := hF
  subst g6
  obtain ⟨hbase, r, h1, cell, q1, q2, q3, q4⟩ := hH a _ ha
  have hr : r = (Cn, T, N) := Option.some.inj (h1.symm.trans g1)
  subst hr
  have hts := C.2.2.2.2.2.1
  have hK := C.2.2.2.2.2.2.2.2.1
  have hap := va_apart (own := M.1) hts g2 ty0 g3 g4 hK g1
  obtain ⟨hSl, hfc, kC, hkC, hkind⟩ := hK.1 ci _ g1
  obtain ⟨cf, kf, fi, f, hi, hsl⟩ := hSl k g5
  have hlay := hts _ (g2 _ (u_in_lay g5))
  unfold u_lay at hlay
  rw [if_neg (by rw [g7]; decide)] at hlay
  have hst := (u_facts hfc hkC (u_lays hts g2 g5) hi).1
  have h6 := u_store hfc hkC hkind hlay hi (g3 k g5) hn hfit
  rw [g8] at hi
  refine W.putK C.1 C.2.1 (f := f) ⟨C.2.2.2.2.1, hts _ g9, ⟨_, _, _, hi⟩, hst⟩ (by rw [q2]; exact h6) q1 q3 (by rw [hsl]; exact k2_hasslot (q4 k g5)) rfl rfl hd fun H' e1 e2 e3 => ?_
  rw [hsl] at e1 ⊢
  exact kk p e R s m args below meth c H' _ cells slots ls C (hH.put hbase ⟨_, g1, _, e1, q2, q3, t_set q4 hap g5 v⟩ e3) (e2.trans hz) hl (hS.put e2 e3 hbase) hc hs
theorem hv_putF {index ci a k : Nat} {ty : FieldType} {v : Value} (hF : hp_FL M.1 index ci k true ty) (hown : ∀ C T N, hp_cl[ci]? = some (C, T, N) → C = M.1) (hi : M.2.2.2.2.2.2 = "<init>") (hd : decode M.2.1 pc = .ok (.putfield index, 3)) (hn : narrow ty v = v) (hfit : fits ty v = true) (hw : hp_pF h ci a k v = some h2) (kk : hp_V G M (pc + 3) lv st h2 sz sl o) : hp_V G M pc lv (v :: .ref a :: st) h sz sl o := by
  intro p e R s m args below meth c H locs cells slots ls C hH hz hl hS hc hs
  obtain ⟨V, ha, rfl⟩ := hp_pF_spec hw
  obtain ⟨Cn, T, N, ty0, ⟨g1, g2, g3, g4⟩, g5, g6, g7, g8, g9⟩ := hF
  subst g6
  obtain ⟨hbase, r, h1, cell, q1, q2, q3, q4⟩ := hH a _ ha
  have hr : r = (Cn, T, N) := Option.some.inj (h1.symm.trans g1)
  subst hr
  have hts := C.2.2.2.2.2.1
  have hK := C.2.2.2.2.2.2.2.2.1
  have hap := va_apart (own := M.1) hts g2 ty0 g3 g4 hK g1
  obtain ⟨hSl, hfc, kC, hkC, hkind⟩ := hK.1 ci _ g1
  obtain ⟨cf, kf, fi, f, hif, hsl⟩ := hSl k g5
  have hlay := hts _ (g2 _ (u_in_lay g5))
  unfold u_lay at hlay
  rw [if_pos g7] at hlay
  have hst := (u_facts hfc hkC (u_lays hts g2 g5) hif).1
  have hcf : m.cls = cf := by
    obtain ⟨_, _, c', _, _, _, -, -, hf', -, -, -, hown2, -⟩ := Cond.laysFinal_spec hlay
    have e1 : c' = cf := by have := hif.symm.trans hf'; simp at this; exact this.1.symm
    rw [g8, hown _ _ _ g1] at hown2
    rw [← e1]; exact Option.some.inj (C.2.2.2.2.1.symm.trans hown2)
  have h6 := u_fits hfc hkC hkind (Or.inr hlay) hif (g3 k g5) hn hfit
  rw [g8] at hif
  refine W.putFinK C.1 C.2.1 C.2.2.2.2.1 (hts _ g9) hif hst hcf (C.2.2.2.2.2.2.2.1.trans hi) (by rw [q2]; exact h6) q1 q3 (by rw [hsl]; exact k2_hasslot (q4 k g5)) rfl rfl hd fun H' e1 e2 e3 => ?_
  rw [hsl] at e1 ⊢
  exact kk p e R s m args below meth c H' _ cells slots ls C (hH.put hbase ⟨_, g1, _, e1, q2, q3, t_set q4 hap g5 v⟩ e3) (e2.trans hz) hl (hS.put e2 e3 hbase) hc hs
theorem hv_iald {a : Nat} {i v : Int32} (hd : decode M.2.1 pc = .ok (.iaload, 1)) (hv : hp_aI h 0 a i = some v) (kk : hp_V G M (pc + 1) lv (.int v :: st) h sz sl o) : hp_V G M pc lv (.int i :: .ref a :: st) h sz sl o := by
  intro p e R s m args below meth c H locs cells slots ls C hH hz hl hS hc hs
  obtain ⟨n, f, ha, hin, rfl⟩ := hp_aI_spec hv
  obtain ⟨hbase, -, h1⟩ := hH a _ ha
  have hlt : i.toNatClampNeg < n := Nat.not_le.mp fun q => hin (Or.inr q)
  exact W.iald (v := .int (f i.toNatClampNeg)) C.1 C.2.1 h1 ((C.2.2.2.2.2.2.2.2.1.2 0 _ rfl).1 n (fun j => .int (f j))) (fun q => by cases q) (by rw [arrV_size]; exact hin) (by rw [arrV_read _ _ hlt]) rfl rfl hd (kk p e R s m args below meth c H locs cells slots ls C hH hz hl hS hc hs)
theorem hv_bald {a : Nat} {i v : Int32} (hd : decode M.2.1 pc = .ok (.baload, 1)) (hv : hp_aI h 1 a i = some v) (kk : hp_V G M (pc + 1) lv (.int v :: st) h sz sl o) : hp_V G M pc lv (.int i :: .ref a :: st) h sz sl o := by
  intro p e R s m args below meth c H locs cells slots ls C hH hz hl hS hc hs
  obtain ⟨n, f, ha, hin, rfl⟩ := hp_aI_spec hv
  obtain ⟨hbase, -, h1⟩ := hH a _ ha
  have hlt : i.toNatClampNeg < n := Nat.not_le.mp fun q => hin (Or.inr q)
  exact W.bald (v := .int (f i.toNatClampNeg)) C.1 C.2.1 h1 ((C.2.2.2.2.2.2.2.2.1.2 1 _ rfl).1 n (fun j => .int (f j))) (fun q => by cases q) (by rw [arrV_size]; exact hin) (by rw [arrV_read _ _ hlt]) rfl rfl hd (kk p e R s m args below meth c H locs cells slots ls C hH hz hl hS hc hs)
theorem hv_zald {a : Nat} {i v : Int32} (hd : decode M.2.1 pc = .ok (.baload, 1)) (hv : hp_aI h 2 a i = some v) (kk : hp_V G M (pc + 1) lv (.int v :: st) h sz sl o) : hp_V G M pc lv (.int i :: .ref a :: st) h sz sl o := by
  intro p e R s m args below meth c H locs cells slots ls C hH hz hl hS hc hs
  obtain ⟨n, f, ha, hin, rfl⟩ := hp_aI_spec hv
  obtain ⟨hbase, -, h1⟩ := hH a _ ha
  have hlt : i.toNatClampNeg < n := Nat.not_le.mp fun q => hin (Or.inr q)
  exact W.zald (v := .int (f i.toNatClampNeg)) C.1 C.2.1 h1 ((C.2.2.2.2.2.2.2.2.1.2 2 _ rfl).1 n (fun j => .int (f j))) (fun q => by cases q) (by rw [arrV_size]; exact hin) (by rw [arrV_read _ _ hlt]) rfl rfl hd (kk p e R s m args below meth c H locs cells slots ls C hH hz hl hS hc hs)
theorem hv_lald {a : Nat} {i : Int32} {v : Int64} (hd : decode M.2.1 pc = .ok (.laload, 1)) (hv : hp_aJ h a i = some v) (kk : hp_V G M (pc + 1) lv (.long v :: st) h sz sl o) : hp_V G M pc lv (.int i :: .ref a :: st) h sz sl o := by
  intro p e R s m args below meth c H locs cells slots ls C hH hz hl hS hc hs
  obtain ⟨n, f, ha, hin, rfl⟩ := hp_aJ_spec hv
  obtain ⟨hbase, h1⟩ := hH a _ ha
  have hlt : i.toNatClampNeg < n := Nat.not_le.mp fun q => hin (Or.inr q)
  exact W.lald (v := .long (f i.toNatClampNeg)) C.1 C.2.1 h1 ((C.2.2.2.2.2.2.2.2.1.2 3 _ rfl).1 n (fun j => .long (f j))) (fun q => by cases q) (by rw [arrV_size]; exact hin) (by rw [arrV_read _ _ hlt]) rfl rfl hd (kk p e R s m args below meth c H locs cells slots ls C hH hz hl hS hc hs)
theorem hp_arrI {cA : ClassId} {n : Nat} {f : Nat → Int32} {k : Nat} {x : Int32} : (arrV cA n (fun j => .int (f j))).setSlot k (.int x) = arrV cA n (fun j => .int (upd f k x j)) := by
  rw [arrV_store]
  congr 1
  funext q
  by_cases hq : q = k
  · subst hq; simp [updV, upd]
  · simp [updV, upd, hq]
theorem hp_arrJ {cA : ClassId} {n : Nat} {f : Nat → Int64} {k : Nat} {x : Int64} : (arrV cA n (fun j => .long (f j))).setSlot k (.long x) = arrV cA n (fun j => .long (vp_updL f k x j)) := by
  rw [arrV_store]
  congr 1
  funext q
  by_cases hq : q = k
  · subst hq; simp [updV, vp_updL]
  · simp [updV, vp_updL, hq]
theorem hv_iast {a : Nat} {i x : Int32} (hd : decode M.2.1 pc = .ok (.iastore, 1)) (hw : hp_sI h 0 a i x = some h2) (kk : hp_V G M (pc + 1) lv st h2 sz sl o) : hp_V G M pc lv (.int x :: .int i :: .ref a :: st) h sz sl o := by
  intro p e R s m args below meth c H locs cells slots ls C hH hz hl hS hc hs
  obtain ⟨n, f, ha, hin, rfl⟩ := hp_sI_spec hw
  obtain ⟨hbase, h0, h1⟩ := hH a _ ha
  refine W.iast C.1 C.2.1 h1 ((C.2.2.2.2.2.2.2.2.1.2 0 _ rfl).1 n (fun j => .int (f j))) (fun q => by cases q) (by rw [arrV_size]; exact hin) rfl rfl hd fun H1 e1 z oq => ?_
  exact kk p e R s m args below meth c H1 _ cells slots ls C (hH.put hbase ⟨h0, by rw [e1]; exact congrArg some hp_arrI⟩ oq) (z.trans hz) hl (hS.put z oq hbase) hc hs
theorem hv_bast {a : Nat} {i x : Int32} (hd : decode M.2.1 pc = .ok (.bastore, 1)) (hw : hp_sI h 1 a i x = some h2) (kk : hp_V G M (pc + 1) lv st h2 sz sl o) : hp_V G M pc lv (.int x :: .int i :: .ref a :: st) h sz sl o := by
  intro p e R s m args below meth c H locs cells slots ls C hH hz hl hS hc hs
  obtain ⟨n, f, ha, hin, rfl⟩ := hp_sI_spec hw
  obtain ⟨hbase, h0, h1⟩ := hH a _ ha
  refine W.bast C.1 C.2.1 h1 ((C.2.2.2.2.2.2.2.2.1.2 1 _ rfl).1 n (fun j => .int (f j))) (fun q => by cases q) (by rw [arrV_size]; exact hin) rfl rfl hd fun H1 e1 z oq => ?_
  exact kk p e R s m args below meth c H1 _ cells slots ls C (hH.put hbase ⟨h0, by rw [e1]; exact congrArg some hp_arrI⟩ oq) (z.trans hz) hl (hS.put z oq hbase) hc hs
theorem hv_zast {a : Nat} {i x : Int32} (hd : decode M.2.1 pc = .ok (.bastore, 1)) (hw : hp_sI h 2 a i x = some h2) (kk : hp_V G M (pc + 1) lv st h2 sz sl o) : hp_V G M pc lv (.int x :: .int i :: .ref a :: st) h sz sl o := by
  intro p e R s m args below meth c H locs cells slots ls C hH hz hl hS hc hs
  obtain ⟨n, f, ha, hin, rfl⟩ := hp_sI_spec hw
  obtain ⟨hbase, h0, h1⟩ := hH a _ ha
  refine W.zast C.1 C.2.1 h1 ((C.2.2.2.2.2.2.2.2.1.2 2 _ rfl).1 n (fun j => .int (f j))) (fun q => by cases q) (by rw [arrV_size]; exact hin) rfl rfl hd fun H1 e1 z oq => ?_
  exact kk p e R s m args below meth c H1 _ cells slots ls C (hH.put hbase ⟨h0, by rw [e1]; exact congrArg some hp_arrI⟩ oq) (z.trans hz) hl (hS.put z oq hbase) hc hs
theorem hv_last {a : Nat} {i : Int32} {x : Int64} (hd : decode M.2.1 pc = .ok (.lastore, 1)) (hw : hp_sJ h a i x = some h2) (kk : hp_V G M (pc + 1) lv st h2 sz sl o) : hp_V G M pc lv (.long x :: .int i :: .ref a :: st) h sz sl o := by
  intro p e R s m args below meth c H locs cells slots ls C hH hz hl hS hc hs
  obtain ⟨n, f, ha, hin, rfl⟩ := hp_sJ_spec hw
  obtain ⟨hbase, h1⟩ := hH a _ ha
  refine W.last C.1 C.2.1 h1 ((C.2.2.2.2.2.2.2.2.1.2 3 _ rfl).1 n (fun j => .long (f j))) (fun q => by cases q) (by rw [arrV_size]; exact hin) rfl rfl hd fun H1 e1 z oq => ?_
  exact kk p e R s m args below meth c H1 _ cells slots ls C (hH.put hbase (by show H1[a]? = _; rw [e1]; exact congrArg some hp_arrJ) oq) (z.trans hz) hl (hS.put z oq hbase) hc hs
theorem hv_alen {a : Nat} {v : Int32} (hd : decode M.2.1 pc = .ok (.arraylength, 1)) (hv : hp_len h a = some v) (kk : hp_V G M (pc + 1) lv (.int v :: st) h sz sl o) : hp_V G M pc lv (.ref a :: st) h sz sl o := by
  intro p e R s m args below meth c H locs cells slots ls C hH hz hl hS hc hs
  have hK := C.2.2.2.2.2.2.2.2.1
  unfold hp_len at hv
  split at hv
  · rename_i t n f ha
    obtain ⟨hbase, h0, h1⟩ := hH a _ ha
    have hA : ∃ ty, ArrOfT s (G.2.2.2 t) ty := by
      rcases (show t = 0 ∨ t = 1 ∨ t = 2 by omega) with rfl | rfl | rfl
      · exact ⟨_, (hK.2 0 _ rfl).1⟩
      · exact ⟨_, (hK.2 1 _ rfl).1⟩
      · exact ⟨_, (hK.2 2 _ rfl).1⟩
    obtain ⟨ty, hA⟩ := hA
    exact W.alen (n := v) C.1 C.2.1 h1 (hA n (fun j => .int (f j))) (by rw [arrV_size]; exact Option.some.inj hv) rfl rfl hd (kk p e R s m args below meth c H locs cells slots ls C hH hz hl hS hc hs)
  · rename_i n f ha
    obtain ⟨hbase, h1⟩ := hH a _ ha
    exact W.alen (n := v) C.1 C.2.1 h1 ((hK.2 3 _ rfl).1 n (fun j => .long (f j))) (by rw [arrV_size]; exact Option.some.inj hv) rfl rfl hd (kk p e R s m args below meth c H locs cells slots ls C hH hz hl hS hc hs)
  · cases hv
end HPR
end
section
/-! Making, ending, calling -/
theorem hp_wordsOk : lw_g.all goodWord = true := List.all_eq_true.mpr fun _ h => (List.mem_filter.mp h).2
theorem hp_good {y : MethodName} {b : ByteArray} {n : Nat} {r : Option FieldType} (hc : Cond.code y b n r ∈ lw_g) : GoodIn lw_g (.code y b n r :: lw_g) := by
  have key : ∀ w ∈ lw_g, w ∈ lw_g ∧ ((w.onTables && w.keeps) = true ∨ ∃ ty, w = .arrayClass ty) := fun w hw => ⟨hw, good_of_word (List.all_eq_true.mp hp_wordsOk w hw)⟩
  intro w hw
  rcases List.mem_cons.mp hw with rfl | h1
  · exact key _ hc
  · exact key _ h1
def hp_nw (h : hp_H) (sz : Nat) (ci : Nat) (ty : Nat → FieldType) : hp_H := hp_w h sz (.inr (.inr (ci, fun k => defaultValue (ty k))))
def hp_na (h : hp_H) (sz : Nat) (t n : Nat) : hp_H := hp_w h sz (.inl (t, n, fun _ => 0))
def hp_nj (h : hp_H) (sz : Nat) (n : Nat) : hp_H := hp_w h sz (.inr (.inl (n, fun _ => 0)))
/-- what a method is, by the tables' words -/
def hp_Y (y : MethodName) (M : hp_M) (n : Nat) : Prop :=
  Cond.code y M.2.1 M.2.2.1 M.2.2.2.1 ∈ lw_g ∧ Cond.initialized y.cls ∈ lw_g ∧ (y.cls ≠ "java/lang/invoke/MethodHandle" ∧ y.cls ≠ "java/lang/invoke/VarHandle" ∧ (parseMethodDescriptor y.desc).map (fun d => d.parameters.length) = some n)
section HPC
variable {G : hp_G} {M : hp_M} {pc : Nat} {lv : List (Nat × Value)} {st : List Value} {h h2 : hp_H} {sz sl : Nat} {o : hp_O}
theorem hv_new {index ci N : Nat} {C : String} {T : u_T} {ty : Nat → FieldType} (hF : hp_CL ci C T N ty) (hw : Cond.classLink M.1 index C ∈ lw_g ∧ Cond.instantiable C N ∈ lw_g ∧ Cond.initialized C ∈ lw_g) (hd : decode M.2.1 pc = .ok (.new index, 3)) (h1 : sz + 1 ≤ o.2.2.1) (h3 : sl + N ≤ o.2.2.2) (kk : hp_V G M (pc + 3) lv (.ref sz :: st) (hp_nw h sz ci ty) (sz + 1) (sl + N) o) : hp_V G M pc lv st h sz sl o := by
  intro p e R s m args below meth c H locs cells slots ls C0 hH hz hl hS hc hs
  obtain ⟨g1, g2, g3, g4⟩ := hF
  have hts := C0.2.2.2.2.2.1
  have hKn := C0.2.2.2.2.2.2.2.2.1.1 ci _ g1
  refine W.newcK C0.1 C0.2.1 C0.2.2.2.2.1 (hts _ hw.1) (hts _ hw.2.1) (hts _ hw.2.2) rfl hd (by omega) (by omega) hKn.2.1 hz fun H1 kC hkC e1 z1 o1 => ?_
  subst hz
  refine kk p e R s m args below meth c H1 locs (cells + 1) (slots + N) ls C0 (hH.push (Nat.le_trans C0.2.2.2.2.2.2.2.2.2.1 hS.1) ⟨_, g1, u_born ty hts g2 hKn hkC e1 g3⟩ o1) z1 hl ⟨by have := hS.1; omega, fun q q1 q2 => by rw [o1 q (Nat.lt_of_lt_of_le q1 hS.1)]; exact hS.2.1 q q1 q2, hS.2.2⟩ (by omega) (by omega)
theorem hp_na_eq {cA : ClassId} {n : Nat} (ty : FieldType) (hty : defaultValue ty = .int 0) : arrV cA n (fun _ => defaultValue ty) = arrV cA n (fun _ => .int 0) := by rw [hty]
theorem hp_nI {n : Int32} {N : Nat} (hn : n.toInt = (N : Int)) : ¬ n < 0 ∧ n.toNatClampNeg = N := by
  refine ⟨fun q => ?_, ?_⟩
  · have := Int32.lt_iff_toInt_lt.mp q
    rw [Int32.toInt_zero] at this
    omega
  · show n.toInt.toNat = N
    omega
theorem hv_newI {n : Int32} {N : Nat} (hw : Cond.arrayClass .int ∈ lw_g) (hn : n.toInt = (N : Int)) (hN : N ≤ 1000000) (hd : decode M.2.1 pc = .ok (.newarray .int, 2)) (h1 : sz + 1 ≤ o.2.2.1) (h3 : sl + N ≤ o.2.2.2) (kk : hp_V G M (pc + 2) lv (.ref sz :: st) (hp_na h sz 0 N) (sz + 1) (sl + N) o) : hp_V G M pc lv (.int n :: st) h sz sl o := by
  intro p e R s m args below meth c H locs cells slots ls C0 hH hz hl hS hc hs
  have hts := C0.2.2.2.2.2.1
  have hK := C0.2.2.2.2.2.2.2.2.1
  refine va_newaK (atype := .int) C0.1 C0.2.1 (hts _ hw) rfl hd rfl (hp_nI hn).1 (hp_nI hn).2 (by show N * componentBytes .int ≤ _; simp [componentBytes]; omega) (by omega) (by omega) hz fun H1 cA e1 z1 o1 hAr hNm => ?_
  have hcA : cA = G.2.2.2 0 := Option.some.inj (hNm.symm.trans (hK.2 0 _ rfl).2)
  subst hcA
  subst hz
  exact kk p e R s m args below meth c H1 locs (cells + 1) (slots + N) ls C0 (hH.push (Nat.le_trans C0.2.2.2.2.2.2.2.2.2.1 hS.1) ⟨by decide, e1⟩ o1) z1 hl ⟨by have := hS.1; omega, fun q q1 q2 => by rw [o1 q (Nat.lt_of_lt_of_le q1 hS.1)]; exact hS.2.1 q q1 q2, hS.2.2⟩ (by omega) (by omega)
theorem hv_newB {n : Int32} {N : Nat} (hw : Cond.arrayClass .byte ∈ lw_g) (hn : n.toInt = (N : Int)) (hN : N ≤ 1000000) (hd : decode M.2.1 pc = .ok (.newarray .byte, 2)) (h1 : sz + 1 ≤ o.2.2.1) (h3 : sl + N ≤ o.2.2.2) (kk : hp_V G M (pc + 2) lv (.ref sz :: st) (hp_na h sz 1 N) (sz + 1) (sl + N) o) : hp_V G M pc lv (.int n :: st) h sz sl o := by
  intro p e R s m args below meth c H locs cells slots ls C0 hH hz hl hS hc hs
  have hts := C0.2.2.2.2.2.1
  have hK := C0.2.2.2.2.2.2.2.2.1
  refine va_newaK (atype := .byte) C0.1 C0.2.1 (hts _ hw) rfl hd rfl (hp_nI hn).1 (hp_nI hn).2 (by show N * componentBytes .byte ≤ _; simp [componentBytes]; omega) (by omega) (by omega) hz fun H1 cA e1 z1 o1 hAr hNm => ?_
  have hcA : cA = G.2.2.2 1 := Option.some.inj (hNm.symm.trans (hK.2 1 _ rfl).2)
  subst hcA
  subst hz
  exact kk p e R s m args below meth c H1 locs (cells + 1) (slots + N) ls C0 (hH.push (Nat.le_trans C0.2.2.2.2.2.2.2.2.2.1 hS.1) ⟨by decide, e1⟩ o1) z1 hl ⟨by have := hS.1; omega, fun q q1 q2 => by rw [o1 q (Nat.lt_of_lt_of_le q1 hS.1)]; exact hS.2.1 q q1 q2, hS.2.2⟩ (by omega) (by omega)
theorem hv_newZ {n : Int32} {N : Nat} (hw : Cond.arrayClass .boolean ∈ lw_g) (hn : n.toInt = (N : Int)) (hN : N ≤ 1000000) (hd : decode M.2.1 pc = .ok (.newarray .boolean, 2)) (h1 : sz + 1 ≤ o.2.2.1) (h3 : sl + N ≤ o.2.2.2) (kk : hp_V G M (pc + 2) lv (.ref sz :: st) (hp_na h sz 2 N) (sz + 1) (sl + N) o) : hp_V G M pc lv (.int n :: st) h sz sl o := by
  intro p e R s m args below meth c H locs cells slots ls C0 hH hz hl hS hc hs
  have hts := C0.2.2.2.2.2.1
  have hK := C0.2.2.2.2.2.2.2.2.1
  refine va_newaK (atype := .boolean) C0.1 C0.2.1 (hts _ hw) rfl hd rfl (hp_nI hn).1 (hp_nI hn).2 (by show N * componentBytes .boolean ≤ _; simp [componentBytes]; omega) (by omega) (by omega) hz fun H1 cA e1 z1 o1 hAr hNm => ?_
  have hcA : cA = G.2.2.2 2 := Option.some.inj (hNm.symm.trans (hK.2 2 _ rfl).2)
  subst hcA
  subst hz
  exact kk p e R s m args below meth c H1 locs (cells + 1) (slots + N) ls C0 (hH.push (Nat.le_trans C0.2.2.2.2.2.2.2.2.2.1 hS.1) ⟨by decide, e1⟩ o1) z1 hl ⟨by have := hS.1; omega, fun q q1 q2 => by rw [o1 q (Nat.lt_of_lt_of_le q1 hS.1)]; exact hS.2.1 q q1 q2, hS.2.2⟩ (by omega) (by omega)
theorem hv_newJ {n : Int32} {N : Nat} (hw : Cond.arrayClass .long ∈ lw_g) (hn : n.toInt = (N : Int)) (hN : N ≤ 1000000) (hd : decode M.2.1 pc = .ok (.newarray .long, 2)) (h1 : sz + 1 ≤ o.2.2.1) (h3 : sl + N ≤ o.2.2.2) (kk : hp_V G M (pc + 2) lv (.ref sz :: st) (hp_nj h sz N) (sz + 1) (sl + N) o) : hp_V G M pc lv (.int n :: st) h sz sl o := by
  intro p e R s m args below meth c H locs cells slots ls C0 hH hz hl hS hc hs
  have hts := C0.2.2.2.2.2.1
  have hK := C0.2.2.2.2.2.2.2.2.1
  refine va_newaK (atype := .long) C0.1 C0.2.1 (hts _ hw) rfl hd rfl (hp_nI hn).1 (hp_nI hn).2 (by show N * componentBytes .long ≤ _; simp [componentBytes]; omega) (by omega) (by omega) hz fun H1 cA e1 z1 o1 hAr hNm => ?_
  have hcA : cA = G.2.2.2 3 := Option.some.inj (hNm.symm.trans (hK.2 3 _ rfl).2)
  subst hcA
  subst hz
  exact kk p e R s m args below meth c H1 locs (cells + 1) (slots + N) ls C0 (hH.push (Nat.le_trans C0.2.2.2.2.2.2.2.2.2.1 hS.1) e1 o1) z1 hl ⟨by have := hS.1; omega, fun q q1 q2 => by rw [o1 q (Nat.lt_of_lt_of_le q1 hS.1)]; exact hS.2.1 q q1 q2, hS.2.2⟩ (by omega) (by omega)
theorem hv_iret {v : Int32} (hr : M.2.2.2.1 = some .int) (hd : decode M.2.1 pc = .ok (.ireturn, 1)) : hp_V G M pc lv [.int v] h sz sl (some (.int v), h, sz, sl) := by
  intro p e R s m args below meth c H locs cells slots ls C hH hz hl hS hc hs
  refine W.widen (k := R.cells) (n := R.slots) (by simp at hc; omega) (by simp at hs; omega) ?_
  exact W.iret (v := v) C.1 C.2.1 (C.2.2.1.trans hr) (fun t ht hW => ⟨⟨rfl, by rw [ht]; exact hH, by rw [ht]; exact hz, va_K.moved hW.alike C.2.2.2.2.2.2.2.2.1, hp_N.warm hW C.2.2.2.2.2.2.2.2.2.2.2.2⟩, hS.F ht⟩) hS.2.2 hd C.2.2.2.2.2.2.1
theorem hv_zret {v : Int32} (hr : M.2.2.2.1 = some .boolean) (hv : v = 0 ∨ v = 1) (hd : decode M.2.1 pc = .ok (.ireturn, 1)) : hp_V G M pc lv [.int v] h sz sl (some (.int v), h, sz, sl) := by
  intro p e R s m args below meth c H locs cells slots ls C hH hz hl hS hc hs
  refine W.widen (k := R.cells) (n := R.slots) (by simp at hc; omega) (by simp at hs; omega) ?_
  exact W.zret (v := v) C.1 C.2.1 (C.2.2.1.trans hr) (by rcases hv with rfl | rfl <;> rfl) (fun t ht hW => ⟨⟨rfl, by rw [ht]; exact hH, by rw [ht]; exact hz, va_K.moved hW.alike C.2.2.2.2.2.2.2.2.1, hp_N.warm hW C.2.2.2.2.2.2.2.2.2.2.2.2⟩, hS.F ht⟩) hS.2.2 hd C.2.2.2.2.2.2.1
theorem hv_vret (hr : M.2.2.2.1 = none) (hd : decode M.2.1 pc = .ok (.return_, 1)) : hp_V G M pc lv [] h sz sl (none, h, sz, sl) := by
  intro p e R s m args below meth c H locs cells slots ls C hH hz hl hS hc hs
  refine W.widen (k := R.cells) (n := R.slots) (by simp at hc; omega) (by simp at hs; omega) ?_
  exact W.vret C.1 C.2.1 (C.2.2.1.trans hr) (fun t ht hW => ⟨⟨rfl, by rw [ht]; exact hH, by rw [ht]; exact hz, va_K.moved hW.alike C.2.2.2.2.2.2.2.2.1, hp_N.warm hW C.2.2.2.2.2.2.2.2.2.2.2.2⟩, hS.F ht⟩) hS.2.2 hd C.2.2.2.2.2.2.1
theorem hv_aret {a : Nat} {rt : FieldType} (hr : M.2.2.2.1 = some rt) (hrt : (∃ n, rt = .object n) ∨ ∃ t, rt = .array t) (hd : decode M.2.1 pc = .ok (.areturn, 1)) : hp_V G M pc lv [.ref a] h sz sl (some (.ref a), h, sz, sl) := by
  intro p e R s m args below meth c H locs cells slots ls C hH hz hl hS hc hs
  refine W.widen (k := R.cells) (n := R.slots) (by simp at hc; omega) (by simp at hs; omega) ?_
  exact W.aret C.1 C.2.1 (C.2.2.1.trans hr) hrt (Or.inr ⟨a, rfl⟩) (fun t ht hW => ⟨⟨rfl, by rw [ht]; exact hH, by rw [ht]; exact hz, va_K.moved hW.alike C.2.2.2.2.2.2.2.2.1, hp_N.warm hW C.2.2.2.2.2.2.2.2.2.2.2.2⟩, hS.F ht⟩) hS.2.2 hd C.2.2.2.2.2.2.1
theorem hv_objInit {index a : Nat} (hw : Cond.methodLink M.1 index Lib.objectInit ∈ lw_g ∧ Cond.instanceMethod Lib.objectInit ∈ lw_g ∧ Cond.code Lib.objectInit ⟨#[0xb1]⟩ 1 none ∈ lw_g) (hR : 1 ≤ M.2.2.2.2.1 ∧ 12 ≤ M.2.2.2.2.2.1) (hd : decode M.2.1 pc = .ok (.invokespecial index, 3)) (k : hp_V G M (pc + 3) lv [] h sz sl o) : hp_V G M pc lv [.ref a] h sz sl o := by
  intro p e R s m args below meth c H locs cells slots ls C hH hz hl hS hc hs
  have hts := C.2.2.2.2.2.1
  exact W.objInit C.1 C.2.1 C.2.2.2.2.1 (hts _ hw.1) (hts _ hw.2.1) (hts _ hw.2.2) rfl (hl.1.trans C.2.2.2.1.symm) rfl hd (by rw [C.2.2.2.2.2.2.2.2.2.2.1]; exact hR.1) (by rw [C.2.2.2.2.2.2.2.2.2.2.2.1]; exact hR.2) (k p e R s m args below meth c H locs cells slots ls C hH hz hl hS hc hs)
theorem hp_blind {as : List Value} : FrameBlind (va_Pc as (fun U => U.heap.size = sz ∧ hp_ok G h U.heap ∧ hp_K G U ∧ G.2.1 ≤ sz ∧ hp_N U)) := by
  intro a U g mk q
  obtain ⟨q0, q1, q2, q3, q4, q5⟩ := q
  exact ⟨q0, q1, q2, va_K.moved (u := U) (U := U.calling g mk a) (Vm.Alike.refl U.vm) q3, q4, hp_N.same (s := U) rfl q5⟩
/-- behind a call -/
theorem hv_behind {p : Program} {e : Env} {R : Room} {s : State} {m : MethodId} {args : Array Value} {below : List Frame} {meth : Method} {c : Code} {H : Heap} {locs : List Loc} {cells slots : Nat} {ls : Array Slot} {o1 : hp_O} {rest st0 : List Value} {a : Array Value}
    (hr : va_Run p G.1 e R s m args below meth c H locs cells slots (o1.2.2.1 - sz) (o1.2.2.2 - sl) (F0 m pc ls st0) rest (hp_Q G o1 a) (hp_A G))
    (C : hp_Cx G M p R s m args meth c) (hl : lv_has ls M.2.2.1 lv) (hS : va_S (hp_A G) s.heap H locs) (h1 : sz ≤ o1.2.2.1) (h3 : sl ≤ o1.2.2.2)
    (hc : cells + o.2.2.1 ≤ R.cells + sz) (hs : slots + o.2.2.2 ≤ R.slots + sl) (k : hp_V G M (pc + 3) lv (o1.1.toList ++ rest) o1.2.1 o1.2.2.1 o1.2.2.2 o) :
    W p G.1 e R s m args below meth c H locs cells slots (MQ below (hp_Q G o) args s R.cells R.slots (hp_A G)) (F0 m pc ls st0) := by
  intro T hT X
  obtain ⟨v, st₀, t, T', L, h0, X', hL, e1, e2, ⟨⟨hv, hH1, hz1, hK1, hN1⟩, hz, hk⟩, stp⟩ := hr T hT X
  cases hv
  rw [h0] at hz hk
  obtain ⟨t2, a1, b1⟩ := k p e R s m args below meth c T'.heap (locs ++ L) (cells + (o1.2.2.1 - sz)) (slots + (o1.2.2.2 - sl)) ls C (by rw [e1]; exact hH1) (by rw [e1]; exact hz1) hl
    ⟨Nat.le_trans hS.1 (by rw [e1]; exact hz), fun q q1 q2 => by rw [e1, hk q (Nat.lt_of_lt_of_le q1 hS.1) q2]; exact hS.2.1 q q1 q2, fun q hq => by
      rcases List.mem_append.mp hq with g | g
      · exact hS.2.2 q g
      · exact hL q g⟩ (by omega) (by omega) T' rfl X'
  exact ⟨t2, stp t2 a1, b1⟩
theorem hv_callV {index b ci n : Nat} {As rest : List Value} {y : MethodName} {M1 : hp_M} {o1 : hp_O} {V : Nat → Value} {T : u_T} {N : Nat} (hY : hp_Y y M1 n) (hI : Cond.instanceMethod y ∈ lw_g ∧ Cond.selects y.cls y y ∈ lw_g) (hL : Cond.methodLink M.1 index y ∈ lw_g) (hc1 : hp_cl[ci]? = some (y.cls, T, N))
    (hb : h b = some (.inr (.inr (ci, V)))) (hC : hp_C G M1 y (.ref b :: As) h sz sl o1) (hn : As.length = n) (hrest : (rest.map fun v => v.category).sum ≤ 8) (hR : M1.2.2.2.2.1 + 1 ≤ M.2.2.2.2.1 ∧ 8 + (M1.2.2.1 + 11) + M1.2.2.2.2.2.1 ≤ M.2.2.2.2.2.1)
    (h1 : o1.2.2.1 ≤ o.2.2.1) (h3 : o1.2.2.2 ≤ o.2.2.2) (hst : st = As.reverse ++ .ref b :: rest) (hd : decode M.2.1 pc = .ok (.invokevirtual index, 3)) (k : hp_V G M (pc + 3) lv (o1.1.toList ++ rest) o1.2.1 o1.2.2.1 o1.2.2.2 o) : hp_V G M pc lv st h sz sl o := by
  intro p e R s m args below meth c H locs cells slots ls C hH hz hl hS hc hs
  obtain ⟨hCz, hCs, hM⟩ := hC
  have hts := C.2.2.2.2.2.1
  have hK := C.2.2.2.2.2.2.2.2.1
  subst hst
  refine hv_behind (va_runV (g := F0 m pc ls (As.reverse ++ .ref b :: rest)) (n := n) (C := y.cls) ⟨C.1, C.2.1, C.2.2.2.1, C.2.2.2.2.1, hts⟩ hM ⟨callB_of n hts (hp_good hY.1) rfl rfl rfl (hts _ hY.2.1) (hts _ hL) hY.2.2 (by rw [C.2.2.2.2.2.2.2.2.2.2.1, C.2.2.2.2.2.2.2.2.2.2.2.1]; exact hR), hts _ hI.1, hts _ hI.2⟩ ⟨hp_blind, ?_, fun U hU hW => ⟨rfl, by rw [hU]; exact hz, by rw [hU]; exact hH, va_K.moved hW.alike hK, by rw [← hz]; exact Nat.le_trans C.2.2.2.2.2.2.2.2.2.1 hS.1, hp_N.warm hW C.2.2.2.2.2.2.2.2.2.2.2.2⟩⟩ rfl hn hl.1 rfl (lv_room hrest) hd ⟨by omega, by omega⟩) C hl hS hCz hCs hc hs k
  obtain ⟨hbase, r, g1, cell, q1, q2, q3, q4⟩ := hH b _ hb
  have hr : r = (y.cls, T, N) := Option.some.inj (g1.symm.trans hc1)
  subst hr
  obtain ⟨hSl, hfc, kC, hkC, hkind⟩ := hK.1 ci _ hc1
  exact ⟨cell, q1, by rw [q3]; rfl, by rw [q2]; exact hfc⟩
theorem hv_callS {index n : Nat} {As rest : List Value} {y : MethodName} {M1 : hp_M} {o1 : hp_O} (hY : hp_Y y M1 n) (hI : Cond.static y ∈ lw_g) (hL : Cond.methodLink M.1 index y ∈ lw_g)
    (hC : hp_C G M1 y As h sz sl o1) (hn : As.length = n) (hrest : (rest.map fun v => v.category).sum ≤ 8) (hR : M1.2.2.2.2.1 + 1 ≤ M.2.2.2.2.1 ∧ 8 + (M1.2.2.1 + 11) + M1.2.2.2.2.2.1 ≤ M.2.2.2.2.2.1)
    (h1 : o1.2.2.1 ≤ o.2.2.1) (h3 : o1.2.2.2 ≤ o.2.2.2) (hst : st = As.reverse ++ rest) (hd : decode M.2.1 pc = .ok (.invokestatic index, 3)) (k : hp_V G M (pc + 3) lv (o1.1.toList ++ rest) o1.2.1 o1.2.2.1 o1.2.2.2 o) : hp_V G M pc lv st h sz sl o := by
  intro p e R s m args below meth c H locs cells slots ls C hH hz hl hS hc hs
  obtain ⟨hCz, hCs, hM⟩ := hC
  have hts := C.2.2.2.2.2.1
  have hK := C.2.2.2.2.2.2.2.2.1
  subst hst
  exact hv_behind (va_runS (g := F0 m pc ls (As.reverse ++ rest)) (n := n) ⟨C.1, C.2.1, C.2.2.2.1, C.2.2.2.2.1, hts⟩ hM ⟨callB_of n hts (hp_good hY.1) rfl rfl rfl (hts _ hY.2.1) (hts _ hL) hY.2.2 (by rw [C.2.2.2.2.2.2.2.2.2.2.1, C.2.2.2.2.2.2.2.2.2.2.2.1]; exact hR), hts _ hI⟩ ⟨hp_blind, fun U hU hW => ⟨rfl, by rw [hU]; exact hz, by rw [hU]; exact hH, va_K.moved hW.alike hK, by rw [← hz]; exact Nat.le_trans C.2.2.2.2.2.2.2.2.2.1 hS.1, hp_N.warm hW C.2.2.2.2.2.2.2.2.2.2.2.2⟩⟩ rfl hn hl.1 rfl (lv_room hrest) hd ⟨by omega, by omega⟩) C hl hS hCz hCs hc hs k
theorem hv_callI {index b n : Nat} {As rest : List Value} {y : MethodName} {M1 : hp_M} {o1 : hp_O} (hY : hp_Y y M1 n) (hret : M1.2.2.2.1 = none) (hI : y.name = "<init>" ∧ Cond.instanceMethod y ∈ lw_g) (hL : Cond.methodLink M.1 index y ∈ lw_g)
    (hC : hp_C G M1 y (.ref b :: As) h sz sl o1) (hn : As.length = n) (hrest : (rest.map fun v => v.category).sum ≤ 8) (hR : M1.2.2.2.2.1 + 1 ≤ M.2.2.2.2.1 ∧ 8 + (M1.2.2.1 + 11) + M1.2.2.2.2.2.1 ≤ M.2.2.2.2.2.1)
    (h1 : o1.2.2.1 ≤ o.2.2.1) (h3 : o1.2.2.2 ≤ o.2.2.2) (hst : st = As.reverse ++ .ref b :: rest) (hd : decode M.2.1 pc = .ok (.invokespecial index, 3)) (k : hp_V G M (pc + 3) lv (o1.1.toList ++ rest) o1.2.1 o1.2.2.1 o1.2.2.2 o) : hp_V G M pc lv st h sz sl o := by
  intro p e R s m args below meth c H locs cells slots ls C hH hz hl hS hc hs
  obtain ⟨hCz, hCs, hM⟩ := hC
  have hts := C.2.2.2.2.2.1
  have hK := C.2.2.2.2.2.2.2.2.1
  subst hst
  obtain ⟨c1, c2, c3, c4, c5, c6, c7⟩ := M1
  dsimp only at hret
  subst hret
  exact hv_behind (va_runI (g := F0 m pc ls (As.reverse ++ .ref b :: rest)) (n := n) ⟨C.1, C.2.1, C.2.2.2.1, C.2.2.2.2.1, hts⟩ hM ⟨callB_of n hts (hp_good hY.1) rfl rfl rfl (hts _ hY.2.1) (hts _ hL) hY.2.2 (by rw [C.2.2.2.2.2.2.2.2.2.2.1, C.2.2.2.2.2.2.2.2.2.2.2.1]; exact hR), hI.1, hts _ hI.2⟩ ⟨hp_blind, fun U hU hW => ⟨rfl, by rw [hU]; exact hz, by rw [hU]; exact hH, va_K.moved hW.alike hK, by rw [← hz]; exact Nat.le_trans C.2.2.2.2.2.2.2.2.2.1 hS.1, hp_N.warm hW C.2.2.2.2.2.2.2.2.2.2.2.2⟩⟩ rfl hn hl.1 rfl (lv_room hrest) hd ⟨by omega, by omega⟩) C hl hS hCz hCs hc hs k
theorem hv_callIN {index b n : Nat} {host : String} {As rest : List Value} {y : MethodName} {M1 : hp_M} {o1 : hp_O} (hY : hp_Y y M1 n) (hret : M1.2.2.2.1 = none) (hI : y.name = "<init>" ∧ Cond.instanceMethod y ∈ lw_g) (hL : Cond.methodLinkNest M.1 index y host ∈ hp_nest)
    (hC : hp_C G M1 y (.ref b :: As) h sz sl o1) (hn : As.length = n) (hrest : (rest.map fun v => v.category).sum ≤ 8) (hR : M1.2.2.2.2.1 + 1 ≤ M.2.2.2.2.1 ∧ 8 + (M1.2.2.1 + 11) + M1.2.2.2.2.2.1 ≤ M.2.2.2.2.2.1)
    (h1 : o1.2.2.1 ≤ o.2.2.1) (h3 : o1.2.2.2 ≤ o.2.2.2) (hst : st = As.reverse ++ .ref b :: rest) (hd : decode M.2.1 pc = .ok (.invokespecial index, 3)) (k : hp_V G M (pc + 3) lv (o1.1.toList ++ rest) o1.2.1 o1.2.2.1 o1.2.2.2 o) : hp_V G M pc lv st h sz sl o := by
  intro p e R s m args below meth c H locs cells slots ls C hH hz hl hS hc hs
  obtain ⟨hCz, hCs, hM⟩ := hC
  have hts := C.2.2.2.2.2.1
  have hK := C.2.2.2.2.2.2.2.2.1
  subst hst
  obtain ⟨c1, c2, c3, c4, c5, c6, c7⟩ := M1
  dsimp only at hret
  subst hret
  have hc : Cond.code y c2 c3 none ∈ Cond.code y c2 c3 none :: lw_g := List.mem_cons_self
  have hlen : ∀ sig, parseMethodDescriptor y.desc = some sig → n = sig.parameters.length := fun sig hh => by
    have h2 := hY.2.2.2.2
    rw [hh] at h2
    exact (Option.some.inj h2).symm
  exact hv_behind (va_runIN (g := F0 m pc ls (As.reverse ++ .ref b :: rest)) (n := n) (host := host) ⟨C.1, C.2.1, C.2.2.2.1, C.2.2.2.2.1, hts⟩ hM ⟨⟨⟨rfl, rfl, by rw [C.2.2.2.2.2.2.2.2.2.2.1]; exact hR.1, by rw [C.2.2.2.2.2.2.2.2.2.2.2.1]; exact hR.2, pay_in hts (hp_good hY.1), hc⟩, hts _ hY.1, hts _ hY.2.1, ⟨hY.2.2.1, hY.2.2.2.1⟩, hlen, va_Nw.use rfl (C.2.2.2.2.2.2.2.2.2.2.2.2 _ hL)⟩, hI.1, hts _ hI.2⟩ ⟨hp_blind, fun U hU hW => ⟨rfl, by rw [hU]; exact hz, by rw [hU]; exact hH, va_K.moved hW.alike hK, by rw [← hz]; exact Nat.le_trans C.2.2.2.2.2.2.2.2.2.1 hS.1, hp_N.warm hW C.2.2.2.2.2.2.2.2.2.2.2.2⟩⟩ rfl hn hl.1 rfl (lv_room hrest) hd ⟨by omega, by omega⟩) C hl hS hCz hCs (by assumption) hs k
/-- a contract out of the walk from the entry -/
theorem hp_C_of {y : MethodName} {as : List Value} (hy : plainName y.cls = true) (hown : y.cls = M.1) (hnm : y.name = M.2.2.2.2.2.2) (hlen : (lg_sl as).length ≤ M.2.2.1) (h1 : sz ≤ o.2.2.1) (h3 : sl ≤ o.2.2.2) (k : hp_V G M 0 (lv_args 0 as) [] h sz sl o) : hp_C G M y as h sz sl o := by
  refine ⟨h1, h3, Met.ofW (cc := M.2.1) (maxL := M.2.2.1) (ret := M.2.2.2.1) hy rfl ?_⟩
  intro p e s m args below meth c s₁ B hml hv
  obtain ⟨rfl, hz, hH, hK, hb, hN⟩ := hv
  have hts : ∀ w ∈ lw_g, w.before as.toArray s = true := fun w hw => atoms_spec (ws := .code y M.2.1 M.2.2.1 M.2.2.2.1 :: lw_g) B.pre w (List.mem_cons_of_mem _ hw)
  have ho : s.vm.findClass y.cls = some m.cls := findClass_of_methodNamed B.named
  have hin : meth.name = y.name := (name_of_methodNamed B.named B.method).1
  have hl := lv_entry as (n := M.2.2.1) hlen
  rw [lg_entry_eq]
  exact k p e _ s m _ below meth c s.heap [] 0 0 _ ⟨B.exec, B.bytes, B.returns, hml, by rw [← hown]; exact ho, hts, B.notSynchronized, hin.trans hnm, hK, by rw [hz]; exact hb, rfl, rfl, hN⟩ hH hz hl va_S.rf (by show 0 + _ ≤ (o.2.2.1 - sz) + sz; omega) (by show 0 + _ ≤ (o.2.2.2 - sl) + sl; omega)
end HPC
end
section
/-! More of the calculus: fewer locals, the native copy, loops of the functions that stand for methods -/
theorem hv_sub {G : hp_G} {M : hp_M} {pc : Nat} {lv lv2 : List (Nat × Value)} {st : List Value} {h : hp_H} {sz sl : Nat} {o : hp_O} (ks : List Nat) (hk : lv_pick lv ks = lv2) (k : hp_V G M pc lv2 st h sz sl o) : hp_V G M pc lv st h sz sl o :=
  fun p e R s m args below meth c H locs cells slots ls C hH hz hl hS hc hs => k p e R s m args below meth c H locs cells slots ls C hH hz (lv_sub hl ks hk) hS hc hs
def hp_cp (h : hp_H) (a0 : Nat) (sp : Int32) (a : Nat) (dp n : Int32) : Option hp_H := match h a0, h a with
  | some (.inl (t0, n0, f)), some (.inl (t1, n1, g)) => if t0 = 0 ∧ t1 = 0 ∧ 0 ≤ sp.toInt ∧ 0 ≤ dp.toInt ∧ 0 ≤ n.toInt ∧ sp.toInt + n.toInt ≤ (n0 : Int) ∧ dp.toInt + n.toInt ≤ (n1 : Int) then some (hp_w h a (.inl (0, n1, va_cpy f g sp.toNatClampNeg dp.toNatClampNeg n.toNatClampNeg))) else none
  | _, _ => none
theorem hp_cp_spec {h h2 : hp_H} {a0 a : Nat} {sp dp n : Int32} (e : hp_cp h a0 sp a dp n = some h2) : ∃ n0 f n1 g, h a0 = some (.inl (0, n0, f)) ∧ h a = some (.inl (0, n1, g)) ∧ 0 ≤ sp.toInt ∧ 0 ≤ dp.toInt ∧ 0 ≤ n.toInt ∧ sp.toInt + n.toInt ≤ (n0 : Int) ∧ dp.toInt + n.toInt ≤ (n1 : Int) ∧ h2 = hp_w h a (.inl (0, n1, va_cpy f g sp.toNatClampNeg dp.toNatClampNeg n.toNatClampNeg)) := by
  unfold hp_cp at e
  split at e
  · rename_i t0 n0 f t1 n1 g e0 e1
    split at e
    · rename_i hc
      obtain ⟨rfl, rfl, c1, c2, c3, c4, c5⟩ := hc
      exact ⟨n0, f, n1, g, e0, e1, c1, c2, c3, c4, c5, (Option.some.inj e).symm⟩
    · cases e
  · cases e
theorem hp_nn {z : Int32} (hz : 0 ≤ z.toInt) : ¬ z < 0 ∧ z.toInt = (z.toNatClampNeg : Int) := by
  refine ⟨fun q => ?_, ?_⟩
  · have := Int32.lt_iff_toInt_lt.mp q
    rw [Int32.toInt_zero] at this
    omega
  · show z.toInt = ((z.toInt.toNat : Nat) : Int)
    omega
theorem hv_copy {G : hp_G} {M : hp_M} {pc : Nat} {lv : List (Nat × Value)} {h h2 : hp_H} {sz sl : Nat} {o : hp_O} {index a0 a : Nat} {sp dp n : Int32} (hw : Cond.methodLink M.1 index arraycopyName ∈ lw_g ∧ Cond.native arraycopyName ∈ lw_g ∧ Cond.static arraycopyName ∈ lw_g ∧ Cond.initialized "java/lang/System" ∈ lw_g)
    (hR : 1 ≤ M.2.2.2.2.1 ∧ nativeFrameWords "java/lang/System" "arraycopy" 5 + 11 ≤ M.2.2.2.2.2.1) (hd : decode M.2.1 pc = .ok (.invokestatic index, 3)) (hw2 : hp_cp h a0 sp a dp n = some h2) (kk : hp_V G M (pc + 3) lv [] h2 sz sl o) : hp_V G M pc lv [.int n, .int dp, .ref a, .int sp, .ref a0] h sz sl o := by
  intro p e R s m args below meth c H locs cells slots ls C hH hz hl hS hc hs
  obtain ⟨n0, f, n1, g, ha0, ha1, c1, c2, c3, c4, c5, rfl⟩ := hp_cp_spec hw2
  obtain ⟨hb0, -, hc0⟩ := hH a0 _ ha0
  obtain ⟨hb1, -, hc1⟩ := hH a _ ha1
  have hts := C.2.2.2.2.2.1
  have hK := C.2.2.2.2.2.2.2.2.1
  intro T hT X
  obtain ⟨-, k0, hk0, cm0, hkk0⟩ := (hK.2 0 _ rfl).1 n0 (fun j => .int (f j))
  obtain ⟨-, k1, hk1, cm1, hkk1⟩ := (hK.2 0 _ rfl).1 n1 (fun j => .int (g j))
  have e3 := (hp_nn c1).2
  have e4 := (hp_nn c2).2
  have e5 := (hp_nn c3).2
  obtain ⟨vm', X', step⟩ := X.arraycopy C.1 C.2.2.2.2.1 (hts _ hw.1) (hts _ hw.2.1) (hts _ hw.2.2.1) (hts _ hw.2.2.2) (src := a0) (dst := a) (cs := arrV (G.2.2.2 0) n0 (fun j => .int (f j))) (cd := arrV (G.2.2.2 0) n1 (fun j => .int (g j))) (srcPos := sp) (destPos := dp) (n := n) (by rw [hT]; exact hc0) (by rw [hT]; exact hc1)
    (fun _ h => by cases h) (fun _ h => by cases h) (fun h => by cases h) (fun h => by cases h) hk0 hk1 hkk0 hkk1 (by simp [refKind]) (hp_nn c1).1 (hp_nn c2).1 (hp_nn c3).1
    (by rw [arrV_size]; omega)
    (by rw [arrV_size]; omega)
    (fun vm₁ _ i hi => by
      have e : (arrV (G.2.2.2 0) n0 (fun j => .int (f j))).slots.getD (sp.toNatClampNeg + i) .null = .int (f (sp.toNatClampNeg + i)) := by
        rw [Array.getD_eq_getD_getElem?, arrV_read _ _ (by omega)]
        rfl
      refine ⟨?_, ?_⟩
      · rw [e]
        rfl
      · rw [e]
        exact trivial)
    (g := F0 m pc ls [.int n, .int dp, .ref a, .int sp, .ref a0]) rfl (by rw [hl.1, C.2.2.2.1]) (rest := []) rfl (by rw [C.2.1]; exact hd) (by rw [C.2.2.2.2.2.2.2.2.2.2.1]; exact hR.1) (by rw [C.2.2.2.2.2.2.2.2.2.2.2.1]; show 2 * 0 + 0 + _ ≤ _; have := hR.2; omega)
  have e1 : copied (arrV (G.2.2.2 0) n0 (fun j => .int (f j))) (arrV (G.2.2.2 0) n1 (fun j => .int (g j))) sp dp n = arrV (G.2.2.2 0) n1 (fun j => .int (va_cpy f g sp.toNatClampNeg dp.toNatClampNeg n.toNatClampNeg j)) := va_copied (fun z => .int z) (G.2.2.2 0) (G.2.2.2 0) f g (by omega)
  rw [e1] at X' step
  have hla : a < H.size := (Array.getElem?_eq_some_iff.mp hc1).1
  have hheap : ((T.setVm vm').setCell a (arrV (G.2.2.2 0) n1 (fun j => .int (va_cpy f g sp.toNatClampNeg dp.toNatClampNeg n.toNatClampNeg j)))).heap = H.setIfInBounds a (arrV (G.2.2.2 0) n1 (fun j => .int (va_cpy f g sp.toNatClampNeg dp.toNatClampNeg n.toNatClampNeg j))) := by rw [← hT]; rfl
  have oq : ∀ q : Nat, q ≠ a → (H.setIfInBounds a (arrV (G.2.2.2 0) n1 (fun j => .int (va_cpy f g sp.toNatClampNeg dp.toNatClampNeg n.toNatClampNeg j))))[q]? = H[q]? := fun q hq => by simp [Array.getElem?_setIfInBounds, Ne.symm hq]
  obtain ⟨t, a1, b1⟩ := kk p e R s m args below meth c _ _ cells slots ls C (hH.put hb1 ⟨by decide, (show (H.setIfInBounds a _)[a]? = some _ by simp [Array.getElem?_setIfInBounds, hla])⟩ oq) (by simp; exact hz) hl ⟨by simp; exact hS.1, fun q g1 g2 => by
      rw [oq q (fun e => g2 (by rw [e]; exact hb1))]
      exact hS.2.1 q g1 g2, fun q hq => by
      rcases List.mem_append.mp hq with h | h
      · exact hS.2.2 q h
      · obtain ⟨z, -, hz⟩ := List.mem_map.mp h
        rw [← hz]
        exact hb1⟩ hc hs _ hheap X'
  exact ⟨t, step t a1, b1⟩
/-- the receiver is an object of that class -/
def hp_ck (h : hp_H) (ci a : Nat) : Option Unit := match h a with
  | some (.inr (.inr (c, _))) => if c = ci then some () else none
  | _ => none
theorem hp_ck_spec {h : hp_H} {ci a : Nat} {u : Unit} (e : hp_ck h ci a = some u) : ∃ V, h a = some (.inr (.inr (ci, V))) := by
  unfold hp_ck at e
  split at e
  · rename_i c V he
    split at e
    · rename_i hc
      subst hc
      exact ⟨V, he⟩
    · cases e
  · cases e
def hp_bz (x : Int32) : Option Unit := if x = 0 ∨ x = 1 then some () else none
theorem hp_bz_spec {x : Int32} {u : Unit} (e : hp_bz x = some u) : x = 0 ∨ x = 1 := by
  unfold hp_bz at e
  split at e
  · assumption
  · cases e
theorem hp_bz_nar {x : Int32} (h : x = 0 ∨ x = 1) : narrow .boolean (.int x) = .int x := by rcases h with rfl | rfl <;> rfl
theorem hp_bz_fit {x : Int32} (h : x = 0 ∨ x = 1) : fits .boolean (.int x) = true := by rcases h with rfl | rfl <;> rfl
theorem hp_bd {α β : Type} {x : Option α} {f : α → Option β} {b : β} (h : x.bind f = some b) : ∃ a, x = some a ∧ f a = some b := by
  cases x with
  | none => cases h
  | some a => exact ⟨a, rfl, h⟩
def hp_lp {S X : Type} (b : S → Option (S ⊕ X)) : Nat → S → Option X
  | 0, _ => none
  | n + 1, s => (b s).bind fun r => Sum.elim (fun s2 => hp_lp b n s2) some r
theorem hp_lp_0 {S X : Type} {b : S → Option (S ⊕ X)} {s : S} {x : X} (h : hp_lp b 0 s = some x) : False := by cases h
theorem hp_lp_1 {S X : Type} {b : S → Option (S ⊕ X)} {n : Nat} {s : S} {x : X} (h : hp_lp b (n + 1) s = some x) : ∃ r, b s = some r ∧ ((∃ s2, r = .inl s2 ∧ hp_lp b n s2 = some x) ∨ r = .inr x) := by
  unfold hp_lp at h
  obtain ⟨r, h1, h2⟩ := hp_bd h
  refine ⟨r, h1, ?_⟩
  cases r with
  | inl s2 => exact Or.inl ⟨s2, rfl, h2⟩
  | inr y => exact Or.inr (congrArg Sum.inr (Option.some.inj h2))
end

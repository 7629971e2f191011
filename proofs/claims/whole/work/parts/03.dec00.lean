theorem dX0_init_0 : decode cX0_init 0 = .ok (.aload_n 0, 1) := by decide +kernel
theorem dX0_init_1 : decode cX0_init 1 = .ok (.invokespecial 3, 3) := by decide +kernel
theorem dX0_init_4 : decode cX0_init 4 = .ok (.aload_n 0, 1) := by decide +kernel
theorem dX0_init_5 : decode cX0_init 5 = .ok (.new 9, 3) := by decide +kernel
theorem dX0_init_8 : decode cX0_init 8 = .ok (.dup, 1) := by decide +kernel
theorem dX0_init_9 : decode cX0_init 9 = .ok (.invokespecial 11, 3) := by decide +kernel
theorem dX0_init_12 : decode cX0_init 12 = .ok (.putfield 12, 3) := by decide +kernel
theorem dX0_init_15 : decode cX0_init 15 = .ok (.aload_n 0, 1) := by decide +kernel
theorem dX0_init_16 : decode cX0_init 16 = .ok (.aload_n 0, 1) := by decide +kernel
theorem dX0_init_17 : decode cX0_init 17 = .ok (.getfield 12, 3) := by decide +kernel
theorem dX0_init_20 : decode cX0_init 20 = .ok (.getfield 18, 3) := by decide +kernel
theorem dX0_init_23 : decode cX0_init 23 = .ok (.putfield 22, 3) := by decide +kernel
theorem dX0_init_26 : decode cX0_init 26 = .ok (.aload_n 0, 1) := by decide +kernel
theorem dX0_init_27 : decode cX0_init 27 = .ok (.sipush 300, 3) := by decide +kernel
theorem dX0_init_30 : decode cX0_init 30 = .ok (.newarray .byte, 2) := by decide +kernel
theorem dX0_init_32 : decode cX0_init 32 = .ok (.putfield 23, 3) := by decide +kernel
theorem dX0_init_35 : decode cX0_init 35 = .ok (.aload_n 0, 1) := by decide +kernel
theorem dX0_init_36 : decode cX0_init 36 = .ok (.sipush 200, 3) := by decide +kernel
theorem dX0_init_39 : decode cX0_init 39 = .ok (.newarray .int, 2) := by decide +kernel
theorem dX0_init_41 : decode cX0_init 41 = .ok (.putfield 26, 3) := by decide +kernel
theorem dX0_init_44 : decode cX0_init 44 = .ok (.aload_n 0, 1) := by decide +kernel
theorem dX0_init_45 : decode cX0_init 45 = .ok (.sipush 200, 3) := by decide +kernel
theorem dX0_init_48 : decode cX0_init 48 = .ok (.newarray .int, 2) := by decide +kernel
theorem dX0_init_50 : decode cX0_init 50 = .ok (.putfield 30, 3) := by decide +kernel
theorem dX0_init_53 : decode cX0_init 53 = .ok (.aload_n 0, 1) := by decide +kernel
theorem dX0_init_54 : decode cX0_init 54 = .ok (.sipush 200, 3) := by decide +kernel
theorem dX0_init_57 : decode cX0_init 57 = .ok (.newarray .int, 2) := by decide +kernel
theorem dX0_init_59 : decode cX0_init 59 = .ok (.putfield 33, 3) := by decide +kernel
theorem dX0_init_62 : decode cX0_init 62 = .ok (.aload_n 0, 1) := by decide +kernel
theorem dX0_init_63 : decode cX0_init 63 = .ok (.new 36, 3) := by decide +kernel
theorem dX0_init_66 : decode cX0_init 66 = .ok (.dup, 1) := by decide +kernel
theorem dX0_init_67 : decode cX0_init 67 = .ok (.sipush 200, 3) := by decide +kernel
theorem dX0_init_70 : decode cX0_init 70 = .ok (.invokespecial 38, 3) := by decide +kernel
theorem dX0_init_73 : decode cX0_init 73 = .ok (.putfield 41, 3) := by decide +kernel
theorem dX0_init_76 : decode cX0_init 76 = .ok (.aload_n 0, 1) := by decide +kernel
theorem dX0_init_77 : decode cX0_init 77 = .ok (.new 36, 3) := by decide +kernel
theorem dX0_init_80 : decode cX0_init 80 = .ok (.dup, 1) := by decide +kernel
theorem dX0_init_81 : decode cX0_init 81 = .ok (.sipush 200, 3) := by decide +kernel
theorem dX0_init_84 : decode cX0_init 84 = .ok (.invokespecial 38, 3) := by decide +kernel
theorem dX0_init_87 : decode cX0_init 87 = .ok (.putfield 45, 3) := by decide +kernel
theorem dX0_init_90 : decode cX0_init 90 = .ok (.aload_n 0, 1) := by decide +kernel
theorem dX0_init_91 : decode cX0_init 91 = .ok (.new 36, 3) := by decide +kernel
theorem dX0_init_94 : decode cX0_init 94 = .ok (.dup, 1) := by decide +kernel
theorem dX0_init_95 : decode cX0_init 95 = .ok (.sipush 200, 3) := by decide +kernel
theorem dX0_init_98 : decode cX0_init 98 = .ok (.invokespecial 38, 3) := by decide +kernel
theorem dX0_init_101 : decode cX0_init 101 = .ok (.putfield 48, 3) := by decide +kernel
theorem dX0_init_104 : decode cX0_init 104 = .ok (.aload_n 0, 1) := by decide +kernel
theorem dX0_init_105 : decode cX0_init 105 = .ok (.new 36, 3) := by decide +kernel
theorem dX0_init_108 : decode cX0_init 108 = .ok (.dup, 1) := by decide +kernel
theorem dX0_init_109 : decode cX0_init 109 = .ok (.sipush 200, 3) := by decide +kernel
theorem dX0_init_112 : decode cX0_init 112 = .ok (.invokespecial 38, 3) := by decide +kernel
theorem dX0_init_115 : decode cX0_init 115 = .ok (.putfield 51, 3) := by decide +kernel
theorem dX0_init_118 : decode cX0_init 118 = .ok (.aload_n 0, 1) := by decide +kernel
theorem dX0_init_119 : decode cX0_init 119 = .ok (.new 36, 3) := by decide +kernel
theorem dX0_init_122 : decode cX0_init 122 = .ok (.dup, 1) := by decide +kernel
theorem dX0_init_123 : decode cX0_init 123 = .ok (.sipush 200, 3) := by decide +kernel
theorem dX0_init_126 : decode cX0_init 126 = .ok (.invokespecial 38, 3) := by decide +kernel
theorem dX0_init_129 : decode cX0_init 129 = .ok (.putfield 54, 3) := by decide +kernel
theorem dX0_init_132 : decode cX0_init 132 = .ok (.aload_n 0, 1) := by decide +kernel
theorem dX0_init_133 : decode cX0_init 133 = .ok (.new 36, 3) := by decide +kernel
theorem dX0_init_136 : decode cX0_init 136 = .ok (.dup, 1) := by decide +kernel
theorem dX0_init_137 : decode cX0_init 137 = .ok (.sipush 200, 3) := by decide +kernel
theorem dX0_init_140 : decode cX0_init 140 = .ok (.invokespecial 38, 3) := by decide +kernel
theorem dX0_init_143 : decode cX0_init 143 = .ok (.putfield 57, 3) := by decide +kernel
theorem dX0_init_146 : decode cX0_init 146 = .ok (.aload_n 0, 1) := by decide +kernel
theorem dX0_init_147 : decode cX0_init 147 = .ok (.sipush 200, 3) := by decide +kernel
theorem dX0_init_150 : decode cX0_init 150 = .ok (.newarray .byte, 2) := by decide +kernel
theorem dX0_init_152 : decode cX0_init 152 = .ok (.putfield 60, 3) := by decide +kernel
theorem dX0_init_155 : decode cX0_init 155 = .ok (.aload_n 0, 1) := by decide +kernel
theorem dX0_init_156 : decode cX0_init 156 = .ok (.sipush 200, 3) := by decide +kernel
theorem dX0_init_159 : decode cX0_init 159 = .ok (.newarray .int, 2) := by decide +kernel
theorem dX0_init_161 : decode cX0_init 161 = .ok (.putfield 63, 3) := by decide +kernel
theorem dX0_init_164 : decode cX0_init 164 = .ok (.aload_n 0, 1) := by decide +kernel
theorem dX0_init_165 : decode cX0_init 165 = .ok (.sipush 800, 3) := by decide +kernel
theorem dX0_init_168 : decode cX0_init 168 = .ok (.newarray .long, 2) := by decide +kernel
theorem dX0_init_170 : decode cX0_init 170 = .ok (.putfield 66, 3) := by decide +kernel
theorem dX0_init_173 : decode cX0_init 173 = .ok (.return_, 1) := by decide +kernel
theorem dX0_clear_0 : decode cX0_clear 0 = .ok (.aload_n 0, 1) := by decide +kernel
theorem dX0_clear_1 : decode cX0_clear 1 = .ok (.getfield 12, 3) := by decide +kernel
theorem dX0_clear_4 : decode cX0_clear 4 = .ok (.invokevirtual 70, 3) := by decide +kernel
theorem dX0_clear_7 : decode cX0_clear 7 = .ok (.aload_n 0, 1) := by decide +kernel
theorem dX0_clear_8 : decode cX0_clear 8 = .ok (.iconst 0, 1) := by decide +kernel
theorem dX0_clear_9 : decode cX0_clear 9 = .ok (.putfield 73, 3) := by decide +kernel
theorem dX0_clear_12 : decode cX0_clear 12 = .ok (.aload_n 0, 1) := by decide +kernel
theorem dX0_clear_13 : decode cX0_clear 13 = .ok (.iconst 0, 1) := by decide +kernel
theorem dX0_clear_14 : decode cX0_clear 14 = .ok (.putfield 77, 3) := by decide +kernel
theorem dX0_clear_17 : decode cX0_clear 17 = .ok (.aload_n 0, 1) := by decide +kernel
theorem dX0_clear_18 : decode cX0_clear 18 = .ok (.getfield 41, 3) := by decide +kernel
theorem dX0_clear_21 : decode cX0_clear 21 = .ok (.invokevirtual 80, 3) := by decide +kernel
theorem dX0_clear_24 : decode cX0_clear 24 = .ok (.aload_n 0, 1) := by decide +kernel
theorem dX0_clear_25 : decode cX0_clear 25 = .ok (.getfield 45, 3) := by decide +kernel
theorem dX0_clear_28 : decode cX0_clear 28 = .ok (.invokevirtual 80, 3) := by decide +kernel
theorem dX0_clear_31 : decode cX0_clear 31 = .ok (.aload_n 0, 1) := by decide +kernel
theorem dX0_clear_32 : decode cX0_clear 32 = .ok (.getfield 48, 3) := by decide +kernel
theorem dX0_clear_35 : decode cX0_clear 35 = .ok (.invokevirtual 80, 3) := by decide +kernel
theorem dX0_clear_38 : decode cX0_clear 38 = .ok (.aload_n 0, 1) := by decide +kernel
theorem dX0_clear_39 : decode cX0_clear 39 = .ok (.getfield 51, 3) := by decide +kernel
theorem dX0_clear_42 : decode cX0_clear 42 = .ok (.invokevirtual 80, 3) := by decide +kernel
theorem dX0_clear_45 : decode cX0_clear 45 = .ok (.aload_n 0, 1) := by decide +kernel
theorem dX0_clear_46 : decode cX0_clear 46 = .ok (.getfield 54, 3) := by decide +kernel
theorem dX0_clear_49 : decode cX0_clear 49 = .ok (.invokevirtual 80, 3) := by decide +kernel
theorem dX0_clear_52 : decode cX0_clear 52 = .ok (.aload_n 0, 1) := by decide +kernel
theorem dX0_clear_53 : decode cX0_clear 53 = .ok (.getfield 57, 3) := by decide +kernel
theorem dX0_clear_56 : decode cX0_clear 56 = .ok (.invokevirtual 80, 3) := by decide +kernel
theorem dX0_clear_59 : decode cX0_clear 59 = .ok (.return_, 1) := by decide +kernel
theorem dX0_isStatement_0 : decode cX0_isStatement 0 = .ok (.iload_n 1, 1) := by decide +kernel
theorem dX0_isStatement_1 : decode cX0_isStatement 1 = .ok (.ifCond .lt 15, 3) := by decide +kernel
theorem dX0_isStatement_4 : decode cX0_isStatement 4 = .ok (.iload_n 1, 1) := by decide +kernel
theorem dX0_isStatement_5 : decode cX0_isStatement 5 = .ok (.aload_n 0, 1) := by decide +kernel
theorem dX0_isStatement_6 : decode cX0_isStatement 6 = .ok (.getfield 77, 3) := by decide +kernel
theorem dX0_isStatement_9 : decode cX0_isStatement 9 = .ok (.if_icmp .ge 7, 3) := by decide +kernel
theorem dX0_isStatement_12 : decode cX0_isStatement 12 = .ok (.iconst 1, 1) := by decide +kernel
theorem dX0_isStatement_13 : decode cX0_isStatement 13 = .ok (.goto 4, 3) := by decide +kernel
theorem dX0_isStatement_16 : decode cX0_isStatement 16 = .ok (.iconst 0, 1) := by decide +kernel
theorem dX0_isStatement_17 : decode cX0_isStatement 17 = .ok (.ireturn, 1) := by decide +kernel
theorem dX0_isAssertion_0 : decode cX0_isAssertion 0 = .ok (.aload_n 0, 1) := by decide +kernel
theorem dX0_isAssertion_1 : decode cX0_isAssertion 1 = .ok (.iload_n 1, 1) := by decide +kernel
theorem dX0_isAssertion_2 : decode cX0_isAssertion 2 = .ok (.invokevirtual 81, 3) := by decide +kernel
theorem dX0_isAssertion_5 : decode cX0_isAssertion 5 = .ok (.ifCond .eq 17, 3) := by decide +kernel
theorem dX0_isAssertion_8 : decode cX0_isAssertion 8 = .ok (.aload_n 0, 1) := by decide +kernel
theorem dX0_isAssertion_9 : decode cX0_isAssertion 9 = .ok (.getfield 26, 3) := by decide +kernel
theorem dX0_isAssertion_12 : decode cX0_isAssertion 12 = .ok (.iload_n 1, 1) := by decide +kernel
theorem dX0_isAssertion_13 : decode cX0_isAssertion 13 = .ok (.iaload, 1) := by decide +kernel
theorem dX0_isAssertion_14 : decode cX0_isAssertion 14 = .ok (.iconst 2, 1) := by decide +kernel
theorem dX0_isAssertion_15 : decode cX0_isAssertion 15 = .ok (.if_icmp .lt 7, 3) := by decide +kernel
theorem dX0_isAssertion_18 : decode cX0_isAssertion 18 = .ok (.iconst 1, 1) := by decide +kernel
theorem dX0_isAssertion_19 : decode cX0_isAssertion 19 = .ok (.goto 4, 3) := by decide +kernel
theorem dX0_isAssertion_22 : decode cX0_isAssertion 22 = .ok (.iconst 0, 1) := by decide +kernel
theorem dX0_isAssertion_23 : decode cX0_isAssertion 23 = .ok (.ireturn, 1) := by decide +kernel
theorem dX0_isProvable_0 : decode cX0_isProvable 0 = .ok (.aload_n 0, 1) := by decide +kernel
theorem dX0_isProvable_1 : decode cX0_isProvable 1 = .ok (.iload_n 1, 1) := by decide +kernel
theorem dX0_isProvable_2 : decode cX0_isProvable 2 = .ok (.invokevirtual 81, 3) := by decide +kernel
theorem dX0_isProvable_5 : decode cX0_isProvable 5 = .ok (.ifCond .eq 17, 3) := by decide +kernel
theorem dX0_isProvable_8 : decode cX0_isProvable 8 = .ok (.aload_n 0, 1) := by decide +kernel
theorem dX0_isProvable_9 : decode cX0_isProvable 9 = .ok (.getfield 26, 3) := by decide +kernel
theorem dX0_isProvable_12 : decode cX0_isProvable 12 = .ok (.iload_n 1, 1) := by decide +kernel
theorem dX0_isProvable_13 : decode cX0_isProvable 13 = .ok (.iaload, 1) := by decide +kernel
theorem dX0_isProvable_14 : decode cX0_isProvable 14 = .ok (.iconst 3, 1) := by decide +kernel
theorem dX0_isProvable_15 : decode cX0_isProvable 15 = .ok (.if_icmp .ne 7, 3) := by decide +kernel
theorem dX0_isProvable_18 : decode cX0_isProvable 18 = .ok (.iconst 1, 1) := by decide +kernel
theorem dX0_isProvable_19 : decode cX0_isProvable 19 = .ok (.goto 4, 3) := by decide +kernel
theorem dX0_isProvable_22 : decode cX0_isProvable 22 = .ok (.iconst 0, 1) := by decide +kernel
theorem dX0_isProvable_23 : decode cX0_isProvable 23 = .ok (.ireturn, 1) := by decide +kernel
theorem dX0_isVariable_0 : decode cX0_isVariable 0 = .ok (.iload_n 1, 1) := by decide +kernel
theorem dX0_isVariable_1 : decode cX0_isVariable 1 = .ok (.ifCond .lt 24, 3) := by decide +kernel
theorem dX0_isVariable_4 : decode cX0_isVariable 4 = .ok (.iload_n 1, 1) := by decide +kernel
theorem dX0_isVariable_5 : decode cX0_isVariable 5 = .ok (.aload_n 0, 1) := by decide +kernel
theorem dX0_isVariable_6 : decode cX0_isVariable 6 = .ok (.getfield 73, 3) := by decide +kernel
theorem dX0_isVariable_9 : decode cX0_isVariable 9 = .ok (.if_icmp .ge 16, 3) := by decide +kernel
theorem dX0_isVariable_12 : decode cX0_isVariable 12 = .ok (.aload_n 0, 1) := by decide +kernel
theorem dX0_isVariable_13 : decode cX0_isVariable 13 = .ok (.getfield 23, 3) := by decide +kernel
theorem dX0_isVariable_16 : decode cX0_isVariable 16 = .ok (.iload_n 1, 1) := by decide +kernel
theorem dX0_isVariable_17 : decode cX0_isVariable 17 = .ok (.baload, 1) := by decide +kernel
theorem dX0_isVariable_18 : decode cX0_isVariable 18 = .ok (.ifCond .eq 7, 3) := by decide +kernel
theorem dX0_isVariable_21 : decode cX0_isVariable 21 = .ok (.iconst 1, 1) := by decide +kernel
theorem dX0_isVariable_22 : decode cX0_isVariable 22 = .ok (.goto 4, 3) := by decide +kernel
theorem dX0_isVariable_25 : decode cX0_isVariable 25 = .ok (.iconst 0, 1) := by decide +kernel
theorem dX0_isVariable_26 : decode cX0_isVariable 26 = .ok (.ireturn, 1) := by decide +kernel
theorem dX0_isConstant_0 : decode cX0_isConstant 0 = .ok (.iload_n 1, 1) := by decide +kernel
theorem dX0_isConstant_1 : decode cX0_isConstant 1 = .ok (.ifCond .lt 24, 3) := by decide +kernel
theorem dX0_isConstant_4 : decode cX0_isConstant 4 = .ok (.iload_n 1, 1) := by decide +kernel
theorem dX0_isConstant_5 : decode cX0_isConstant 5 = .ok (.aload_n 0, 1) := by decide +kernel
theorem dX0_isConstant_6 : decode cX0_isConstant 6 = .ok (.getfield 73, 3) := by decide +kernel
theorem dX0_isConstant_9 : decode cX0_isConstant 9 = .ok (.if_icmp .ge 16, 3) := by decide +kernel
theorem dX0_isConstant_12 : decode cX0_isConstant 12 = .ok (.aload_n 0, 1) := by decide +kernel
theorem dX0_isConstant_13 : decode cX0_isConstant 13 = .ok (.getfield 23, 3) := by decide +kernel
theorem dX0_isConstant_16 : decode cX0_isConstant 16 = .ok (.iload_n 1, 1) := by decide +kernel
theorem dX0_isConstant_17 : decode cX0_isConstant 17 = .ok (.baload, 1) := by decide +kernel
theorem dX0_isConstant_18 : decode cX0_isConstant 18 = .ok (.ifCond .ne 7, 3) := by decide +kernel
theorem dX0_isConstant_21 : decode cX0_isConstant 21 = .ok (.iconst 1, 1) := by decide +kernel
theorem dX0_isConstant_22 : decode cX0_isConstant 22 = .ok (.goto 4, 3) := by decide +kernel
theorem dX0_isConstant_25 : decode cX0_isConstant 25 = .ok (.iconst 0, 1) := by decide +kernel
theorem dX0_isConstant_26 : decode cX0_isConstant 26 = .ok (.ireturn, 1) := by decide +kernel
theorem dX0_addSymbol_0 : decode cX0_addSymbol 0 = .ok (.aload_n 0, 1) := by decide +kernel
theorem dX0_addSymbol_1 : decode cX0_addSymbol 1 = .ok (.getfield 73, 3) := by decide +kernel
theorem dX0_addSymbol_4 : decode cX0_addSymbol 4 = .ok (.istore 4, 2) := by decide +kernel
theorem dX0_addSymbol_6 : decode cX0_addSymbol 6 = .ok (.aload_n 0, 1) := by decide +kernel
theorem dX0_addSymbol_7 : decode cX0_addSymbol 7 = .ok (.getfield 12, 3) := by decide +kernel
theorem dX0_addSymbol_10 : decode cX0_addSymbol 10 = .ok (.iload 4, 2) := by decide +kernel
theorem dX0_addSymbol_12 : decode cX0_addSymbol 12 = .ok (.iload_n 2, 1) := by decide +kernel
theorem dX0_addSymbol_13 : decode cX0_addSymbol 13 = .ok (.iload_n 3, 1) := by decide +kernel
theorem dX0_addSymbol_14 : decode cX0_addSymbol 14 = .ok (.invokevirtual 85, 3) := by decide +kernel
theorem dX0_addSymbol_17 : decode cX0_addSymbol 17 = .ok (.aload_n 0, 1) := by decide +kernel
theorem dX0_addSymbol_18 : decode cX0_addSymbol 18 = .ok (.getfield 23, 3) := by decide +kernel
theorem dX0_addSymbol_21 : decode cX0_addSymbol 21 = .ok (.iload 4, 2) := by decide +kernel
theorem dX0_addSymbol_23 : decode cX0_addSymbol 23 = .ok (.iload_n 1, 1) := by decide +kernel
theorem dX0_addSymbol_24 : decode cX0_addSymbol 24 = .ok (.ifCond .eq 7, 3) := by decide +kernel
theorem dX0_addSymbol_27 : decode cX0_addSymbol 27 = .ok (.iconst 1, 1) := by decide +kernel
theorem dX0_addSymbol_28 : decode cX0_addSymbol 28 = .ok (.goto 4, 3) := by decide +kernel
theorem dX0_addSymbol_31 : decode cX0_addSymbol 31 = .ok (.iconst 0, 1) := by decide +kernel
theorem dX0_addSymbol_32 : decode cX0_addSymbol 32 = .ok (.i2b, 1) := by decide +kernel
theorem dX0_addSymbol_33 : decode cX0_addSymbol 33 = .ok (.bastore, 1) := by decide +kernel
theorem dX0_addSymbol_34 : decode cX0_addSymbol 34 = .ok (.aload_n 0, 1) := by decide +kernel
theorem dX0_addSymbol_35 : decode cX0_addSymbol 35 = .ok (.dup, 1) := by decide +kernel
theorem dX0_addSymbol_36 : decode cX0_addSymbol 36 = .ok (.getfield 73, 3) := by decide +kernel
theorem dX0_addSymbol_39 : decode cX0_addSymbol 39 = .ok (.iconst 1, 1) := by decide +kernel
theorem dX0_addSymbol_40 : decode cX0_addSymbol 40 = .ok (.iadd, 1) := by decide +kernel
theorem dX0_addSymbol_41 : decode cX0_addSymbol 41 = .ok (.putfield 73, 3) := by decide +kernel
theorem dX0_addSymbol_44 : decode cX0_addSymbol 44 = .ok (.iload 4, 2) := by decide +kernel
theorem dX0_addSymbol_46 : decode cX0_addSymbol 46 = .ok (.ireturn, 1) := by decide +kernel
theorem dX0_isJust_0 : decode cX0_isJust 0 = .ok (.aload_n 0, 1) := by decide +kernel
theorem dX0_isJust_1 : decode cX0_isJust 1 = .ok (.getfield 45, 3) := by decide +kernel
theorem dX0_isJust_4 : decode cX0_isJust 4 = .ok (.iload_n 1, 1) := by decide +kernel
theorem dX0_isJust_5 : decode cX0_isJust 5 = .ok (.iload_n 2, 1) := by decide +kernel
theorem dX0_isJust_6 : decode cX0_isJust 6 = .ok (.invokevirtual 89, 3) := by decide +kernel
theorem dX0_isJust_9 : decode cX0_isJust 9 = .ok (.istore 4, 2) := by decide +kernel
theorem dX0_isJust_11 : decode cX0_isJust 11 = .ok (.iload 4, 2) := by decide +kernel
theorem dX0_isJust_13 : decode cX0_isJust 13 = .ok (.ifCond .lt 29, 3) := by decide +kernel
theorem dX0_isJust_16 : decode cX0_isJust 16 = .ok (.aload_n 0, 1) := by decide +kernel
theorem dX0_isJust_17 : decode cX0_isJust 17 = .ok (.getfield 22, 3) := by decide +kernel
theorem dX0_isJust_20 : decode cX0_isJust 20 = .ok (.iload 4, 2) := by decide +kernel
theorem dX0_isJust_22 : decode cX0_isJust 22 = .ok (.baload, 1) := by decide +kernel
theorem dX0_isJust_23 : decode cX0_isJust 23 = .ok (.iload_n 3, 1) := by decide +kernel
theorem dX0_isJust_24 : decode cX0_isJust 24 = .ok (.if_icmp .ne 18, 3) := by decide +kernel
theorem dX0_isJust_27 : decode cX0_isJust 27 = .ok (.aload_n 0, 1) := by decide +kernel
theorem dX0_isJust_28 : decode cX0_isJust 28 = .ok (.iload 4, 2) := by decide +kernel
theorem dX0_isJust_30 : decode cX0_isJust 30 = .ok (.iconst 1, 1) := by decide +kernel
theorem dX0_isJust_31 : decode cX0_isJust 31 = .ok (.iadd, 1) := by decide +kernel
theorem dX0_isJust_32 : decode cX0_isJust 32 = .ok (.invokevirtual 93, 3) := by decide +kernel
theorem dX0_isJust_35 : decode cX0_isJust 35 = .ok (.ifCond .ne 7, 3) := by decide +kernel
theorem dX0_isJust_38 : decode cX0_isJust 38 = .ok (.iconst 1, 1) := by decide +kernel
theorem dX0_isJust_39 : decode cX0_isJust 39 = .ok (.goto 4, 3) := by decide +kernel
theorem dX0_isJust_42 : decode cX0_isJust 42 = .ok (.iconst 0, 1) := by decide +kernel
theorem dX0_isJust_43 : decode cX0_isJust 43 = .ok (.ireturn, 1) := by decide +kernel
theorem dX0_isInToken_0 : decode cX0_isInToken 0 = .ok (.iload_n 1, 1) := by decide +kernel
theorem dX0_isInToken_1 : decode cX0_isInToken 1 = .ok (.aload_n 0, 1) := by decide +kernel
theorem dX0_isInToken_2 : decode cX0_isInToken 2 = .ok (.getfield 96, 3) := by decide +kernel
theorem dX0_isInToken_5 : decode cX0_isInToken 5 = .ok (.if_icmp .ge 18, 3) := by decide +kernel
theorem dX0_isInToken_8 : decode cX0_isInToken 8 = .ok (.aload_n 0, 1) := by decide +kernel
theorem dX0_isInToken_9 : decode cX0_isInToken 9 = .ok (.getfield 22, 3) := by decide +kernel
theorem dX0_isInToken_12 : decode cX0_isInToken 12 = .ok (.iload_n 1, 1) := by decide +kernel
theorem dX0_isInToken_13 : decode cX0_isInToken 13 = .ok (.baload, 1) := by decide +kernel
theorem dX0_isInToken_14 : decode cX0_isInToken 14 = .ok (.bipush 32, 2) := by decide +kernel
theorem dX0_isInToken_16 : decode cX0_isInToken 16 = .ok (.if_icmp .le 7, 3) := by decide +kernel
theorem dX0_isInToken_19 : decode cX0_isInToken 19 = .ok (.iconst 1, 1) := by decide +kernel
theorem dX0_isInToken_20 : decode cX0_isInToken 20 = .ok (.goto 4, 3) := by decide +kernel
theorem dX0_isInToken_23 : decode cX0_isInToken 23 = .ok (.iconst 0, 1) := by decide +kernel
theorem dX0_isInToken_24 : decode cX0_isInToken 24 = .ok (.ireturn, 1) := by decide +kernel
theorem dX0_noteForm_0 : decode cX0_noteForm 0 = .ok (.aload_n 0, 1) := by decide +kernel
theorem dX0_noteForm_1 : decode cX0_noteForm 1 = .ok (.getfield 45, 3) := by decide +kernel
theorem dX0_noteForm_4 : decode cX0_noteForm 4 = .ok (.iload_n 1, 1) := by decide +kernel
theorem dX0_noteForm_5 : decode cX0_noteForm 5 = .ok (.invokevirtual 99, 3) := by decide +kernel
theorem dX0_noteForm_8 : decode cX0_noteForm 8 = .ok (.istore_n 2, 1) := by decide +kernel
theorem dX0_noteForm_9 : decode cX0_noteForm 9 = .ok (.aload_n 0, 1) := by decide +kernel
theorem dX0_noteForm_10 : decode cX0_noteForm 10 = .ok (.getfield 60, 3) := by decide +kernel
theorem dX0_noteForm_13 : decode cX0_noteForm 13 = .ok (.iload_n 1, 1) := by decide +kernel
theorem dX0_noteForm_14 : decode cX0_noteForm 14 = .ok (.aload_n 0, 1) := by decide +kernel
theorem dX0_noteForm_15 : decode cX0_noteForm 15 = .ok (.iload_n 1, 1) := by decide +kernel
theorem dX0_noteForm_16 : decode cX0_noteForm 16 = .ok (.iconst 0, 1) := by decide +kernel
theorem dX0_noteForm_17 : decode cX0_noteForm 17 = .ok (.bipush 40, 2) := by decide +kernel
theorem dX0_noteForm_19 : decode cX0_noteForm 19 = .ok (.invokevirtual 103, 3) := by decide +kernel
theorem dX0_noteForm_22 : decode cX0_noteForm 22 = .ok (.ifCond .eq 7, 3) := by decide +kernel
theorem dX0_noteForm_25 : decode cX0_noteForm 25 = .ok (.iconst 1, 1) := by decide +kernel
theorem dX0_noteForm_26 : decode cX0_noteForm 26 = .ok (.goto 4, 3) := by decide +kernel
theorem dX0_noteForm_29 : decode cX0_noteForm 29 = .ok (.iconst 0, 1) := by decide +kernel
theorem dX0_noteForm_30 : decode cX0_noteForm 30 = .ok (.i2b, 1) := by decide +kernel
theorem dX0_noteForm_31 : decode cX0_noteForm 31 = .ok (.bastore, 1) := by decide +kernel
theorem dX0_noteForm_32 : decode cX0_noteForm 32 = .ok (.aload_n 0, 1) := by decide +kernel
theorem dX0_noteForm_33 : decode cX0_noteForm 33 = .ok (.getfield 63, 3) := by decide +kernel
theorem dX0_noteForm_36 : decode cX0_noteForm 36 = .ok (.iload_n 1, 1) := by decide +kernel
theorem dX0_noteForm_37 : decode cX0_noteForm 37 = .ok (.iload_n 2, 1) := by decide +kernel
theorem dX0_noteForm_38 : decode cX0_noteForm 38 = .ok (.iastore, 1) := by decide +kernel
theorem dX0_noteForm_39 : decode cX0_noteForm 39 = .ok (.iload_n 2, 1) := by decide +kernel
theorem dX0_noteForm_40 : decode cX0_noteForm 40 = .ok (.iconst 1, 1) := by decide +kernel
theorem dX0_noteForm_41 : decode cX0_noteForm 41 = .ok (.isub, 1) := by decide +kernel
theorem dX0_noteForm_42 : decode cX0_noteForm 42 = .ok (.istore_n 3, 1) := by decide +kernel
theorem dX0_noteForm_43 : decode cX0_noteForm 43 = .ok (.iload_n 3, 1) := by decide +kernel
theorem dX0_noteForm_44 : decode cX0_noteForm 44 = .ok (.ifCond .le 36, 3) := by decide +kernel
theorem dX0_noteForm_47 : decode cX0_noteForm 47 = .ok (.aload_n 0, 1) := by decide +kernel
theorem dX0_noteForm_48 : decode cX0_noteForm 48 = .ok (.getfield 60, 3) := by decide +kernel
theorem dX0_noteForm_51 : decode cX0_noteForm 51 = .ok (.iload_n 1, 1) := by decide +kernel
theorem dX0_noteForm_52 : decode cX0_noteForm 52 = .ok (.baload, 1) := by decide +kernel
theorem dX0_noteForm_53 : decode cX0_noteForm 53 = .ok (.ifCond .eq 27, 3) := by decide +kernel
theorem dX0_noteForm_56 : decode cX0_noteForm 56 = .ok (.aload_n 0, 1) := by decide +kernel
theorem dX0_noteForm_57 : decode cX0_noteForm 57 = .ok (.iload_n 1, 1) := by decide +kernel
theorem dX0_noteForm_58 : decode cX0_noteForm 58 = .ok (.iload_n 3, 1) := by decide +kernel
theorem dX0_noteForm_59 : decode cX0_noteForm 59 = .ok (.bipush 41, 2) := by decide +kernel
theorem dX0_noteForm_61 : decode cX0_noteForm 61 = .ok (.invokevirtual 103, 3) := by decide +kernel
theorem dX0_noteForm_64 : decode cX0_noteForm 64 = .ok (.ifCond .eq 10, 3) := by decide +kernel
theorem dX0_noteForm_67 : decode cX0_noteForm 67 = .ok (.aload_n 0, 1) := by decide +kernel
theorem dX0_noteForm_68 : decode cX0_noteForm 68 = .ok (.getfield 63, 3) := by decide +kernel
theorem dX0_noteForm_71 : decode cX0_noteForm 71 = .ok (.iload_n 1, 1) := by decide +kernel
theorem dX0_noteForm_72 : decode cX0_noteForm 72 = .ok (.iload_n 3, 1) := by decide +kernel
theorem dX0_noteForm_73 : decode cX0_noteForm 73 = .ok (.iastore, 1) := by decide +kernel
theorem dX0_noteForm_74 : decode cX0_noteForm 74 = .ok (.iinc 3 (-1), 3) := by decide +kernel
theorem dX0_noteForm_77 : decode cX0_noteForm 77 = .ok (.goto (-34), 3) := by decide +kernel
theorem dX0_noteForm_80 : decode cX0_noteForm 80 = .ok (.return_, 1) := by decide +kernel
theorem dX0_noteAxioms_0 : decode cX0_noteAxioms 0 = .ok (.iload_n 1, 1) := by decide +kernel
theorem dX0_noteAxioms_1 : decode cX0_noteAxioms 1 = .ok (.iconst 4, 1) := by decide +kernel
theorem dX0_noteAxioms_2 : decode cX0_noteAxioms 2 = .ok (.imul, 1) := by decide +kernel
theorem dX0_noteAxioms_3 : decode cX0_noteAxioms 3 = .ok (.istore_n 2, 1) := by decide +kernel
theorem dX0_noteAxioms_4 : decode cX0_noteAxioms 4 = .ok (.iconst 0, 1) := by decide +kernel
theorem dX0_noteAxioms_5 : decode cX0_noteAxioms 5 = .ok (.istore_n 3, 1) := by decide +kernel
theorem dX0_noteAxioms_6 : decode cX0_noteAxioms 6 = .ok (.iload_n 3, 1) := by decide +kernel
theorem dX0_noteAxioms_7 : decode cX0_noteAxioms 7 = .ok (.iconst 4, 1) := by decide +kernel
theorem dX0_noteAxioms_8 : decode cX0_noteAxioms 8 = .ok (.if_icmp .ge 18, 3) := by decide +kernel
theorem dX0_noteAxioms_11 : decode cX0_noteAxioms 11 = .ok (.aload_n 0, 1) := by decide +kernel
theorem dX0_noteAxioms_12 : decode cX0_noteAxioms 12 = .ok (.getfield 66, 3) := by decide +kernel
theorem dX0_noteAxioms_15 : decode cX0_noteAxioms 15 = .ok (.iload_n 2, 1) := by decide +kernel
theorem dX0_noteAxioms_16 : decode cX0_noteAxioms 16 = .ok (.iload_n 3, 1) := by decide +kernel
theorem dX0_noteAxioms_17 : decode cX0_noteAxioms 17 = .ok (.iadd, 1) := by decide +kernel
theorem dX0_noteAxioms_18 : decode cX0_noteAxioms 18 = .ok (.lconst 0, 1) := by decide +kernel
theorem dX0_noteAxioms_19 : decode cX0_noteAxioms 19 = .ok (.lastore, 1) := by decide +kernel
theorem dX0_noteAxioms_20 : decode cX0_noteAxioms 20 = .ok (.iinc 3 1, 3) := by decide +kernel
theorem dX0_noteAxioms_23 : decode cX0_noteAxioms 23 = .ok (.goto (-17), 3) := by decide +kernel
theorem dX0_noteAxioms_26 : decode cX0_noteAxioms 26 = .ok (.iconst 0, 1) := by decide +kernel
theorem dX0_noteAxioms_27 : decode cX0_noteAxioms 27 = .ok (.istore_n 3, 1) := by decide +kernel
theorem dX0_noteAxioms_28 : decode cX0_noteAxioms 28 = .ok (.iload_n 3, 1) := by decide +kernel
theorem dX0_noteAxioms_29 : decode cX0_noteAxioms 29 = .ok (.aload_n 0, 1) := by decide +kernel
theorem dX0_noteAxioms_30 : decode cX0_noteAxioms 30 = .ok (.getfield 63, 3) := by decide +kernel
theorem dX0_noteAxioms_33 : decode cX0_noteAxioms 33 = .ok (.iload_n 1, 1) := by decide +kernel
theorem dX0_noteAxioms_34 : decode cX0_noteAxioms 34 = .ok (.iaload, 1) := by decide +kernel
theorem dX0_noteAxioms_35 : decode cX0_noteAxioms 35 = .ok (.if_icmp .ge 116, 3) := by decide +kernel
theorem dX0_noteAxioms_38 : decode cX0_noteAxioms 38 = .ok (.aload_n 0, 1) := by decide +kernel
theorem dX0_noteAxioms_39 : decode cX0_noteAxioms 39 = .ok (.getfield 48, 3) := by decide +kernel
theorem dX0_noteAxioms_42 : decode cX0_noteAxioms 42 = .ok (.iload_n 1, 1) := by decide +kernel
theorem dX0_noteAxioms_43 : decode cX0_noteAxioms 43 = .ok (.iload_n 3, 1) := by decide +kernel
theorem dX0_noteAxioms_44 : decode cX0_noteAxioms 44 = .ok (.invokevirtual 89, 3) := by decide +kernel
theorem dX0_noteAxioms_47 : decode cX0_noteAxioms 47 = .ok (.istore 4, 2) := by decide +kernel
theorem dX0_noteAxioms_49 : decode cX0_noteAxioms 49 = .ok (.iload 4, 2) := by decide +kernel
theorem dX0_noteAxioms_51 : decode cX0_noteAxioms 51 = .ok (.ifCond .lt 39, 3) := by decide +kernel
theorem dX0_noteAxioms_54 : decode cX0_noteAxioms 54 = .ok (.aload_n 0, 1) := by decide +kernel
theorem dX0_noteAxioms_55 : decode cX0_noteAxioms 55 = .ok (.getfield 26, 3) := by decide +kernel
theorem dX0_noteAxioms_58 : decode cX0_noteAxioms 58 = .ok (.iload 4, 2) := by decide +kernel
theorem dX0_noteAxioms_60 : decode cX0_noteAxioms 60 = .ok (.iaload, 1) := by decide +kernel
theorem dX0_noteAxioms_61 : decode cX0_noteAxioms 61 = .ok (.iconst 2, 1) := by decide +kernel
theorem dX0_noteAxioms_62 : decode cX0_noteAxioms 62 = .ok (.if_icmp .ne 28, 3) := by decide +kernel
theorem dX0_noteAxioms_65 : decode cX0_noteAxioms 65 = .ok (.aload_n 0, 1) := by decide +kernel
theorem dX0_noteAxioms_66 : decode cX0_noteAxioms 66 = .ok (.getfield 66, 3) := by decide +kernel
theorem dX0_noteAxioms_69 : decode cX0_noteAxioms 69 = .ok (.iload_n 2, 1) := by decide +kernel
theorem dX0_noteAxioms_70 : decode cX0_noteAxioms 70 = .ok (.iload 4, 2) := by decide +kernel
theorem dX0_noteAxioms_72 : decode cX0_noteAxioms 72 = .ok (.bipush 64, 2) := by decide +kernel
theorem dX0_noteAxioms_74 : decode cX0_noteAxioms 74 = .ok (.idiv, 1) := by decide +kernel
theorem dX0_noteAxioms_75 : decode cX0_noteAxioms 75 = .ok (.iadd, 1) := by decide +kernel
theorem dX0_noteAxioms_76 : decode cX0_noteAxioms 76 = .ok (.dup2, 1) := by decide +kernel
theorem dX0_noteAxioms_77 : decode cX0_noteAxioms 77 = .ok (.laload, 1) := by decide +kernel
theorem dX0_noteAxioms_78 : decode cX0_noteAxioms 78 = .ok (.lconst 1, 1) := by decide +kernel
theorem dX0_noteAxioms_79 : decode cX0_noteAxioms 79 = .ok (.iload 4, 2) := by decide +kernel
theorem dX0_noteAxioms_81 : decode cX0_noteAxioms 81 = .ok (.bipush 64, 2) := by decide +kernel
theorem dX0_noteAxioms_83 : decode cX0_noteAxioms 83 = .ok (.irem, 1) := by decide +kernel
theorem dX0_noteAxioms_84 : decode cX0_noteAxioms 84 = .ok (.lshl, 1) := by decide +kernel
theorem dX0_noteAxioms_85 : decode cX0_noteAxioms 85 = .ok (.lor, 1) := by decide +kernel
theorem dX0_noteAxioms_86 : decode cX0_noteAxioms 86 = .ok (.lastore, 1) := by decide +kernel
theorem dX0_noteAxioms_87 : decode cX0_noteAxioms 87 = .ok (.goto 58, 3) := by decide +kernel
theorem dX0_noteAxioms_90 : decode cX0_noteAxioms 90 = .ok (.iload 4, 2) := by decide +kernel
theorem dX0_noteAxioms_92 : decode cX0_noteAxioms 92 = .ok (.ifCond .lt 53, 3) := by decide +kernel
theorem dX0_noteAxioms_95 : decode cX0_noteAxioms 95 = .ok (.aload_n 0, 1) := by decide +kernel
theorem dX0_noteAxioms_96 : decode cX0_noteAxioms 96 = .ok (.getfield 26, 3) := by decide +kernel
theorem dX0_noteAxioms_99 : decode cX0_noteAxioms 99 = .ok (.iload 4, 2) := by decide +kernel
theorem dX0_noteAxioms_101 : decode cX0_noteAxioms 101 = .ok (.iaload, 1) := by decide +kernel
theorem dX0_noteAxioms_102 : decode cX0_noteAxioms 102 = .ok (.iconst 3, 1) := by decide +kernel
theorem dX0_noteAxioms_103 : decode cX0_noteAxioms 103 = .ok (.if_icmp .ne 42, 3) := by decide +kernel
theorem dX0_noteAxioms_106 : decode cX0_noteAxioms 106 = .ok (.iconst 0, 1) := by decide +kernel
theorem dX0_noteAxioms_107 : decode cX0_noteAxioms 107 = .ok (.istore 5, 2) := by decide +kernel
theorem dX0_noteAxioms_109 : decode cX0_noteAxioms 109 = .ok (.iload 5, 2) := by decide +kernel
theorem dX0_noteAxioms_111 : decode cX0_noteAxioms 111 = .ok (.iconst 4, 1) := by decide +kernel
theorem dX0_noteAxioms_112 : decode cX0_noteAxioms 112 = .ok (.if_icmp .ge 33, 3) := by decide +kernel
theorem dX0_noteAxioms_115 : decode cX0_noteAxioms 115 = .ok (.aload_n 0, 1) := by decide +kernel
theorem dX0_noteAxioms_116 : decode cX0_noteAxioms 116 = .ok (.getfield 66, 3) := by decide +kernel
theorem dX0_noteAxioms_119 : decode cX0_noteAxioms 119 = .ok (.iload_n 2, 1) := by decide +kernel
theorem dX0_noteAxioms_120 : decode cX0_noteAxioms 120 = .ok (.iload 5, 2) := by decide +kernel
theorem dX0_noteAxioms_122 : decode cX0_noteAxioms 122 = .ok (.iadd, 1) := by decide +kernel
theorem dX0_noteAxioms_123 : decode cX0_noteAxioms 123 = .ok (.dup2, 1) := by decide +kernel
theorem dX0_noteAxioms_124 : decode cX0_noteAxioms 124 = .ok (.laload, 1) := by decide +kernel
theorem dX0_noteAxioms_125 : decode cX0_noteAxioms 125 = .ok (.aload_n 0, 1) := by decide +kernel
theorem dX0_noteAxioms_126 : decode cX0_noteAxioms 126 = .ok (.getfield 66, 3) := by decide +kernel
theorem dX0_noteAxioms_129 : decode cX0_noteAxioms 129 = .ok (.iload 4, 2) := by decide +kernel
theorem dX0_noteAxioms_131 : decode cX0_noteAxioms 131 = .ok (.iconst 4, 1) := by decide +kernel
theorem dX0_noteAxioms_132 : decode cX0_noteAxioms 132 = .ok (.imul, 1) := by decide +kernel
theorem dX0_noteAxioms_133 : decode cX0_noteAxioms 133 = .ok (.iload 5, 2) := by decide +kernel
theorem dX0_noteAxioms_135 : decode cX0_noteAxioms 135 = .ok (.iadd, 1) := by decide +kernel
theorem dX0_noteAxioms_136 : decode cX0_noteAxioms 136 = .ok (.laload, 1) := by decide +kernel
theorem dX0_noteAxioms_137 : decode cX0_noteAxioms 137 = .ok (.lor, 1) := by decide +kernel
theorem dX0_noteAxioms_138 : decode cX0_noteAxioms 138 = .ok (.lastore, 1) := by decide +kernel
theorem dX0_noteAxioms_139 : decode cX0_noteAxioms 139 = .ok (.iinc 5 1, 3) := by decide +kernel
theorem dX0_noteAxioms_142 : decode cX0_noteAxioms 142 = .ok (.goto (-33), 3) := by decide +kernel
theorem dX0_noteAxioms_145 : decode cX0_noteAxioms 145 = .ok (.iinc 3 1, 3) := by decide +kernel
theorem dX0_noteAxioms_148 : decode cX0_noteAxioms 148 = .ok (.goto (-120), 3) := by decide +kernel
theorem dX0_noteAxioms_151 : decode cX0_noteAxioms 151 = .ok (.return_, 1) := by decide +kernel
theorem dX0_axiomUnder_0 : decode cX0_axiomUnder 0 = .ok (.iload_n 2, 1) := by decide +kernel
theorem dX0_axiomUnder_1 : decode cX0_axiomUnder 1 = .ok (.istore_n 3, 1) := by decide +kernel
theorem dX0_axiomUnder_2 : decode cX0_axiomUnder 2 = .ok (.iconst 0, 1) := by decide +kernel
theorem dX0_axiomUnder_3 : decode cX0_axiomUnder 3 = .ok (.istore 4, 2) := by decide +kernel
theorem dX0_axiomUnder_5 : decode cX0_axiomUnder 5 = .ok (.iload 4, 2) := by decide +kernel
theorem dX0_axiomUnder_7 : decode cX0_axiomUnder 7 = .ok (.iload_n 1, 1) := by decide +kernel
theorem dX0_axiomUnder_8 : decode cX0_axiomUnder 8 = .ok (.if_icmp .ge 54, 3) := by decide +kernel
theorem dX0_axiomUnder_11 : decode cX0_axiomUnder 11 = .ok (.iload_n 3, 1) := by decide +kernel
theorem dX0_axiomUnder_12 : decode cX0_axiomUnder 12 = .ok (.ifCond .lt 50, 3) := by decide +kernel
theorem dX0_axiomUnder_15 : decode cX0_axiomUnder 15 = .ok (.aload_n 0, 1) := by decide +kernel
theorem dX0_axiomUnder_16 : decode cX0_axiomUnder 16 = .ok (.getfield 66, 3) := by decide +kernel
theorem dX0_axiomUnder_19 : decode cX0_axiomUnder 19 = .ok (.iload_n 1, 1) := by decide +kernel
theorem dX0_axiomUnder_20 : decode cX0_axiomUnder 20 = .ok (.iconst 4, 1) := by decide +kernel
theorem dX0_axiomUnder_21 : decode cX0_axiomUnder 21 = .ok (.imul, 1) := by decide +kernel
theorem dX0_axiomUnder_22 : decode cX0_axiomUnder 22 = .ok (.iload 4, 2) := by decide +kernel
theorem dX0_axiomUnder_24 : decode cX0_axiomUnder 24 = .ok (.bipush 64, 2) := by decide +kernel
theorem dX0_axiomUnder_26 : decode cX0_axiomUnder 26 = .ok (.idiv, 1) := by decide +kernel
theorem dX0_axiomUnder_27 : decode cX0_axiomUnder 27 = .ok (.iadd, 1) := by decide +kernel
theorem dX0_axiomUnder_28 : decode cX0_axiomUnder 28 = .ok (.laload, 1) := by decide +kernel
theorem dX0_axiomUnder_29 : decode cX0_axiomUnder 29 = .ok (.lstore 5, 2) := by decide +kernel
theorem dX0_axiomUnder_31 : decode cX0_axiomUnder 31 = .ok (.lload 5, 2) := by decide +kernel
theorem dX0_axiomUnder_33 : decode cX0_axiomUnder 33 = .ok (.iload 4, 2) := by decide +kernel
theorem dX0_axiomUnder_35 : decode cX0_axiomUnder 35 = .ok (.bipush 64, 2) := by decide +kernel
theorem dX0_axiomUnder_37 : decode cX0_axiomUnder 37 = .ok (.irem, 1) := by decide +kernel
theorem dX0_axiomUnder_38 : decode cX0_axiomUnder 38 = .ok (.lushr, 1) := by decide +kernel
theorem dX0_axiomUnder_39 : decode cX0_axiomUnder 39 = .ok (.lconst 1, 1) := by decide +kernel
theorem dX0_axiomUnder_40 : decode cX0_axiomUnder 40 = .ok (.land, 1) := by decide +kernel
theorem dX0_axiomUnder_41 : decode cX0_axiomUnder 41 = .ok (.lconst 0, 1) := by decide +kernel
theorem dX0_axiomUnder_42 : decode cX0_axiomUnder 42 = .ok (.lcmp, 1) := by decide +kernel
theorem dX0_axiomUnder_43 : decode cX0_axiomUnder 43 = .ok (.ifCond .eq 13, 3) := by decide +kernel
theorem dX0_axiomUnder_46 : decode cX0_axiomUnder 46 = .ok (.iload_n 3, 1) := by decide +kernel
theorem dX0_axiomUnder_47 : decode cX0_axiomUnder 47 = .ok (.ifCond .ne 6, 3) := by decide +kernel
theorem dX0_axiomUnder_50 : decode cX0_axiomUnder 50 = .ok (.iload 4, 2) := by decide +kernel
theorem dX0_axiomUnder_52 : decode cX0_axiomUnder 52 = .ok (.ireturn, 1) := by decide +kernel
theorem dX0_axiomUnder_53 : decode cX0_axiomUnder 53 = .ok (.iinc 3 (-1), 3) := by decide +kernel
theorem dX0_axiomUnder_56 : decode cX0_axiomUnder 56 = .ok (.iinc 4 1, 3) := by decide +kernel
theorem dX0_axiomUnder_59 : decode cX0_axiomUnder 59 = .ok (.goto (-54), 3) := by decide +kernel
theorem dX0_axiomUnder_62 : decode cX0_axiomUnder 62 = .ok (.bipush (-2), 2) := by decide +kernel
theorem dX0_axiomUnder_64 : decode cX0_axiomUnder 64 = .ok (.ireturn, 1) := by decide +kernel
theorem dX1_init_0 : decode cX1_init 0 = .ok (.aload_n 0, 1) := by decide +kernel
theorem dX1_init_1 : decode cX1_init 1 = .ok (.invokespecial 3, 3) := by decide +kernel
theorem dX1_init_4 : decode cX1_init 4 = .ok (.aload_n 0, 1) := by decide +kernel
theorem dX1_init_5 : decode cX1_init 5 = .ok (.new 9, 3) := by decide +kernel
theorem dX1_init_8 : decode cX1_init 8 = .ok (.dup, 1) := by decide +kernel
theorem dX1_init_9 : decode cX1_init 9 = .ok (.bipush 101, 2) := by decide +kernel
theorem dX1_init_11 : decode cX1_init 11 = .ok (.invokespecial 11, 3) := by decide +kernel
theorem dX1_init_14 : decode cX1_init 14 = .ok (.putfield 14, 3) := by decide +kernel
theorem dX1_init_17 : decode cX1_init 17 = .ok (.aload_n 0, 1) := by decide +kernel
theorem dX1_init_18 : decode cX1_init 18 = .ok (.new 9, 3) := by decide +kernel
theorem dX1_init_21 : decode cX1_init 21 = .ok (.dup, 1) := by decide +kernel
theorem dX1_init_22 : decode cX1_init 22 = .ok (.sipush 200, 3) := by decide +kernel
theorem dX1_init_25 : decode cX1_init 25 = .ok (.invokespecial 11, 3) := by decide +kernel
theorem dX1_init_28 : decode cX1_init 28 = .ok (.putfield 20, 3) := by decide +kernel
theorem dX1_init_31 : decode cX1_init 31 = .ok (.aload_n 0, 1) := by decide +kernel
theorem dX1_init_32 : decode cX1_init 32 = .ok (.sipush 300, 3) := by decide +kernel
theorem dX1_init_35 : decode cX1_init 35 = .ok (.newarray .int, 2) := by decide +kernel
theorem dX1_init_37 : decode cX1_init 37 = .ok (.putfield 23, 3) := by decide +kernel
theorem dX1_init_40 : decode cX1_init 40 = .ok (.aload_n 0, 1) := by decide +kernel
theorem dX1_init_41 : decode cX1_init 41 = .ok (.sipush 1500, 3) := by decide +kernel
theorem dX1_init_44 : decode cX1_init 44 = .ok (.newarray .long, 2) := by decide +kernel
theorem dX1_init_46 : decode cX1_init 46 = .ok (.putfield 27, 3) := by decide +kernel
theorem dX1_init_49 : decode cX1_init 49 = .ok (.aload_n 0, 1) := by decide +kernel
theorem dX1_init_50 : decode cX1_init 50 = .ok (.iconst 5, 1) := by decide +kernel
theorem dX1_init_51 : decode cX1_init 51 = .ok (.newarray .long, 2) := by decide +kernel
theorem dX1_init_53 : decode cX1_init 53 = .ok (.putfield 31, 3) := by decide +kernel
theorem dX1_init_56 : decode cX1_init 56 = .ok (.aload_n 0, 1) := by decide +kernel
theorem dX1_init_57 : decode cX1_init 57 = .ok (.aload_n 1, 1) := by decide +kernel
theorem dX1_init_58 : decode cX1_init 58 = .ok (.putfield 34, 3) := by decide +kernel
theorem dX1_init_61 : decode cX1_init 61 = .ok (.return_, 1) := by decide +kernel
theorem dX1_run_0 : decode cX1_run 0 = .ok (.aload_n 0, 1) := by decide +kernel
theorem dX1_run_1 : decode cX1_run 1 = .ok (.aload_n 1, 1) := by decide +kernel
theorem dX1_run_2 : decode cX1_run 2 = .ok (.putfield 34, 3) := by decide +kernel
theorem dX1_run_5 : decode cX1_run 5 = .ok (.aload_n 0, 1) := by decide +kernel
theorem dX1_run_6 : decode cX1_run 6 = .ok (.getfield 14, 3) := by decide +kernel
theorem dX1_run_9 : decode cX1_run 9 = .ok (.invokevirtual 38, 3) := by decide +kernel
theorem dX1_run_12 : decode cX1_run 12 = .ok (.aload_n 0, 1) := by decide +kernel
theorem dX1_run_13 : decode cX1_run 13 = .ok (.getfield 20, 3) := by decide +kernel
theorem dX1_run_16 : decode cX1_run 16 = .ok (.invokevirtual 38, 3) := by decide +kernel
theorem dX1_run_19 : decode cX1_run 19 = .ok (.aload_n 0, 1) := by decide +kernel
theorem dX1_run_20 : decode cX1_run 20 = .ok (.aload_n 2, 1) := by decide +kernel
theorem dX1_run_21 : decode cX1_run 21 = .ok (.getfield 41, 3) := by decide +kernel
theorem dX1_run_24 : decode cX1_run 24 = .ok (.invokevirtual 47, 3) := by decide +kernel
theorem dX1_run_27 : decode cX1_run 27 = .ok (.iload_n 3, 1) := by decide +kernel
theorem dX1_run_28 : decode cX1_run 28 = .ok (.aload_n 2, 1) := by decide +kernel
theorem dX1_run_29 : decode cX1_run 29 = .ok (.getfield 50, 3) := by decide +kernel
theorem dX1_run_32 : decode cX1_run 32 = .ok (.invokestatic 53, 3) := by decide +kernel
theorem dX1_run_35 : decode cX1_run 35 = .ok (.istore 4, 2) := by decide +kernel
theorem dX1_run_37 : decode cX1_run 37 = .ok (.iconst 0, 1) := by decide +kernel
theorem dX1_run_38 : decode cX1_run 38 = .ok (.istore 5, 2) := by decide +kernel
theorem dX1_run_40 : decode cX1_run 40 = .ok (.iload 5, 2) := by decide +kernel
theorem dX1_run_42 : decode cX1_run 42 = .ok (.iload 4, 2) := by decide +kernel
theorem dX1_run_44 : decode cX1_run 44 = .ok (.if_icmp .ge 118, 3) := by decide +kernel
theorem dX1_run_47 : decode cX1_run 47 = .ok (.aload_n 2, 1) := by decide +kernel
theorem dX1_run_48 : decode cX1_run 48 = .ok (.getfield 59, 3) := by decide +kernel
theorem dX1_run_51 : decode cX1_run 51 = .ok (.iload 5, 2) := by decide +kernel
theorem dX1_run_53 : decode cX1_run 53 = .ok (.iaload, 1) := by decide +kernel
theorem dX1_run_54 : decode cX1_run 54 = .ok (.istore 6, 2) := by decide +kernel
theorem dX1_run_56 : decode cX1_run 56 = .ok (.iload 6, 2) := by decide +kernel
theorem dX1_run_58 : decode cX1_run 58 = .ok (.ifCond .lt 21, 3) := by decide +kernel
theorem dX1_run_61 : decode cX1_run 61 = .ok (.aload_n 0, 1) := by decide +kernel
theorem dX1_run_62 : decode cX1_run 62 = .ok (.getfield 34, 3) := by decide +kernel
theorem dX1_run_65 : decode cX1_run 65 = .ok (.getfield 62, 3) := by decide +kernel
theorem dX1_run_68 : decode cX1_run 68 = .ok (.iload 6, 2) := by decide +kernel
theorem dX1_run_70 : decode cX1_run 70 = .ok (.iaload, 1) := by decide +kernel
theorem dX1_run_71 : decode cX1_run 71 = .ok (.iconst 2, 1) := by decide +kernel
theorem dX1_run_72 : decode cX1_run 72 = .ok (.if_icmp .lt 7, 3) := by decide +kernel
theorem dX1_run_75 : decode cX1_run 75 = .ok (.iconst 1, 1) := by decide +kernel
theorem dX1_run_76 : decode cX1_run 76 = .ok (.goto 4, 3) := by decide +kernel
theorem dX1_run_79 : decode cX1_run 79 = .ok (.iconst 0, 1) := by decide +kernel
theorem dX1_run_80 : decode cX1_run 80 = .ok (.istore 7, 2) := by decide +kernel
theorem dX1_run_82 : decode cX1_run 82 = .ok (.iload 7, 2) := by decide +kernel
theorem dX1_run_84 : decode cX1_run 84 = .ok (.ifCond .eq 12, 3) := by decide +kernel
theorem dX1_run_87 : decode cX1_run 87 = .ok (.aload_n 0, 1) := by decide +kernel
theorem dX1_run_88 : decode cX1_run 88 = .ok (.iload 6, 2) := by decide +kernel
theorem dX1_run_90 : decode cX1_run 90 = .ok (.invokevirtual 67, 3) := by decide +kernel
theorem dX1_run_93 : decode cX1_run 93 = .ok (.goto 9, 3) := by decide +kernel
theorem dX1_run_96 : decode cX1_run 96 = .ok (.aload_n 0, 1) := by decide +kernel
theorem dX1_run_97 : decode cX1_run 97 = .ok (.iload 6, 2) := by decide +kernel
theorem dX1_run_99 : decode cX1_run 99 = .ok (.invokevirtual 71, 3) := by decide +kernel
theorem dX1_run_102 : decode cX1_run 102 = .ok (.istore 8, 2) := by decide +kernel
theorem dX1_run_104 : decode cX1_run 104 = .ok (.iload 8, 2) := by decide +kernel
theorem dX1_run_106 : decode cX1_run 106 = .ok (.ifCond .eq 12, 3) := by decide +kernel
theorem dX1_run_109 : decode cX1_run 109 = .ok (.aload_n 2, 1) := by decide +kernel
theorem dX1_run_110 : decode cX1_run 110 = .ok (.iload 5, 2) := by decide +kernel
theorem dX1_run_112 : decode cX1_run 112 = .ok (.putfield 74, 3) := by decide +kernel
theorem dX1_run_115 : decode cX1_run 115 = .ok (.iload 8, 2) := by decide +kernel
theorem dX1_run_117 : decode cX1_run 117 = .ok (.ireturn, 1) := by decide +kernel
theorem dX1_run_118 : decode cX1_run 118 = .ok (.aload_n 2, 1) := by decide +kernel
theorem dX1_run_119 : decode cX1_run 119 = .ok (.getfield 77, 3) := by decide +kernel
theorem dX1_run_122 : decode cX1_run 122 = .ok (.iload 5, 2) := by decide +kernel
theorem dX1_run_124 : decode cX1_run 124 = .ok (.baload, 1) := by decide +kernel
theorem dX1_run_125 : decode cX1_run 125 = .ok (.ifCond .eq 31, 3) := by decide +kernel
theorem dX1_run_128 : decode cX1_run 128 = .ok (.aload_n 0, 1) := by decide +kernel
theorem dX1_run_129 : decode cX1_run 129 = .ok (.getfield 20, 3) := by decide +kernel
theorem dX1_run_132 : decode cX1_run 132 = .ok (.aload_n 0, 1) := by decide +kernel
theorem dX1_run_133 : decode cX1_run 133 = .ok (.getfield 14, 3) := by decide +kernel
theorem dX1_run_136 : decode cX1_run 136 = .ok (.aload_n 0, 1) := by decide +kernel
theorem dX1_run_137 : decode cX1_run 137 = .ok (.getfield 14, 3) := by decide +kernel
theorem dX1_run_140 : decode cX1_run 140 = .ok (.getfield 81, 3) := by decide +kernel
theorem dX1_run_143 : decode cX1_run 143 = .ok (.iconst 1, 1) := by decide +kernel
theorem dX1_run_144 : decode cX1_run 144 = .ok (.isub, 1) := by decide +kernel
theorem dX1_run_145 : decode cX1_run 145 = .ok (.iconst 0, 1) := by decide +kernel
theorem dX1_run_146 : decode cX1_run 146 = .ok (.invokevirtual 84, 3) := by decide +kernel
theorem dX1_run_149 : decode cX1_run 149 = .ok (.aload_n 0, 1) := by decide +kernel
theorem dX1_run_150 : decode cX1_run 150 = .ok (.getfield 20, 3) := by decide +kernel
theorem dX1_run_153 : decode cX1_run 153 = .ok (.invokevirtual 88, 3) := by decide +kernel
theorem dX1_run_156 : decode cX1_run 156 = .ok (.iinc 5 1, 3) := by decide +kernel
theorem dX1_run_159 : decode cX1_run 159 = .ok (.goto (-119), 3) := by decide +kernel
theorem dX1_run_162 : decode cX1_run 162 = .ok (.iconst 0, 1) := by decide +kernel
theorem dX1_run_163 : decode cX1_run 163 = .ok (.ireturn, 1) := by decide +kernel
theorem dX1_verdict_0 : decode cX1_verdict 0 = .ok (.aload_n 0, 1) := by decide +kernel
theorem dX1_verdict_1 : decode cX1_verdict 1 = .ok (.getfield 14, 3) := by decide +kernel
theorem dX1_verdict_4 : decode cX1_verdict 4 = .ok (.getfield 81, 3) := by decide +kernel
theorem dX1_verdict_7 : decode cX1_verdict 7 = .ok (.iconst 1, 1) := by decide +kernel
theorem dX1_verdict_8 : decode cX1_verdict 8 = .ok (.if_icmp .eq 6, 3) := by decide +kernel
theorem dX1_verdict_11 : decode cX1_verdict 11 = .ok (.bipush (-8), 2) := by decide +kernel
theorem dX1_verdict_13 : decode cX1_verdict 13 = .ok (.ireturn, 1) := by decide +kernel
theorem dX1_verdict_14 : decode cX1_verdict 14 = .ok (.aload_n 0, 1) := by decide +kernel
theorem dX1_verdict_15 : decode cX1_verdict 15 = .ok (.getfield 14, 3) := by decide +kernel
theorem dX1_verdict_18 : decode cX1_verdict 18 = .ok (.iconst 0, 1) := by decide +kernel
theorem dX1_verdict_19 : decode cX1_verdict 19 = .ok (.aload_n 1, 1) := by decide +kernel
theorem dX1_verdict_20 : decode cX1_verdict 20 = .ok (.getfield 91, 3) := by decide +kernel
theorem dX1_verdict_23 : decode cX1_verdict 23 = .ok (.aload_n 2, 1) := by decide +kernel
theorem dX1_verdict_24 : decode cX1_verdict 24 = .ok (.getfield 41, 3) := by decide +kernel
theorem dX1_verdict_27 : decode cX1_verdict 27 = .ok (.invokevirtual 94, 3) := by decide +kernel
theorem dX1_verdict_30 : decode cX1_verdict 30 = .ok (.ifCond .eq 7, 3) := by decide +kernel
theorem dX1_verdict_33 : decode cX1_verdict 33 = .ok (.iconst 0, 1) := by decide +kernel
theorem dX1_verdict_34 : decode cX1_verdict 34 = .ok (.goto 5, 3) := by decide +kernel
theorem dX1_verdict_37 : decode cX1_verdict 37 = .ok (.bipush (-9), 2) := by decide +kernel
theorem dX1_verdict_39 : decode cX1_verdict 39 = .ok (.ireturn, 1) := by decide +kernel
theorem dX1_notePartners_0 : decode cX1_notePartners 0 = .ok (.aload_n 0, 1) := by decide +kernel
theorem dX1_notePartners_1 : decode cX1_notePartners 1 = .ok (.getfield 27, 3) := by decide +kernel
theorem dX1_notePartners_4 : decode cX1_notePartners 4 = .ok (.lconst 0, 1) := by decide +kernel
theorem dX1_notePartners_5 : decode cX1_notePartners 5 = .ok (.invokestatic 98, 3) := by decide +kernel
theorem dX1_notePartners_8 : decode cX1_notePartners 8 = .ok (.aload_n 0, 1) := by decide +kernel
theorem dX1_notePartners_9 : decode cX1_notePartners 9 = .ok (.getfield 34, 3) := by decide +kernel
theorem dX1_notePartners_12 : decode cX1_notePartners 12 = .ok (.getfield 104, 3) := by decide +kernel
theorem dX1_notePartners_15 : decode cX1_notePartners 15 = .ok (.iload_n 1, 1) := by decide +kernel
theorem dX1_notePartners_16 : decode cX1_notePartners 16 = .ok (.invokevirtual 107, 3) := by decide +kernel
theorem dX1_notePartners_19 : decode cX1_notePartners 19 = .ok (.istore_n 2, 1) := by decide +kernel
theorem dX1_notePartners_20 : decode cX1_notePartners 20 = .ok (.iconst 0, 1) := by decide +kernel
theorem dX1_notePartners_21 : decode cX1_notePartners 21 = .ok (.istore_n 3, 1) := by decide +kernel
theorem dX1_notePartners_22 : decode cX1_notePartners 22 = .ok (.iload_n 3, 1) := by decide +kernel
theorem dX1_notePartners_23 : decode cX1_notePartners 23 = .ok (.iload_n 2, 1) := by decide +kernel
theorem dX1_notePartners_24 : decode cX1_notePartners 24 = .ok (.if_icmp .ge 55, 3) := by decide +kernel
theorem dX1_notePartners_27 : decode cX1_notePartners 27 = .ok (.aload_n 0, 1) := by decide +kernel
theorem dX1_notePartners_28 : decode cX1_notePartners 28 = .ok (.getfield 34, 3) := by decide +kernel
theorem dX1_notePartners_31 : decode cX1_notePartners 31 = .ok (.getfield 104, 3) := by decide +kernel
theorem dX1_notePartners_34 : decode cX1_notePartners 34 = .ok (.iload_n 1, 1) := by decide +kernel
theorem dX1_notePartners_35 : decode cX1_notePartners 35 = .ok (.iload_n 3, 1) := by decide +kernel
theorem dX1_notePartners_36 : decode cX1_notePartners 36 = .ok (.invokevirtual 110, 3) := by decide +kernel
theorem dX1_notePartners_39 : decode cX1_notePartners 39 = .ok (.istore 4, 2) := by decide +kernel
theorem dX1_notePartners_41 : decode cX1_notePartners 41 = .ok (.aload_n 0, 1) := by decide +kernel
theorem dX1_notePartners_42 : decode cX1_notePartners 42 = .ok (.iload 4, 2) := by decide +kernel
theorem dX1_notePartners_44 : decode cX1_notePartners 44 = .ok (.sipush 300, 3) := by decide +kernel
theorem dX1_notePartners_47 : decode cX1_notePartners 47 = .ok (.idiv, 1) := by decide +kernel
theorem dX1_notePartners_48 : decode cX1_notePartners 48 = .ok (.iload 4, 2) := by decide +kernel
theorem dX1_notePartners_50 : decode cX1_notePartners 50 = .ok (.sipush 300, 3) := by decide +kernel
theorem dX1_notePartners_53 : decode cX1_notePartners 53 = .ok (.irem, 1) := by decide +kernel
theorem dX1_notePartners_54 : decode cX1_notePartners 54 = .ok (.invokevirtual 113, 3) := by decide +kernel
theorem dX1_notePartners_57 : decode cX1_notePartners 57 = .ok (.aload_n 0, 1) := by decide +kernel
theorem dX1_notePartners_58 : decode cX1_notePartners 58 = .ok (.iload 4, 2) := by decide +kernel
theorem dX1_notePartners_60 : decode cX1_notePartners 60 = .ok (.sipush 300, 3) := by decide +kernel
theorem dX1_notePartners_63 : decode cX1_notePartners 63 = .ok (.irem, 1) := by decide +kernel
theorem dX1_notePartners_64 : decode cX1_notePartners 64 = .ok (.iload 4, 2) := by decide +kernel
theorem dX1_notePartners_66 : decode cX1_notePartners 66 = .ok (.sipush 300, 3) := by decide +kernel
theorem dX1_notePartners_69 : decode cX1_notePartners 69 = .ok (.idiv, 1) := by decide +kernel
theorem dX1_notePartners_70 : decode cX1_notePartners 70 = .ok (.invokevirtual 113, 3) := by decide +kernel
theorem dX1_notePartners_73 : decode cX1_notePartners 73 = .ok (.iinc 3 1, 3) := by decide +kernel
theorem dX1_notePartners_76 : decode cX1_notePartners 76 = .ok (.goto (-54), 3) := by decide +kernel
theorem dX1_notePartners_79 : decode cX1_notePartners 79 = .ok (.return_, 1) := by decide +kernel
theorem dX1_addPartner_0 : decode cX1_addPartner 0 = .ok (.aload_n 0, 1) := by decide +kernel
theorem dX1_addPartner_1 : decode cX1_addPartner 1 = .ok (.getfield 27, 3) := by decide +kernel
theorem dX1_addPartner_4 : decode cX1_addPartner 4 = .ok (.iload_n 1, 1) := by decide +kernel
theorem dX1_addPartner_5 : decode cX1_addPartner 5 = .ok (.iconst 5, 1) := by decide +kernel
theorem dX1_addPartner_6 : decode cX1_addPartner 6 = .ok (.imul, 1) := by decide +kernel
theorem dX1_addPartner_7 : decode cX1_addPartner 7 = .ok (.iload_n 2, 1) := by decide +kernel
theorem dX1_addPartner_8 : decode cX1_addPartner 8 = .ok (.bipush 64, 2) := by decide +kernel
theorem dX1_addPartner_10 : decode cX1_addPartner 10 = .ok (.idiv, 1) := by decide +kernel
theorem dX1_addPartner_11 : decode cX1_addPartner 11 = .ok (.iadd, 1) := by decide +kernel
theorem dX1_addPartner_12 : decode cX1_addPartner 12 = .ok (.dup2, 1) := by decide +kernel
theorem dX1_addPartner_13 : decode cX1_addPartner 13 = .ok (.laload, 1) := by decide +kernel
theorem dX1_addPartner_14 : decode cX1_addPartner 14 = .ok (.lconst 1, 1) := by decide +kernel
theorem dX1_addPartner_15 : decode cX1_addPartner 15 = .ok (.iload_n 2, 1) := by decide +kernel
theorem dX1_addPartner_16 : decode cX1_addPartner 16 = .ok (.bipush 64, 2) := by decide +kernel
theorem dX1_addPartner_18 : decode cX1_addPartner 18 = .ok (.irem, 1) := by decide +kernel
theorem dX1_addPartner_19 : decode cX1_addPartner 19 = .ok (.lshl, 1) := by decide +kernel
theorem dX1_addPartner_20 : decode cX1_addPartner 20 = .ok (.lor, 1) := by decide +kernel
theorem dX1_addPartner_21 : decode cX1_addPartner 21 = .ok (.lastore, 1) := by decide +kernel
theorem dX1_addPartner_22 : decode cX1_addPartner 22 = .ok (.return_, 1) := by decide +kernel
theorem dX1_push_0 : decode cX1_push 0 = .ok (.aload_n 0, 1) := by decide +kernel
theorem dX1_push_1 : decode cX1_push 1 = .ok (.getfield 14, 3) := by decide +kernel
theorem dX1_push_4 : decode cX1_push 4 = .ok (.getfield 81, 3) := by decide +kernel
theorem dX1_push_7 : decode cX1_push 7 = .ok (.bipush 100, 2) := by decide +kernel
theorem dX1_push_9 : decode cX1_push 9 = .ok (.if_icmp .ne 6, 3) := by decide +kernel
theorem dX1_push_12 : decode cX1_push 12 = .ok (.bipush (-10), 2) := by decide +kernel
theorem dX1_push_14 : decode cX1_push 14 = .ok (.ireturn, 1) := by decide +kernel
theorem dX1_push_15 : decode cX1_push 15 = .ok (.iload_n 1, 1) := by decide +kernel
theorem dX1_push_16 : decode cX1_push 16 = .ok (.ifCond .ge 21, 3) := by decide +kernel
theorem dX1_push_19 : decode cX1_push 19 = .ok (.aload_n 0, 1) := by decide +kernel
theorem dX1_push_20 : decode cX1_push 20 = .ok (.getfield 14, 3) := by decide +kernel
theorem dX1_push_23 : decode cX1_push 23 = .ok (.aload_n 0, 1) := by decide +kernel
theorem dX1_push_24 : decode cX1_push 24 = .ok (.getfield 20, 3) := by decide +kernel
theorem dX1_push_27 : decode cX1_push 27 = .ok (.iconst (-1), 1) := by decide +kernel
theorem dX1_push_28 : decode cX1_push 28 = .ok (.iload_n 1, 1) := by decide +kernel
theorem dX1_push_29 : decode cX1_push 29 = .ok (.isub, 1) := by decide +kernel
theorem dX1_push_30 : decode cX1_push 30 = .ok (.iconst 0, 1) := by decide +kernel
theorem dX1_push_31 : decode cX1_push 31 = .ok (.invokevirtual 84, 3) := by decide +kernel
theorem dX1_push_34 : decode cX1_push 34 = .ok (.goto 19, 3) := by decide +kernel
theorem dX1_push_37 : decode cX1_push 37 = .ok (.aload_n 0, 1) := by decide +kernel
theorem dX1_push_38 : decode cX1_push 38 = .ok (.getfield 14, 3) := by decide +kernel
theorem dX1_push_41 : decode cX1_push 41 = .ok (.aload_n 0, 1) := by decide +kernel
theorem dX1_push_42 : decode cX1_push 42 = .ok (.getfield 34, 3) := by decide +kernel
theorem dX1_push_45 : decode cX1_push 45 = .ok (.getfield 91, 3) := by decide +kernel
theorem dX1_push_48 : decode cX1_push 48 = .ok (.iload_n 1, 1) := by decide +kernel
theorem dX1_push_49 : decode cX1_push 49 = .ok (.iconst 0, 1) := by decide +kernel
theorem dX1_push_50 : decode cX1_push 50 = .ok (.invokevirtual 84, 3) := by decide +kernel
theorem dX1_push_53 : decode cX1_push 53 = .ok (.aload_n 0, 1) := by decide +kernel
theorem dX1_push_54 : decode cX1_push 54 = .ok (.getfield 14, 3) := by decide +kernel
theorem dX1_push_57 : decode cX1_push 57 = .ok (.invokevirtual 88, 3) := by decide +kernel
theorem dX1_push_60 : decode cX1_push 60 = .ok (.iconst 0, 1) := by decide +kernel
theorem dX1_push_61 : decode cX1_push 61 = .ok (.ireturn, 1) := by decide +kernel
theorem dX1_apply_0 : decode cX1_apply 0 = .ok (.aload_n 0, 1) := by decide +kernel
theorem dX1_apply_1 : decode cX1_apply 1 = .ok (.getfield 34, 3) := by decide +kernel
theorem dX1_apply_4 : decode cX1_apply 4 = .ok (.getfield 117, 3) := by decide +kernel
theorem dX1_apply_7 : decode cX1_apply 7 = .ok (.iload_n 1, 1) := by decide +kernel
theorem dX1_apply_8 : decode cX1_apply 8 = .ok (.invokevirtual 107, 3) := by decide +kernel
theorem dX1_apply_11 : decode cX1_apply 11 = .ok (.istore_n 2, 1) := by decide +kernel
theorem dX1_apply_12 : decode cX1_apply 12 = .ok (.aload_n 0, 1) := by decide +kernel
theorem dX1_apply_13 : decode cX1_apply 13 = .ok (.getfield 14, 3) := by decide +kernel
theorem dX1_apply_16 : decode cX1_apply 16 = .ok (.getfield 81, 3) := by decide +kernel
theorem dX1_apply_19 : decode cX1_apply 19 = .ok (.iload_n 2, 1) := by decide +kernel
theorem dX1_apply_20 : decode cX1_apply 20 = .ok (.isub, 1) := by decide +kernel
theorem dX1_apply_21 : decode cX1_apply 21 = .ok (.istore_n 3, 1) := by decide +kernel
theorem dX1_apply_22 : decode cX1_apply 22 = .ok (.iload_n 3, 1) := by decide +kernel
theorem dX1_apply_23 : decode cX1_apply 23 = .ok (.ifCond .ge 6, 3) := by decide +kernel
theorem dX1_apply_26 : decode cX1_apply 26 = .ok (.bipush (-4), 2) := by decide +kernel
theorem dX1_apply_28 : decode cX1_apply 28 = .ok (.ireturn, 1) := by decide +kernel
theorem dX1_apply_29 : decode cX1_apply 29 = .ok (.iconst 0, 1) := by decide +kernel
theorem dX1_apply_30 : decode cX1_apply 30 = .ok (.istore 4, 2) := by decide +kernel
theorem dX1_apply_32 : decode cX1_apply 32 = .ok (.iload 4, 2) := by decide +kernel
theorem dX1_apply_34 : decode cX1_apply 34 = .ok (.iload_n 2, 1) := by decide +kernel
theorem dX1_apply_35 : decode cX1_apply 35 = .ok (.if_icmp .ge 40, 3) := by decide +kernel
theorem dX1_apply_38 : decode cX1_apply 38 = .ok (.aload_n 0, 1) := by decide +kernel
theorem dX1_apply_39 : decode cX1_apply 39 = .ok (.aload_n 0, 1) := by decide +kernel
theorem dX1_apply_40 : decode cX1_apply 40 = .ok (.getfield 34, 3) := by decide +kernel
theorem dX1_apply_43 : decode cX1_apply 43 = .ok (.getfield 117, 3) := by decide +kernel
theorem dX1_apply_46 : decode cX1_apply 46 = .ok (.iload_n 1, 1) := by decide +kernel
theorem dX1_apply_47 : decode cX1_apply 47 = .ok (.iload 4, 2) := by decide +kernel
theorem dX1_apply_49 : decode cX1_apply 49 = .ok (.invokevirtual 110, 3) := by decide +kernel
theorem dX1_apply_52 : decode cX1_apply 52 = .ok (.iload_n 3, 1) := by decide +kernel
theorem dX1_apply_53 : decode cX1_apply 53 = .ok (.iload 4, 2) := by decide +kernel
theorem dX1_apply_55 : decode cX1_apply 55 = .ok (.iadd, 1) := by decide +kernel
theorem dX1_apply_56 : decode cX1_apply 56 = .ok (.invokevirtual 120, 3) := by decide +kernel
theorem dX1_apply_59 : decode cX1_apply 59 = .ok (.istore 5, 2) := by decide +kernel
theorem dX1_apply_61 : decode cX1_apply 61 = .ok (.iload 5, 2) := by decide +kernel
theorem dX1_apply_63 : decode cX1_apply 63 = .ok (.ifCond .eq 6, 3) := by decide +kernel
theorem dX1_apply_66 : decode cX1_apply 66 = .ok (.iload 5, 2) := by decide +kernel
theorem dX1_apply_68 : decode cX1_apply 68 = .ok (.ireturn, 1) := by decide +kernel
theorem dX1_apply_69 : decode cX1_apply 69 = .ok (.iinc 4 1, 3) := by decide +kernel
theorem dX1_apply_72 : decode cX1_apply 72 = .ok (.goto (-40), 3) := by decide +kernel
theorem dX1_apply_75 : decode cX1_apply 75 = .ok (.aload_n 0, 1) := by decide +kernel
theorem dX1_apply_76 : decode cX1_apply 76 = .ok (.iload_n 1, 1) := by decide +kernel
theorem dX1_apply_77 : decode cX1_apply 77 = .ok (.invokevirtual 123, 3) := by decide +kernel
theorem dX1_apply_80 : decode cX1_apply 80 = .ok (.ifCond .ne 6, 3) := by decide +kernel
theorem dX1_apply_83 : decode cX1_apply 83 = .ok (.bipush (-7), 2) := by decide +kernel
theorem dX1_apply_85 : decode cX1_apply 85 = .ok (.ireturn, 1) := by decide +kernel
theorem dX1_apply_86 : decode cX1_apply 86 = .ok (.iload_n 3, 1) := by decide +kernel
theorem dX1_apply_87 : decode cX1_apply 87 = .ok (.bipush 100, 2) := by decide +kernel
theorem dX1_apply_89 : decode cX1_apply 89 = .ok (.if_icmp .eq 14, 3) := by decide +kernel
theorem dX1_apply_92 : decode cX1_apply 92 = .ok (.aload_n 0, 1) := by decide +kernel
theorem dX1_apply_93 : decode cX1_apply 93 = .ok (.iload_n 1, 1) := by decide +kernel
theorem dX1_apply_94 : decode cX1_apply 94 = .ok (.invokevirtual 127, 3) := by decide +kernel
theorem dX1_apply_97 : decode cX1_apply 97 = .ok (.sipush 200, 3) := by decide +kernel
theorem dX1_apply_100 : decode cX1_apply 100 = .ok (.if_icmp .le 6, 3) := by decide +kernel
theorem dX1_apply_103 : decode cX1_apply 103 = .ok (.bipush (-10), 2) := by decide +kernel
theorem dX1_apply_105 : decode cX1_apply 105 = .ok (.ireturn, 1) := by decide +kernel
theorem dX1_apply_106 : decode cX1_apply 106 = .ok (.aload_n 0, 1) := by decide +kernel
theorem dX1_apply_107 : decode cX1_apply 107 = .ok (.iload_n 1, 1) := by decide +kernel
theorem dX1_apply_108 : decode cX1_apply 108 = .ok (.invokevirtual 130, 3) := by decide +kernel
theorem dX1_apply_111 : decode cX1_apply 111 = .ok (.aload_n 0, 1) := by decide +kernel
theorem dX1_apply_112 : decode cX1_apply 112 = .ok (.getfield 14, 3) := by decide +kernel
theorem dX1_apply_115 : decode cX1_apply 115 = .ok (.iload_n 2, 1) := by decide +kernel
theorem dX1_apply_116 : decode cX1_apply 116 = .ok (.invokevirtual 133, 3) := by decide +kernel
theorem dX1_apply_119 : decode cX1_apply 119 = .ok (.iconst 0, 1) := by decide +kernel
theorem dX1_apply_120 : decode cX1_apply 120 = .ok (.ireturn, 1) := by decide +kernel
theorem dX1_fit_0 : decode cX1_fit 0 = .ok (.aload_n 0, 1) := by decide +kernel
theorem dX1_fit_1 : decode cX1_fit 1 = .ok (.getfield 34, 3) := by decide +kernel
theorem dX1_fit_4 : decode cX1_fit 4 = .ok (.getfield 62, 3) := by decide +kernel
theorem dX1_fit_7 : decode cX1_fit 7 = .ok (.iload_n 1, 1) := by decide +kernel
theorem dX1_fit_8 : decode cX1_fit 8 = .ok (.iaload, 1) := by decide +kernel
theorem dX1_fit_9 : decode cX1_fit 9 = .ok (.iconst 1, 1) := by decide +kernel
theorem dX1_fit_10 : decode cX1_fit 10 = .ok (.if_icmp .ne 19, 3) := by decide +kernel
theorem dX1_fit_13 : decode cX1_fit 13 = .ok (.aload_n 0, 1) := by decide +kernel
theorem dX1_fit_14 : decode cX1_fit 14 = .ok (.iload_n 1, 1) := by decide +kernel
theorem dX1_fit_15 : decode cX1_fit 15 = .ok (.iload_n 2, 1) := by decide +kernel
theorem dX1_fit_16 : decode cX1_fit 16 = .ok (.invokevirtual 136, 3) := by decide +kernel
theorem dX1_fit_19 : decode cX1_fit 19 = .ok (.ifCond .eq 7, 3) := by decide +kernel
theorem dX1_fit_22 : decode cX1_fit 22 = .ok (.iconst 0, 1) := by decide +kernel
theorem dX1_fit_23 : decode cX1_fit 23 = .ok (.goto 5, 3) := by decide +kernel
theorem dX1_fit_26 : decode cX1_fit 26 = .ok (.bipush (-6), 2) := by decide +kernel
theorem dX1_fit_28 : decode cX1_fit 28 = .ok (.ireturn, 1) := by decide +kernel
theorem dX1_fit_29 : decode cX1_fit 29 = .ok (.aload_n 0, 1) := by decide +kernel
theorem dX1_fit_30 : decode cX1_fit 30 = .ok (.getfield 14, 3) := by decide +kernel
theorem dX1_fit_33 : decode cX1_fit 33 = .ok (.iload_n 2, 1) := by decide +kernel
theorem dX1_fit_34 : decode cX1_fit 34 = .ok (.iconst 0, 1) := by decide +kernel
theorem dX1_fit_35 : decode cX1_fit 35 = .ok (.invokevirtual 110, 3) := by decide +kernel
theorem dX1_fit_38 : decode cX1_fit 38 = .ok (.aload_n 0, 1) := by decide +kernel
theorem dX1_fit_39 : decode cX1_fit 39 = .ok (.getfield 34, 3) := by decide +kernel
theorem dX1_fit_42 : decode cX1_fit 42 = .ok (.getfield 91, 3) := by decide +kernel
theorem dX1_fit_45 : decode cX1_fit 45 = .ok (.iload_n 1, 1) := by decide +kernel
theorem dX1_fit_46 : decode cX1_fit 46 = .ok (.iconst 0, 1) := by decide +kernel
theorem dX1_fit_47 : decode cX1_fit 47 = .ok (.invokevirtual 110, 3) := by decide +kernel
theorem dX1_fit_50 : decode cX1_fit 50 = .ok (.if_icmp .eq 6, 3) := by decide +kernel
theorem dX1_fit_53 : decode cX1_fit 53 = .ok (.bipush (-5), 2) := by decide +kernel
theorem dX1_fit_55 : decode cX1_fit 55 = .ok (.ireturn, 1) := by decide +kernel
theorem dX1_fit_56 : decode cX1_fit 56 = .ok (.aload_n 0, 1) := by decide +kernel
theorem dX1_fit_57 : decode cX1_fit 57 = .ok (.getfield 23, 3) := by decide +kernel
theorem dX1_fit_60 : decode cX1_fit 60 = .ok (.aload_n 0, 1) := by decide +kernel
theorem dX1_fit_61 : decode cX1_fit 61 = .ok (.getfield 34, 3) := by decide +kernel
theorem dX1_fit_64 : decode cX1_fit 64 = .ok (.getfield 91, 3) := by decide +kernel
theorem dX1_fit_67 : decode cX1_fit 67 = .ok (.iload_n 1, 1) := by decide +kernel
theorem dX1_fit_68 : decode cX1_fit 68 = .ok (.iconst 1, 1) := by decide +kernel
theorem dX1_fit_69 : decode cX1_fit 69 = .ok (.invokevirtual 110, 3) := by decide +kernel
theorem dX1_fit_72 : decode cX1_fit 72 = .ok (.iload_n 2, 1) := by decide +kernel
theorem dX1_fit_73 : decode cX1_fit 73 = .ok (.iastore, 1) := by decide +kernel
theorem dX1_fit_74 : decode cX1_fit 74 = .ok (.iconst 0, 1) := by decide +kernel
theorem dX1_fit_75 : decode cX1_fit 75 = .ok (.ireturn, 1) := by decide +kernel
theorem dX1_isInstance_0 : decode cX1_isInstance 0 = .ok (.iconst 0, 1) := by decide +kernel
theorem dX1_isInstance_1 : decode cX1_isInstance 1 = .ok (.istore_n 3, 1) := by decide +kernel
theorem dX1_isInstance_2 : decode cX1_isInstance 2 = .ok (.aload_n 0, 1) := by decide +kernel
theorem dX1_isInstance_3 : decode cX1_isInstance 3 = .ok (.getfield 34, 3) := by decide +kernel
theorem dX1_isInstance_6 : decode cX1_isInstance 6 = .ok (.getfield 91, 3) := by decide +kernel
theorem dX1_isInstance_9 : decode cX1_isInstance 9 = .ok (.iload_n 1, 1) := by decide +kernel
theorem dX1_isInstance_10 : decode cX1_isInstance 10 = .ok (.invokevirtual 107, 3) := by decide +kernel
theorem dX1_isInstance_13 : decode cX1_isInstance 13 = .ok (.istore 4, 2) := by decide +kernel
theorem dX1_isInstance_15 : decode cX1_isInstance 15 = .ok (.iconst 0, 1) := by decide +kernel
theorem dX1_isInstance_16 : decode cX1_isInstance 16 = .ok (.istore 5, 2) := by decide +kernel
theorem dX1_isInstance_18 : decode cX1_isInstance 18 = .ok (.iload 5, 2) := by decide +kernel
theorem dX1_isInstance_20 : decode cX1_isInstance 20 = .ok (.iload 4, 2) := by decide +kernel
theorem dX1_isInstance_22 : decode cX1_isInstance 22 = .ok (.if_icmp .ge 123, 3) := by decide +kernel
theorem dX1_isInstance_25 : decode cX1_isInstance 25 = .ok (.aload_n 0, 1) := by decide +kernel
theorem dX1_isInstance_26 : decode cX1_isInstance 26 = .ok (.getfield 34, 3) := by decide +kernel
theorem dX1_isInstance_29 : decode cX1_isInstance 29 = .ok (.getfield 91, 3) := by decide +kernel
theorem dX1_isInstance_32 : decode cX1_isInstance 32 = .ok (.iload_n 1, 1) := by decide +kernel
theorem dX1_isInstance_33 : decode cX1_isInstance 33 = .ok (.iload 5, 2) := by decide +kernel
theorem dX1_isInstance_35 : decode cX1_isInstance 35 = .ok (.invokevirtual 110, 3) := by decide +kernel
theorem dX1_isInstance_38 : decode cX1_isInstance 38 = .ok (.istore 6, 2) := by decide +kernel
theorem dX1_isInstance_40 : decode cX1_isInstance 40 = .ok (.aload_n 0, 1) := by decide +kernel
theorem dX1_isInstance_41 : decode cX1_isInstance 41 = .ok (.getfield 34, 3) := by decide +kernel
theorem dX1_isInstance_44 : decode cX1_isInstance 44 = .ok (.iload 6, 2) := by decide +kernel
theorem dX1_isInstance_46 : decode cX1_isInstance 46 = .ok (.invokevirtual 140, 3) := by decide +kernel
theorem dX1_isInstance_49 : decode cX1_isInstance 49 = .ok (.ifCond .ne 25, 3) := by decide +kernel
theorem dX1_isInstance_52 : decode cX1_isInstance 52 = .ok (.aload_n 0, 1) := by decide +kernel
theorem dX1_isInstance_53 : decode cX1_isInstance 53 = .ok (.getfield 14, 3) := by decide +kernel
theorem dX1_isInstance_56 : decode cX1_isInstance 56 = .ok (.iload_n 2, 1) := by decide +kernel
theorem dX1_isInstance_57 : decode cX1_isInstance 57 = .ok (.iload_n 3, 1) := by decide +kernel
theorem dX1_isInstance_58 : decode cX1_isInstance 58 = .ok (.invokevirtual 110, 3) := by decide +kernel
theorem dX1_isInstance_61 : decode cX1_isInstance 61 = .ok (.iload 6, 2) := by decide +kernel
theorem dX1_isInstance_63 : decode cX1_isInstance 63 = .ok (.if_icmp .eq 5, 3) := by decide +kernel
theorem dX1_isInstance_66 : decode cX1_isInstance 66 = .ok (.iconst 0, 1) := by decide +kernel
theorem dX1_isInstance_67 : decode cX1_isInstance 67 = .ok (.ireturn, 1) := by decide +kernel
theorem dX1_isInstance_68 : decode cX1_isInstance 68 = .ok (.iinc 3 1, 3) := by decide +kernel
theorem dX1_isInstance_71 : decode cX1_isInstance 71 = .ok (.goto 68, 3) := by decide +kernel
theorem dX1_isInstance_74 : decode cX1_isInstance 74 = .ok (.aload_n 0, 1) := by decide +kernel
theorem dX1_isInstance_75 : decode cX1_isInstance 75 = .ok (.getfield 14, 3) := by decide +kernel
theorem dX1_isInstance_78 : decode cX1_isInstance 78 = .ok (.aload_n 0, 1) := by decide +kernel
theorem dX1_isInstance_79 : decode cX1_isInstance 79 = .ok (.getfield 23, 3) := by decide +kernel
theorem dX1_isInstance_82 : decode cX1_isInstance 82 = .ok (.iload 6, 2) := by decide +kernel
theorem dX1_isInstance_84 : decode cX1_isInstance 84 = .ok (.iaload, 1) := by decide +kernel
theorem dX1_isInstance_85 : decode cX1_isInstance 85 = .ok (.invokevirtual 107, 3) := by decide +kernel
theorem dX1_isInstance_88 : decode cX1_isInstance 88 = .ok (.istore 7, 2) := by decide +kernel
theorem dX1_isInstance_90 : decode cX1_isInstance 90 = .ok (.iconst 1, 1) := by decide +kernel
theorem dX1_isInstance_91 : decode cX1_isInstance 91 = .ok (.istore 8, 2) := by decide +kernel
theorem dX1_isInstance_93 : decode cX1_isInstance 93 = .ok (.iload 8, 2) := by decide +kernel
theorem dX1_isInstance_95 : decode cX1_isInstance 95 = .ok (.iload 7, 2) := by decide +kernel
theorem dX1_isInstance_97 : decode cX1_isInstance 97 = .ok (.if_icmp .ge 42, 3) := by decide +kernel
theorem dX1_isInstance_100 : decode cX1_isInstance 100 = .ok (.aload_n 0, 1) := by decide +kernel
theorem dX1_isInstance_101 : decode cX1_isInstance 101 = .ok (.getfield 14, 3) := by decide +kernel
theorem dX1_isInstance_104 : decode cX1_isInstance 104 = .ok (.iload_n 2, 1) := by decide +kernel
theorem dX1_isInstance_105 : decode cX1_isInstance 105 = .ok (.iload_n 3, 1) := by decide +kernel
theorem dX1_isInstance_106 : decode cX1_isInstance 106 = .ok (.invokevirtual 110, 3) := by decide +kernel
theorem dX1_isInstance_109 : decode cX1_isInstance 109 = .ok (.aload_n 0, 1) := by decide +kernel
theorem dX1_isInstance_110 : decode cX1_isInstance 110 = .ok (.getfield 14, 3) := by decide +kernel
theorem dX1_isInstance_113 : decode cX1_isInstance 113 = .ok (.aload_n 0, 1) := by decide +kernel
theorem dX1_isInstance_114 : decode cX1_isInstance 114 = .ok (.getfield 23, 3) := by decide +kernel
theorem dX1_isInstance_117 : decode cX1_isInstance 117 = .ok (.iload 6, 2) := by decide +kernel
theorem dX1_isInstance_119 : decode cX1_isInstance 119 = .ok (.iaload, 1) := by decide +kernel
theorem dX1_isInstance_120 : decode cX1_isInstance 120 = .ok (.iload 8, 2) := by decide +kernel
theorem dX1_isInstance_122 : decode cX1_isInstance 122 = .ok (.invokevirtual 110, 3) := by decide +kernel
theorem dX1_isInstance_125 : decode cX1_isInstance 125 = .ok (.if_icmp .eq 5, 3) := by decide +kernel
theorem dX1_isInstance_128 : decode cX1_isInstance 128 = .ok (.iconst 0, 1) := by decide +kernel
theorem dX1_isInstance_129 : decode cX1_isInstance 129 = .ok (.ireturn, 1) := by decide +kernel
theorem dX1_isInstance_130 : decode cX1_isInstance 130 = .ok (.iinc 3 1, 3) := by decide +kernel
theorem dX1_isInstance_133 : decode cX1_isInstance 133 = .ok (.iinc 8 1, 3) := by decide +kernel
theorem dX1_isInstance_136 : decode cX1_isInstance 136 = .ok (.goto (-43), 3) := by decide +kernel
theorem dX1_isInstance_139 : decode cX1_isInstance 139 = .ok (.iinc 5 1, 3) := by decide +kernel
theorem dX1_isInstance_142 : decode cX1_isInstance 142 = .ok (.goto (-124), 3) := by decide +kernel
theorem dX1_isInstance_145 : decode cX1_isInstance 145 = .ok (.iload_n 3, 1) := by decide +kernel
theorem dX1_isInstance_146 : decode cX1_isInstance 146 = .ok (.aload_n 0, 1) := by decide +kernel
theorem dX1_isInstance_147 : decode cX1_isInstance 147 = .ok (.getfield 14, 3) := by decide +kernel
theorem dX1_isInstance_150 : decode cX1_isInstance 150 = .ok (.iload_n 2, 1) := by decide +kernel
theorem dX1_isInstance_151 : decode cX1_isInstance 151 = .ok (.invokevirtual 107, 3) := by decide +kernel
theorem dX1_isInstance_154 : decode cX1_isInstance 154 = .ok (.if_icmp .ne 7, 3) := by decide +kernel
theorem dX1_isInstance_157 : decode cX1_isInstance 157 = .ok (.iconst 1, 1) := by decide +kernel
theorem dX1_isInstance_158 : decode cX1_isInstance 158 = .ok (.goto 4, 3) := by decide +kernel
theorem dX1_isInstance_161 : decode cX1_isInstance 161 = .ok (.iconst 0, 1) := by decide +kernel
theorem dX1_isInstance_162 : decode cX1_isInstance 162 = .ok (.ireturn, 1) := by decide +kernel
theorem dX1_keepsApart_0 : decode cX1_keepsApart 0 = .ok (.aload_n 0, 1) := by decide +kernel
theorem dX1_keepsApart_1 : decode cX1_keepsApart 1 = .ok (.getfield 34, 3) := by decide +kernel
theorem dX1_keepsApart_4 : decode cX1_keepsApart 4 = .ok (.getfield 143, 3) := by decide +kernel
theorem dX1_keepsApart_7 : decode cX1_keepsApart 7 = .ok (.iload_n 1, 1) := by decide +kernel
theorem dX1_keepsApart_8 : decode cX1_keepsApart 8 = .ok (.invokevirtual 107, 3) := by decide +kernel
theorem dX1_keepsApart_11 : decode cX1_keepsApart 11 = .ok (.istore_n 2, 1) := by decide +kernel
theorem dX1_keepsApart_12 : decode cX1_keepsApart 12 = .ok (.iconst 0, 1) := by decide +kernel
theorem dX1_keepsApart_13 : decode cX1_keepsApart 13 = .ok (.istore_n 3, 1) := by decide +kernel
theorem dX1_keepsApart_14 : decode cX1_keepsApart 14 = .ok (.iload_n 3, 1) := by decide +kernel
theorem dX1_keepsApart_15 : decode cX1_keepsApart 15 = .ok (.iload_n 2, 1) := by decide +kernel
theorem dX1_keepsApart_16 : decode cX1_keepsApart 16 = .ok (.if_icmp .ge 54, 3) := by decide +kernel
theorem dX1_keepsApart_19 : decode cX1_keepsApart 19 = .ok (.aload_n 0, 1) := by decide +kernel
theorem dX1_keepsApart_20 : decode cX1_keepsApart 20 = .ok (.getfield 34, 3) := by decide +kernel
theorem dX1_keepsApart_23 : decode cX1_keepsApart 23 = .ok (.getfield 143, 3) := by decide +kernel
theorem dX1_keepsApart_26 : decode cX1_keepsApart 26 = .ok (.iload_n 1, 1) := by decide +kernel
theorem dX1_keepsApart_27 : decode cX1_keepsApart 27 = .ok (.iload_n 3, 1) := by decide +kernel
theorem dX1_keepsApart_28 : decode cX1_keepsApart 28 = .ok (.invokevirtual 110, 3) := by decide +kernel
theorem dX1_keepsApart_31 : decode cX1_keepsApart 31 = .ok (.istore 4, 2) := by decide +kernel
theorem dX1_keepsApart_33 : decode cX1_keepsApart 33 = .ok (.aload_n 0, 1) := by decide +kernel
theorem dX1_keepsApart_34 : decode cX1_keepsApart 34 = .ok (.aload_n 0, 1) := by decide +kernel
theorem dX1_keepsApart_35 : decode cX1_keepsApart 35 = .ok (.getfield 23, 3) := by decide +kernel
theorem dX1_keepsApart_38 : decode cX1_keepsApart 38 = .ok (.iload 4, 2) := by decide +kernel
theorem dX1_keepsApart_40 : decode cX1_keepsApart 40 = .ok (.sipush 300, 3) := by decide +kernel
theorem dX1_keepsApart_43 : decode cX1_keepsApart 43 = .ok (.idiv, 1) := by decide +kernel
theorem dX1_keepsApart_44 : decode cX1_keepsApart 44 = .ok (.iaload, 1) := by decide +kernel
theorem dX1_keepsApart_45 : decode cX1_keepsApart 45 = .ok (.aload_n 0, 1) := by decide +kernel
theorem dX1_keepsApart_46 : decode cX1_keepsApart 46 = .ok (.getfield 23, 3) := by decide +kernel
theorem dX1_keepsApart_49 : decode cX1_keepsApart 49 = .ok (.iload 4, 2) := by decide +kernel
theorem dX1_keepsApart_51 : decode cX1_keepsApart 51 = .ok (.sipush 300, 3) := by decide +kernel
theorem dX1_keepsApart_54 : decode cX1_keepsApart 54 = .ok (.irem, 1) := by decide +kernel
theorem dX1_keepsApart_55 : decode cX1_keepsApart 55 = .ok (.iaload, 1) := by decide +kernel
theorem dX1_keepsApart_56 : decode cX1_keepsApart 56 = .ok (.invokevirtual 146, 3) := by decide +kernel
theorem dX1_keepsApart_59 : decode cX1_keepsApart 59 = .ok (.ifCond .ne 5, 3) := by decide +kernel
theorem dX1_keepsApart_62 : decode cX1_keepsApart 62 = .ok (.iconst 0, 1) := by decide +kernel
theorem dX1_keepsApart_63 : decode cX1_keepsApart 63 = .ok (.ireturn, 1) := by decide +kernel
theorem dX1_keepsApart_64 : decode cX1_keepsApart 64 = .ok (.iinc 3 1, 3) := by decide +kernel
theorem dX1_keepsApart_67 : decode cX1_keepsApart 67 = .ok (.goto (-53), 3) := by decide +kernel
theorem dX1_keepsApart_70 : decode cX1_keepsApart 70 = .ok (.iconst 1, 1) := by decide +kernel
theorem dX1_keepsApart_71 : decode cX1_keepsApart 71 = .ok (.ireturn, 1) := by decide +kernel
theorem dX1_areApart_0 : decode cX1_areApart 0 = .ok (.aload_n 0, 1) := by decide +kernel
theorem dX1_areApart_1 : decode cX1_areApart 1 = .ok (.getfield 31, 3) := by decide +kernel
theorem dX1_areApart_4 : decode cX1_areApart 4 = .ok (.lconst 0, 1) := by decide +kernel
theorem dX1_areApart_5 : decode cX1_areApart 5 = .ok (.invokestatic 98, 3) := by decide +kernel
theorem dX1_areApart_8 : decode cX1_areApart 8 = .ok (.aload_n 0, 1) := by decide +kernel
theorem dX1_areApart_9 : decode cX1_areApart 9 = .ok (.getfield 14, 3) := by decide +kernel
theorem dX1_areApart_12 : decode cX1_areApart 12 = .ok (.iload_n 2, 1) := by decide +kernel
theorem dX1_areApart_13 : decode cX1_areApart 13 = .ok (.invokevirtual 107, 3) := by decide +kernel
theorem dX1_areApart_16 : decode cX1_areApart 16 = .ok (.istore_n 3, 1) := by decide +kernel
theorem dX1_areApart_17 : decode cX1_areApart 17 = .ok (.iconst 1, 1) := by decide +kernel
theorem dX1_areApart_18 : decode cX1_areApart 18 = .ok (.istore 4, 2) := by decide +kernel
theorem dX1_areApart_20 : decode cX1_areApart 20 = .ok (.iload 4, 2) := by decide +kernel
theorem dX1_areApart_22 : decode cX1_areApart 22 = .ok (.iload_n 3, 1) := by decide +kernel
theorem dX1_areApart_23 : decode cX1_areApart 23 = .ok (.if_icmp .ge 53, 3) := by decide +kernel
theorem dX1_areApart_26 : decode cX1_areApart 26 = .ok (.aload_n 0, 1) := by decide +kernel
theorem dX1_areApart_27 : decode cX1_areApart 27 = .ok (.getfield 14, 3) := by decide +kernel
theorem dX1_areApart_30 : decode cX1_areApart 30 = .ok (.iload_n 2, 1) := by decide +kernel
theorem dX1_areApart_31 : decode cX1_areApart 31 = .ok (.iload 4, 2) := by decide +kernel
theorem dX1_areApart_33 : decode cX1_areApart 33 = .ok (.invokevirtual 110, 3) := by decide +kernel
theorem dX1_areApart_36 : decode cX1_areApart 36 = .ok (.istore 5, 2) := by decide +kernel
theorem dX1_areApart_38 : decode cX1_areApart 38 = .ok (.aload_n 0, 1) := by decide +kernel
theorem dX1_areApart_39 : decode cX1_areApart 39 = .ok (.getfield 34, 3) := by decide +kernel
theorem dX1_areApart_42 : decode cX1_areApart 42 = .ok (.iload 5, 2) := by decide +kernel
theorem dX1_areApart_44 : decode cX1_areApart 44 = .ok (.invokevirtual 140, 3) := by decide +kernel
theorem dX1_areApart_47 : decode cX1_areApart 47 = .ok (.ifCond .eq 23, 3) := by decide +kernel
theorem dX1_areApart_50 : decode cX1_areApart 50 = .ok (.aload_n 0, 1) := by decide +kernel
theorem dX1_areApart_51 : decode cX1_areApart 51 = .ok (.getfield 31, 3) := by decide +kernel
theorem dX1_areApart_54 : decode cX1_areApart 54 = .ok (.iload 5, 2) := by decide +kernel
theorem dX1_areApart_56 : decode cX1_areApart 56 = .ok (.bipush 64, 2) := by decide +kernel
theorem dX1_areApart_58 : decode cX1_areApart 58 = .ok (.idiv, 1) := by decide +kernel
theorem dX1_areApart_59 : decode cX1_areApart 59 = .ok (.dup2, 1) := by decide +kernel
theorem dX1_areApart_60 : decode cX1_areApart 60 = .ok (.laload, 1) := by decide +kernel
theorem dX1_areApart_61 : decode cX1_areApart 61 = .ok (.lconst 1, 1) := by decide +kernel
theorem dX1_areApart_62 : decode cX1_areApart 62 = .ok (.iload 5, 2) := by decide +kernel
theorem dX1_areApart_64 : decode cX1_areApart 64 = .ok (.bipush 64, 2) := by decide +kernel
theorem dX1_areApart_66 : decode cX1_areApart 66 = .ok (.irem, 1) := by decide +kernel
theorem dX1_areApart_67 : decode cX1_areApart 67 = .ok (.lshl, 1) := by decide +kernel
theorem dX1_areApart_68 : decode cX1_areApart 68 = .ok (.lor, 1) := by decide +kernel
theorem dX1_areApart_69 : decode cX1_areApart 69 = .ok (.lastore, 1) := by decide +kernel
theorem dX1_areApart_70 : decode cX1_areApart 70 = .ok (.iinc 4 1, 3) := by decide +kernel
theorem dX1_areApart_73 : decode cX1_areApart 73 = .ok (.goto (-53), 3) := by decide +kernel
theorem dX1_areApart_76 : decode cX1_areApart 76 = .ok (.aload_n 0, 1) := by decide +kernel
theorem dX1_areApart_77 : decode cX1_areApart 77 = .ok (.getfield 14, 3) := by decide +kernel
theorem dX1_areApart_80 : decode cX1_areApart 80 = .ok (.iload_n 1, 1) := by decide +kernel
theorem dX1_areApart_81 : decode cX1_areApart 81 = .ok (.invokevirtual 107, 3) := by decide +kernel
theorem dX1_areApart_84 : decode cX1_areApart 84 = .ok (.istore_n 3, 1) := by decide +kernel
theorem dX1_areApart_85 : decode cX1_areApart 85 = .ok (.iconst 1, 1) := by decide +kernel
theorem dX1_areApart_86 : decode cX1_areApart 86 = .ok (.istore 4, 2) := by decide +kernel
theorem dX1_areApart_88 : decode cX1_areApart 88 = .ok (.iload 4, 2) := by decide +kernel
theorem dX1_areApart_90 : decode cX1_areApart 90 = .ok (.iload_n 3, 1) := by decide +kernel
theorem dX1_areApart_91 : decode cX1_areApart 91 = .ok (.if_icmp .ge 44, 3) := by decide +kernel
theorem dX1_areApart_94 : decode cX1_areApart 94 = .ok (.aload_n 0, 1) := by decide +kernel
theorem dX1_areApart_95 : decode cX1_areApart 95 = .ok (.getfield 14, 3) := by decide +kernel
theorem dX1_areApart_98 : decode cX1_areApart 98 = .ok (.iload_n 1, 1) := by decide +kernel
theorem dX1_areApart_99 : decode cX1_areApart 99 = .ok (.iload 4, 2) := by decide +kernel
theorem dX1_areApart_101 : decode cX1_areApart 101 = .ok (.invokevirtual 110, 3) := by decide +kernel
theorem dX1_areApart_104 : decode cX1_areApart 104 = .ok (.istore 5, 2) := by decide +kernel
theorem dX1_areApart_106 : decode cX1_areApart 106 = .ok (.aload_n 0, 1) := by decide +kernel
theorem dX1_areApart_107 : decode cX1_areApart 107 = .ok (.getfield 34, 3) := by decide +kernel
theorem dX1_areApart_110 : decode cX1_areApart 110 = .ok (.iload 5, 2) := by decide +kernel
theorem dX1_areApart_112 : decode cX1_areApart 112 = .ok (.invokevirtual 140, 3) := by decide +kernel
theorem dX1_areApart_115 : decode cX1_areApart 115 = .ok (.ifCond .eq 14, 3) := by decide +kernel
theorem dX1_areApart_118 : decode cX1_areApart 118 = .ok (.aload_n 0, 1) := by decide +kernel
theorem dX1_areApart_119 : decode cX1_areApart 119 = .ok (.iload 5, 2) := by decide +kernel
theorem dX1_areApart_121 : decode cX1_areApart 121 = .ok (.invokevirtual 149, 3) := by decide +kernel
theorem dX1_areApart_124 : decode cX1_areApart 124 = .ok (.ifCond .ne 5, 3) := by decide +kernel
theorem dX1_areApart_127 : decode cX1_areApart 127 = .ok (.iconst 0, 1) := by decide +kernel
theorem dX1_areApart_128 : decode cX1_areApart 128 = .ok (.ireturn, 1) := by decide +kernel
theorem dX1_areApart_129 : decode cX1_areApart 129 = .ok (.iinc 4 1, 3) := by decide +kernel
theorem dX1_areApart_132 : decode cX1_areApart 132 = .ok (.goto (-44), 3) := by decide +kernel
theorem dX1_areApart_135 : decode cX1_areApart 135 = .ok (.iconst 1, 1) := by decide +kernel
theorem dX1_areApart_136 : decode cX1_areApart 136 = .ok (.ireturn, 1) := by decide +kernel
theorem dX1_isPartnerOfOthers_0 : decode cX1_isPartnerOfOthers 0 = .ok (.iconst 0, 1) := by decide +kernel
theorem dX1_isPartnerOfOthers_1 : decode cX1_isPartnerOfOthers 1 = .ok (.istore_n 2, 1) := by decide +kernel
theorem dX1_isPartnerOfOthers_2 : decode cX1_isPartnerOfOthers 2 = .ok (.iload_n 2, 1) := by decide +kernel
theorem dX1_isPartnerOfOthers_3 : decode cX1_isPartnerOfOthers 3 = .ok (.iconst 5, 1) := by decide +kernel
theorem dX1_isPartnerOfOthers_4 : decode cX1_isPartnerOfOthers 4 = .ok (.if_icmp .ge 37, 3) := by decide +kernel
theorem dX1_isPartnerOfOthers_7 : decode cX1_isPartnerOfOthers 7 = .ok (.aload_n 0, 1) := by decide +kernel
theorem dX1_isPartnerOfOthers_8 : decode cX1_isPartnerOfOthers 8 = .ok (.getfield 31, 3) := by decide +kernel
theorem dX1_isPartnerOfOthers_11 : decode cX1_isPartnerOfOthers 11 = .ok (.iload_n 2, 1) := by decide +kernel
theorem dX1_isPartnerOfOthers_12 : decode cX1_isPartnerOfOthers 12 = .ok (.laload, 1) := by decide +kernel
theorem dX1_isPartnerOfOthers_13 : decode cX1_isPartnerOfOthers 13 = .ok (.aload_n 0, 1) := by decide +kernel
theorem dX1_isPartnerOfOthers_14 : decode cX1_isPartnerOfOthers 14 = .ok (.getfield 27, 3) := by decide +kernel
theorem dX1_isPartnerOfOthers_17 : decode cX1_isPartnerOfOthers 17 = .ok (.iload_n 1, 1) := by decide +kernel
theorem dX1_isPartnerOfOthers_18 : decode cX1_isPartnerOfOthers 18 = .ok (.iconst 5, 1) := by decide +kernel
theorem dX1_isPartnerOfOthers_19 : decode cX1_isPartnerOfOthers 19 = .ok (.imul, 1) := by decide +kernel
theorem dX1_isPartnerOfOthers_20 : decode cX1_isPartnerOfOthers 20 = .ok (.iload_n 2, 1) := by decide +kernel
theorem dX1_isPartnerOfOthers_21 : decode cX1_isPartnerOfOthers 21 = .ok (.iadd, 1) := by decide +kernel
theorem dX1_isPartnerOfOthers_22 : decode cX1_isPartnerOfOthers 22 = .ok (.laload, 1) := by decide +kernel
theorem dX1_isPartnerOfOthers_23 : decode cX1_isPartnerOfOthers 23 = .ok (.ldc2_w 152, 3) := by decide +kernel
theorem dX1_isPartnerOfOthers_26 : decode cX1_isPartnerOfOthers 26 = .ok (.lxor, 1) := by decide +kernel
theorem dX1_isPartnerOfOthers_27 : decode cX1_isPartnerOfOthers 27 = .ok (.land, 1) := by decide +kernel
theorem dX1_isPartnerOfOthers_28 : decode cX1_isPartnerOfOthers 28 = .ok (.lconst 0, 1) := by decide +kernel
theorem dX1_isPartnerOfOthers_29 : decode cX1_isPartnerOfOthers 29 = .ok (.lcmp, 1) := by decide +kernel
theorem dX1_isPartnerOfOthers_30 : decode cX1_isPartnerOfOthers 30 = .ok (.ifCond .eq 5, 3) := by decide +kernel
theorem dX1_isPartnerOfOthers_33 : decode cX1_isPartnerOfOthers 33 = .ok (.iconst 0, 1) := by decide +kernel
theorem dX1_isPartnerOfOthers_34 : decode cX1_isPartnerOfOthers 34 = .ok (.ireturn, 1) := by decide +kernel
theorem dX1_isPartnerOfOthers_35 : decode cX1_isPartnerOfOthers 35 = .ok (.iinc 2 1, 3) := by decide +kernel
theorem dX1_isPartnerOfOthers_38 : decode cX1_isPartnerOfOthers 38 = .ok (.goto (-36), 3) := by decide +kernel
theorem dX1_isPartnerOfOthers_41 : decode cX1_isPartnerOfOthers 41 = .ok (.iconst 1, 1) := by decide +kernel
theorem dX1_isPartnerOfOthers_42 : decode cX1_isPartnerOfOthers 42 = .ok (.ireturn, 1) := by decide +kernel
theorem dX1_sizeOf_0 : decode cX1_sizeOf 0 = .ok (.iconst 0, 1) := by decide +kernel
theorem dX1_sizeOf_1 : decode cX1_sizeOf 1 = .ok (.istore_n 2, 1) := by decide +kernel
theorem dX1_sizeOf_2 : decode cX1_sizeOf 2 = .ok (.aload_n 0, 1) := by decide +kernel
theorem dX1_sizeOf_3 : decode cX1_sizeOf 3 = .ok (.getfield 34, 3) := by decide +kernel
theorem dX1_sizeOf_6 : decode cX1_sizeOf 6 = .ok (.getfield 91, 3) := by decide +kernel
theorem dX1_sizeOf_9 : decode cX1_sizeOf 9 = .ok (.iload_n 1, 1) := by decide +kernel
theorem dX1_sizeOf_10 : decode cX1_sizeOf 10 = .ok (.invokevirtual 107, 3) := by decide +kernel
theorem dX1_sizeOf_13 : decode cX1_sizeOf 13 = .ok (.istore_n 3, 1) := by decide +kernel
theorem dX1_sizeOf_14 : decode cX1_sizeOf 14 = .ok (.iconst 0, 1) := by decide +kernel
theorem dX1_sizeOf_15 : decode cX1_sizeOf 15 = .ok (.istore 4, 2) := by decide +kernel
theorem dX1_sizeOf_17 : decode cX1_sizeOf 17 = .ok (.iload 4, 2) := by decide +kernel
theorem dX1_sizeOf_19 : decode cX1_sizeOf 19 = .ok (.iload_n 3, 1) := by decide +kernel
theorem dX1_sizeOf_20 : decode cX1_sizeOf 20 = .ok (.if_icmp .ge 59, 3) := by decide +kernel
theorem dX1_sizeOf_23 : decode cX1_sizeOf 23 = .ok (.aload_n 0, 1) := by decide +kernel
theorem dX1_sizeOf_24 : decode cX1_sizeOf 24 = .ok (.getfield 34, 3) := by decide +kernel
theorem dX1_sizeOf_27 : decode cX1_sizeOf 27 = .ok (.getfield 91, 3) := by decide +kernel
theorem dX1_sizeOf_30 : decode cX1_sizeOf 30 = .ok (.iload_n 1, 1) := by decide +kernel
theorem dX1_sizeOf_31 : decode cX1_sizeOf 31 = .ok (.iload 4, 2) := by decide +kernel
theorem dX1_sizeOf_33 : decode cX1_sizeOf 33 = .ok (.invokevirtual 110, 3) := by decide +kernel
theorem dX1_sizeOf_36 : decode cX1_sizeOf 36 = .ok (.istore 5, 2) := by decide +kernel
theorem dX1_sizeOf_38 : decode cX1_sizeOf 38 = .ok (.iload_n 2, 1) := by decide +kernel
theorem dX1_sizeOf_39 : decode cX1_sizeOf 39 = .ok (.aload_n 0, 1) := by decide +kernel
theorem dX1_sizeOf_40 : decode cX1_sizeOf 40 = .ok (.getfield 34, 3) := by decide +kernel
theorem dX1_sizeOf_43 : decode cX1_sizeOf 43 = .ok (.iload 5, 2) := by decide +kernel
theorem dX1_sizeOf_45 : decode cX1_sizeOf 45 = .ok (.invokevirtual 140, 3) := by decide +kernel
theorem dX1_sizeOf_48 : decode cX1_sizeOf 48 = .ok (.ifCond .eq 22, 3) := by decide +kernel
theorem dX1_sizeOf_51 : decode cX1_sizeOf 51 = .ok (.aload_n 0, 1) := by decide +kernel
theorem dX1_sizeOf_52 : decode cX1_sizeOf 52 = .ok (.getfield 14, 3) := by decide +kernel
theorem dX1_sizeOf_55 : decode cX1_sizeOf 55 = .ok (.aload_n 0, 1) := by decide +kernel
theorem dX1_sizeOf_56 : decode cX1_sizeOf 56 = .ok (.getfield 23, 3) := by decide +kernel
theorem dX1_sizeOf_59 : decode cX1_sizeOf 59 = .ok (.iload 5, 2) := by decide +kernel
theorem dX1_sizeOf_61 : decode cX1_sizeOf 61 = .ok (.iaload, 1) := by decide +kernel
theorem dX1_sizeOf_62 : decode cX1_sizeOf 62 = .ok (.invokevirtual 107, 3) := by decide +kernel
theorem dX1_sizeOf_65 : decode cX1_sizeOf 65 = .ok (.iconst 1, 1) := by decide +kernel
theorem dX1_sizeOf_66 : decode cX1_sizeOf 66 = .ok (.isub, 1) := by decide +kernel
theorem dX1_sizeOf_67 : decode cX1_sizeOf 67 = .ok (.goto 4, 3) := by decide +kernel
theorem dX1_sizeOf_70 : decode cX1_sizeOf 70 = .ok (.iconst 1, 1) := by decide +kernel
theorem dX1_sizeOf_71 : decode cX1_sizeOf 71 = .ok (.iadd, 1) := by decide +kernel
theorem dX1_sizeOf_72 : decode cX1_sizeOf 72 = .ok (.istore_n 2, 1) := by decide +kernel
theorem dX1_sizeOf_73 : decode cX1_sizeOf 73 = .ok (.iinc 4 1, 3) := by decide +kernel
theorem dX1_sizeOf_76 : decode cX1_sizeOf 76 = .ok (.goto (-59), 3) := by decide +kernel
theorem dX1_sizeOf_79 : decode cX1_sizeOf 79 = .ok (.iload_n 2, 1) := by decide +kernel
theorem dX1_sizeOf_80 : decode cX1_sizeOf 80 = .ok (.ireturn, 1) := by decide +kernel
theorem dX1_pushInstance_0 : decode cX1_pushInstance 0 = .ok (.aload_n 0, 1) := by decide +kernel
theorem dX1_pushInstance_1 : decode cX1_pushInstance 1 = .ok (.getfield 34, 3) := by decide +kernel
theorem dX1_pushInstance_4 : decode cX1_pushInstance 4 = .ok (.getfield 91, 3) := by decide +kernel
theorem dX1_pushInstance_7 : decode cX1_pushInstance 7 = .ok (.iload_n 1, 1) := by decide +kernel
theorem dX1_pushInstance_8 : decode cX1_pushInstance 8 = .ok (.invokevirtual 107, 3) := by decide +kernel
theorem dX1_pushInstance_11 : decode cX1_pushInstance 11 = .ok (.istore_n 2, 1) := by decide +kernel
theorem dX1_pushInstance_12 : decode cX1_pushInstance 12 = .ok (.iconst 0, 1) := by decide +kernel
theorem dX1_pushInstance_13 : decode cX1_pushInstance 13 = .ok (.istore_n 3, 1) := by decide +kernel
theorem dX1_pushInstance_14 : decode cX1_pushInstance 14 = .ok (.iload_n 3, 1) := by decide +kernel
theorem dX1_pushInstance_15 : decode cX1_pushInstance 15 = .ok (.iload_n 2, 1) := by decide +kernel
theorem dX1_pushInstance_16 : decode cX1_pushInstance 16 = .ok (.if_icmp .ge 66, 3) := by decide +kernel
theorem dX1_pushInstance_19 : decode cX1_pushInstance 19 = .ok (.aload_n 0, 1) := by decide +kernel
theorem dX1_pushInstance_20 : decode cX1_pushInstance 20 = .ok (.getfield 34, 3) := by decide +kernel
theorem dX1_pushInstance_23 : decode cX1_pushInstance 23 = .ok (.getfield 91, 3) := by decide +kernel
theorem dX1_pushInstance_26 : decode cX1_pushInstance 26 = .ok (.iload_n 1, 1) := by decide +kernel
theorem dX1_pushInstance_27 : decode cX1_pushInstance 27 = .ok (.iload_n 3, 1) := by decide +kernel
theorem dX1_pushInstance_28 : decode cX1_pushInstance 28 = .ok (.invokevirtual 110, 3) := by decide +kernel
theorem dX1_pushInstance_31 : decode cX1_pushInstance 31 = .ok (.istore 4, 2) := by decide +kernel
theorem dX1_pushInstance_33 : decode cX1_pushInstance 33 = .ok (.aload_n 0, 1) := by decide +kernel
theorem dX1_pushInstance_34 : decode cX1_pushInstance 34 = .ok (.getfield 34, 3) := by decide +kernel
theorem dX1_pushInstance_37 : decode cX1_pushInstance 37 = .ok (.iload 4, 2) := by decide +kernel
theorem dX1_pushInstance_39 : decode cX1_pushInstance 39 = .ok (.invokevirtual 140, 3) := by decide +kernel
theorem dX1_pushInstance_42 : decode cX1_pushInstance 42 = .ok (.ifCond .eq 25, 3) := by decide +kernel
theorem dX1_pushInstance_45 : decode cX1_pushInstance 45 = .ok (.aload_n 0, 1) := by decide +kernel
theorem dX1_pushInstance_46 : decode cX1_pushInstance 46 = .ok (.getfield 14, 3) := by decide +kernel
theorem dX1_pushInstance_49 : decode cX1_pushInstance 49 = .ok (.aload_n 0, 1) := by decide +kernel
theorem dX1_pushInstance_50 : decode cX1_pushInstance 50 = .ok (.getfield 14, 3) := by decide +kernel
theorem dX1_pushInstance_53 : decode cX1_pushInstance 53 = .ok (.aload_n 0, 1) := by decide +kernel
theorem dX1_pushInstance_54 : decode cX1_pushInstance 54 = .ok (.getfield 23, 3) := by decide +kernel
theorem dX1_pushInstance_57 : decode cX1_pushInstance 57 = .ok (.iload 4, 2) := by decide +kernel
theorem dX1_pushInstance_59 : decode cX1_pushInstance 59 = .ok (.iaload, 1) := by decide +kernel
theorem dX1_pushInstance_60 : decode cX1_pushInstance 60 = .ok (.iconst 1, 1) := by decide +kernel
theorem dX1_pushInstance_61 : decode cX1_pushInstance 61 = .ok (.invokevirtual 84, 3) := by decide +kernel
theorem dX1_pushInstance_64 : decode cX1_pushInstance 64 = .ok (.goto 12, 3) := by decide +kernel
theorem dX1_pushInstance_67 : decode cX1_pushInstance 67 = .ok (.aload_n 0, 1) := by decide +kernel
theorem dX1_pushInstance_68 : decode cX1_pushInstance 68 = .ok (.getfield 14, 3) := by decide +kernel
theorem dX1_pushInstance_71 : decode cX1_pushInstance 71 = .ok (.iload 4, 2) := by decide +kernel
theorem dX1_pushInstance_73 : decode cX1_pushInstance 73 = .ok (.invokevirtual 154, 3) := by decide +kernel
theorem dX1_pushInstance_76 : decode cX1_pushInstance 76 = .ok (.iinc 3 1, 3) := by decide +kernel
theorem dX1_pushInstance_79 : decode cX1_pushInstance 79 = .ok (.goto (-65), 3) := by decide +kernel
theorem dX1_pushInstance_82 : decode cX1_pushInstance 82 = .ok (.aload_n 0, 1) := by decide +kernel
theorem dX1_pushInstance_83 : decode cX1_pushInstance 83 = .ok (.getfield 14, 3) := by decide +kernel
theorem dX1_pushInstance_86 : decode cX1_pushInstance 86 = .ok (.invokevirtual 88, 3) := by decide +kernel
theorem dX1_pushInstance_89 : decode cX1_pushInstance 89 = .ok (.return_, 1) := by decide +kernel
theorem dX2_init_0 : decode cX2_init 0 = .ok (.aload_n 0, 1) := by decide +kernel
theorem dX2_init_1 : decode cX2_init 1 = .ok (.invokespecial 3, 3) := by decide +kernel
theorem dX2_init_4 : decode cX2_init 4 = .ok (.aload_n 0, 1) := by decide +kernel
theorem dX2_init_5 : decode cX2_init 5 = .ok (.sipush 8192, 3) := by decide +kernel
theorem dX2_init_8 : decode cX2_init 8 = .ok (.newarray .byte, 2) := by decide +kernel
theorem dX2_init_10 : decode cX2_init 10 = .ok (.putfield 9, 3) := by decide +kernel
theorem dX2_init_13 : decode cX2_init 13 = .ok (.aload_n 0, 1) := by decide +kernel
theorem dX2_init_14 : decode cX2_init 14 = .ok (.sipush 256, 3) := by decide +kernel
theorem dX2_init_17 : decode cX2_init 17 = .ok (.newarray .int, 2) := by decide +kernel
theorem dX2_init_19 : decode cX2_init 19 = .ok (.putfield 15, 3) := by decide +kernel
theorem dX2_init_22 : decode cX2_init 22 = .ok (.aload_n 0, 1) := by decide +kernel
theorem dX2_init_23 : decode cX2_init 23 = .ok (.sipush 500, 3) := by decide +kernel
theorem dX2_init_26 : decode cX2_init 26 = .ok (.newarray .int, 2) := by decide +kernel
theorem dX2_init_28 : decode cX2_init 28 = .ok (.putfield 19, 3) := by decide +kernel
theorem dX2_init_31 : decode cX2_init 31 = .ok (.aload_n 0, 1) := by decide +kernel
theorem dX2_init_32 : decode cX2_init 32 = .ok (.sipush 500, 3) := by decide +kernel
theorem dX2_init_35 : decode cX2_init 35 = .ok (.newarray .int, 2) := by decide +kernel
theorem dX2_init_37 : decode cX2_init 37 = .ok (.putfield 22, 3) := by decide +kernel
theorem dX2_init_40 : decode cX2_init 40 = .ok (.aload_n 0, 1) := by decide +kernel
theorem dX2_init_41 : decode cX2_init 41 = .ok (.sipush 500, 3) := by decide +kernel
theorem dX2_init_44 : decode cX2_init 44 = .ok (.newarray .int, 2) := by decide +kernel
theorem dX2_init_46 : decode cX2_init 46 = .ok (.putfield 25, 3) := by decide +kernel
theorem dX2_init_49 : decode cX2_init 49 = .ok (.aload_n 0, 1) := by decide +kernel
theorem dX2_init_50 : decode cX2_init 50 = .ok (.getfield 15, 3) := by decide +kernel
theorem dX2_init_53 : decode cX2_init 53 = .ok (.iconst (-1), 1) := by decide +kernel
theorem dX2_init_54 : decode cX2_init 54 = .ok (.invokestatic 28, 3) := by decide +kernel
theorem dX2_init_57 : decode cX2_init 57 = .ok (.return_, 1) := by decide +kernel
theorem dX2_clear_0 : decode cX2_clear 0 = .ok (.aload_n 0, 1) := by decide +kernel
theorem dX2_clear_1 : decode cX2_clear 1 = .ok (.getfield 15, 3) := by decide +kernel
theorem dX2_clear_4 : decode cX2_clear 4 = .ok (.iconst (-1), 1) := by decide +kernel
theorem dX2_clear_5 : decode cX2_clear 5 = .ok (.invokestatic 28, 3) := by decide +kernel
theorem dX2_clear_8 : decode cX2_clear 8 = .ok (.return_, 1) := by decide +kernel
theorem dX2_headOf_0 : decode cX2_headOf 0 = .ok (.iload_n 2, 1) := by decide +kernel
theorem dX2_headOf_1 : decode cX2_headOf 1 = .ok (.istore_n 3, 1) := by decide +kernel
theorem dX2_headOf_2 : decode cX2_headOf 2 = .ok (.iconst 0, 1) := by decide +kernel
theorem dX2_headOf_3 : decode cX2_headOf 3 = .ok (.istore 4, 2) := by decide +kernel
theorem dX2_headOf_5 : decode cX2_headOf 5 = .ok (.iload 4, 2) := by decide +kernel
theorem dX2_headOf_7 : decode cX2_headOf 7 = .ok (.iload_n 2, 1) := by decide +kernel
theorem dX2_headOf_8 : decode cX2_headOf 8 = .ok (.if_icmp .ge 21, 3) := by decide +kernel
theorem dX2_headOf_11 : decode cX2_headOf 11 = .ok (.bipush 31, 2) := by decide +kernel
theorem dX2_headOf_13 : decode cX2_headOf 13 = .ok (.iload_n 3, 1) := by decide +kernel
theorem dX2_headOf_14 : decode cX2_headOf 14 = .ok (.imul, 1) := by decide +kernel
theorem dX2_headOf_15 : decode cX2_headOf 15 = .ok (.aload_n 0, 1) := by decide +kernel
theorem dX2_headOf_16 : decode cX2_headOf 16 = .ok (.iload_n 1, 1) := by decide +kernel
theorem dX2_headOf_17 : decode cX2_headOf 17 = .ok (.iload 4, 2) := by decide +kernel
theorem dX2_headOf_19 : decode cX2_headOf 19 = .ok (.iadd, 1) := by decide +kernel
theorem dX2_headOf_20 : decode cX2_headOf 20 = .ok (.baload, 1) := by decide +kernel
theorem dX2_headOf_21 : decode cX2_headOf 21 = .ok (.iadd, 1) := by decide +kernel
theorem dX2_headOf_22 : decode cX2_headOf 22 = .ok (.istore_n 3, 1) := by decide +kernel
theorem dX2_headOf_23 : decode cX2_headOf 23 = .ok (.iinc 4 1, 3) := by decide +kernel
theorem dX2_headOf_26 : decode cX2_headOf 26 = .ok (.goto (-21), 3) := by decide +kernel
theorem dX2_headOf_29 : decode cX2_headOf 29 = .ok (.iload_n 3, 1) := by decide +kernel
theorem dX2_headOf_30 : decode cX2_headOf 30 = .ok (.iload_n 3, 1) := by decide +kernel
theorem dX2_headOf_31 : decode cX2_headOf 31 = .ok (.bipush 8, 2) := by decide +kernel
theorem dX2_headOf_33 : decode cX2_headOf 33 = .ok (.iushr, 1) := by decide +kernel
theorem dX2_headOf_34 : decode cX2_headOf 34 = .ok (.ixor, 1) := by decide +kernel
theorem dX2_headOf_35 : decode cX2_headOf 35 = .ok (.sipush 255, 3) := by decide +kernel
theorem dX2_headOf_38 : decode cX2_headOf 38 = .ok (.iand, 1) := by decide +kernel
theorem dX2_headOf_39 : decode cX2_headOf 39 = .ok (.ireturn, 1) := by decide +kernel
theorem dX2_add_0 : decode cX2_add 0 = .ok (.aload_n 0, 1) := by decide +kernel
theorem dX2_add_1 : decode cX2_add 1 = .ok (.getfield 9, 3) := by decide +kernel
theorem dX2_add_4 : decode cX2_add 4 = .ok (.iload_n 2, 1) := by decide +kernel
theorem dX2_add_5 : decode cX2_add 5 = .ok (.iload_n 3, 1) := by decide +kernel
theorem dX2_add_6 : decode cX2_add 6 = .ok (.invokestatic 34, 3) := by decide +kernel
theorem dX2_add_9 : decode cX2_add 9 = .ok (.istore 4, 2) := by decide +kernel
theorem dX2_add_11 : decode cX2_add 11 = .ok (.aload_n 0, 1) := by decide +kernel
theorem dX2_add_12 : decode cX2_add 12 = .ok (.getfield 22, 3) := by decide +kernel
theorem dX2_add_15 : decode cX2_add 15 = .ok (.iload_n 1, 1) := by decide +kernel
theorem dX2_add_16 : decode cX2_add 16 = .ok (.iload_n 2, 1) := by decide +kernel
theorem dX2_add_17 : decode cX2_add 17 = .ok (.iastore, 1) := by decide +kernel
theorem dX2_add_18 : decode cX2_add 18 = .ok (.aload_n 0, 1) := by decide +kernel
theorem dX2_add_19 : decode cX2_add 19 = .ok (.getfield 25, 3) := by decide +kernel
theorem dX2_add_22 : decode cX2_add 22 = .ok (.iload_n 1, 1) := by decide +kernel
theorem dX2_add_23 : decode cX2_add 23 = .ok (.iload_n 3, 1) := by decide +kernel
theorem dX2_add_24 : decode cX2_add 24 = .ok (.iastore, 1) := by decide +kernel
theorem dX2_add_25 : decode cX2_add 25 = .ok (.aload_n 0, 1) := by decide +kernel
theorem dX2_add_26 : decode cX2_add 26 = .ok (.getfield 19, 3) := by decide +kernel
theorem dX2_add_29 : decode cX2_add 29 = .ok (.iload_n 1, 1) := by decide +kernel
theorem dX2_add_30 : decode cX2_add 30 = .ok (.aload_n 0, 1) := by decide +kernel
theorem dX2_add_31 : decode cX2_add 31 = .ok (.getfield 15, 3) := by decide +kernel
theorem dX2_add_34 : decode cX2_add 34 = .ok (.iload 4, 2) := by decide +kernel
theorem dX2_add_36 : decode cX2_add 36 = .ok (.iaload, 1) := by decide +kernel
theorem dX2_add_37 : decode cX2_add 37 = .ok (.iastore, 1) := by decide +kernel
theorem dX2_add_38 : decode cX2_add 38 = .ok (.aload_n 0, 1) := by decide +kernel
theorem dX2_add_39 : decode cX2_add 39 = .ok (.getfield 15, 3) := by decide +kernel
theorem dX2_add_42 : decode cX2_add 42 = .ok (.iload 4, 2) := by decide +kernel
theorem dX2_add_44 : decode cX2_add 44 = .ok (.iload_n 1, 1) := by decide +kernel
theorem dX2_add_45 : decode cX2_add 45 = .ok (.iastore, 1) := by decide +kernel
theorem dX2_add_46 : decode cX2_add 46 = .ok (.return_, 1) := by decide +kernel
theorem dX2_lookUp_0 : decode cX2_lookUp 0 = .ok (.aload_n 0, 1) := by decide +kernel
theorem dX2_lookUp_1 : decode cX2_lookUp 1 = .ok (.getfield 15, 3) := by decide +kernel
theorem dX2_lookUp_4 : decode cX2_lookUp 4 = .ok (.aload_n 1, 1) := by decide +kernel
theorem dX2_lookUp_5 : decode cX2_lookUp 5 = .ok (.iload_n 2, 1) := by decide +kernel
theorem dX2_lookUp_6 : decode cX2_lookUp 6 = .ok (.iload_n 3, 1) := by decide +kernel
theorem dX2_lookUp_7 : decode cX2_lookUp 7 = .ok (.invokestatic 34, 3) := by decide +kernel
theorem dX2_lookUp_10 : decode cX2_lookUp 10 = .ok (.iaload, 1) := by decide +kernel
theorem dX2_lookUp_11 : decode cX2_lookUp 11 = .ok (.istore 4, 2) := by decide +kernel
theorem dX2_lookUp_13 : decode cX2_lookUp 13 = .ok (.iconst 0, 1) := by decide +kernel
theorem dX2_lookUp_14 : decode cX2_lookUp 14 = .ok (.istore 5, 2) := by decide +kernel
theorem dX2_lookUp_16 : decode cX2_lookUp 16 = .ok (.iload 5, 2) := by decide +kernel
theorem dX2_lookUp_18 : decode cX2_lookUp 18 = .ok (.sipush 500, 3) := by decide +kernel
theorem dX2_lookUp_21 : decode cX2_lookUp 21 = .ok (.if_icmp .ge 49, 3) := by decide +kernel
theorem dX2_lookUp_24 : decode cX2_lookUp 24 = .ok (.iload 4, 2) := by decide +kernel
theorem dX2_lookUp_26 : decode cX2_lookUp 26 = .ok (.iconst (-1), 1) := by decide +kernel
theorem dX2_lookUp_27 : decode cX2_lookUp 27 = .ok (.if_icmp .eq 43, 3) := by decide +kernel
theorem dX2_lookUp_30 : decode cX2_lookUp 30 = .ok (.aload_n 0, 1) := by decide +kernel
theorem dX2_lookUp_31 : decode cX2_lookUp 31 = .ok (.getfield 25, 3) := by decide +kernel
theorem dX2_lookUp_34 : decode cX2_lookUp 34 = .ok (.iload 4, 2) := by decide +kernel
theorem dX2_lookUp_36 : decode cX2_lookUp 36 = .ok (.iaload, 1) := by decide +kernel
theorem dX2_lookUp_37 : decode cX2_lookUp 37 = .ok (.iload_n 3, 1) := by decide +kernel
theorem dX2_lookUp_38 : decode cX2_lookUp 38 = .ok (.if_icmp .ne 17, 3) := by decide +kernel
theorem dX2_lookUp_41 : decode cX2_lookUp 41 = .ok (.aload_n 0, 1) := by decide +kernel
theorem dX2_lookUp_42 : decode cX2_lookUp 42 = .ok (.iload 4, 2) := by decide +kernel
theorem dX2_lookUp_44 : decode cX2_lookUp 44 = .ok (.aload_n 1, 1) := by decide +kernel
theorem dX2_lookUp_45 : decode cX2_lookUp 45 = .ok (.iload_n 2, 1) := by decide +kernel
theorem dX2_lookUp_46 : decode cX2_lookUp 46 = .ok (.invokevirtual 38, 3) := by decide +kernel
theorem dX2_lookUp_49 : decode cX2_lookUp 49 = .ok (.ifCond .eq 6, 3) := by decide +kernel
theorem dX2_lookUp_52 : decode cX2_lookUp 52 = .ok (.iload 4, 2) := by decide +kernel
theorem dX2_lookUp_54 : decode cX2_lookUp 54 = .ok (.ireturn, 1) := by decide +kernel
theorem dX2_lookUp_55 : decode cX2_lookUp 55 = .ok (.aload_n 0, 1) := by decide +kernel
theorem dX2_lookUp_56 : decode cX2_lookUp 56 = .ok (.getfield 19, 3) := by decide +kernel
theorem dX2_lookUp_59 : decode cX2_lookUp 59 = .ok (.iload 4, 2) := by decide +kernel
theorem dX2_lookUp_61 : decode cX2_lookUp 61 = .ok (.iaload, 1) := by decide +kernel
theorem dX2_lookUp_62 : decode cX2_lookUp 62 = .ok (.istore 4, 2) := by decide +kernel
theorem dX2_lookUp_64 : decode cX2_lookUp 64 = .ok (.iinc 5 1, 3) := by decide +kernel
theorem dX2_lookUp_67 : decode cX2_lookUp 67 = .ok (.goto (-51), 3) := by decide +kernel
theorem dX2_lookUp_70 : decode cX2_lookUp 70 = .ok (.iconst (-1), 1) := by decide +kernel
theorem dX2_lookUp_71 : decode cX2_lookUp 71 = .ok (.ireturn, 1) := by decide +kernel
theorem dX2_isSame_0 : decode cX2_isSame 0 = .ok (.iconst 0, 1) := by decide +kernel
theorem dX2_isSame_1 : decode cX2_isSame 1 = .ok (.istore 4, 2) := by decide +kernel
theorem dX2_isSame_3 : decode cX2_isSame 3 = .ok (.iload 4, 2) := by decide +kernel
theorem dX2_isSame_5 : decode cX2_isSame 5 = .ok (.aload_n 0, 1) := by decide +kernel
theorem dX2_isSame_6 : decode cX2_isSame 6 = .ok (.getfield 25, 3) := by decide +kernel
theorem dX2_isSame_9 : decode cX2_isSame 9 = .ok (.iload_n 1, 1) := by decide +kernel
theorem dX2_isSame_10 : decode cX2_isSame 10 = .ok (.iaload, 1) := by decide +kernel
theorem dX2_isSame_11 : decode cX2_isSame 11 = .ok (.if_icmp .ge 34, 3) := by decide +kernel
theorem dX2_isSame_14 : decode cX2_isSame 14 = .ok (.aload_n 0, 1) := by decide +kernel
theorem dX2_isSame_15 : decode cX2_isSame 15 = .ok (.getfield 9, 3) := by decide +kernel
theorem dX2_isSame_18 : decode cX2_isSame 18 = .ok (.aload_n 0, 1) := by decide +kernel
theorem dX2_isSame_19 : decode cX2_isSame 19 = .ok (.getfield 22, 3) := by decide +kernel
theorem dX2_isSame_22 : decode cX2_isSame 22 = .ok (.iload_n 1, 1) := by decide +kernel
theorem dX2_isSame_23 : decode cX2_isSame 23 = .ok (.iaload, 1) := by decide +kernel
theorem dX2_isSame_24 : decode cX2_isSame 24 = .ok (.iload 4, 2) := by decide +kernel
theorem dX2_isSame_26 : decode cX2_isSame 26 = .ok (.iadd, 1) := by decide +kernel
theorem dX2_isSame_27 : decode cX2_isSame 27 = .ok (.baload, 1) := by decide +kernel
theorem dX2_isSame_28 : decode cX2_isSame 28 = .ok (.aload_n 2, 1) := by decide +kernel
theorem dX2_isSame_29 : decode cX2_isSame 29 = .ok (.iload_n 3, 1) := by decide +kernel
theorem dX2_isSame_30 : decode cX2_isSame 30 = .ok (.iload 4, 2) := by decide +kernel
theorem dX2_isSame_32 : decode cX2_isSame 32 = .ok (.iadd, 1) := by decide +kernel
theorem dX2_isSame_33 : decode cX2_isSame 33 = .ok (.baload, 1) := by decide +kernel
theorem dX2_isSame_34 : decode cX2_isSame 34 = .ok (.if_icmp .eq 5, 3) := by decide +kernel
theorem dX2_isSame_37 : decode cX2_isSame 37 = .ok (.iconst 0, 1) := by decide +kernel
theorem dX2_isSame_38 : decode cX2_isSame 38 = .ok (.ireturn, 1) := by decide +kernel
theorem dX2_isSame_39 : decode cX2_isSame 39 = .ok (.iinc 4 1, 3) := by decide +kernel
theorem dX2_isSame_42 : decode cX2_isSame 42 = .ok (.goto (-39), 3) := by decide +kernel
theorem dX2_isSame_45 : decode cX2_isSame 45 = .ok (.iconst 1, 1) := by decide +kernel
theorem dX2_isSame_46 : decode cX2_isSame 46 = .ok (.ireturn, 1) := by decide +kernel
theorem dX2_byteOf_0 : decode cX2_byteOf 0 = .ok (.iload_n 2, 1) := by decide +kernel
theorem dX2_byteOf_1 : decode cX2_byteOf 1 = .ok (.ifCond .lt 29, 3) := by decide +kernel
theorem dX2_byteOf_4 : decode cX2_byteOf 4 = .ok (.iload_n 2, 1) := by decide +kernel
theorem dX2_byteOf_5 : decode cX2_byteOf 5 = .ok (.aload_n 0, 1) := by decide +kernel
theorem dX2_byteOf_6 : decode cX2_byteOf 6 = .ok (.getfield 25, 3) := by decide +kernel
theorem dX2_byteOf_9 : decode cX2_byteOf 9 = .ok (.iload_n 1, 1) := by decide +kernel
theorem dX2_byteOf_10 : decode cX2_byteOf 10 = .ok (.iaload, 1) := by decide +kernel
theorem dX2_byteOf_11 : decode cX2_byteOf 11 = .ok (.if_icmp .ge 19, 3) := by decide +kernel
theorem dX2_byteOf_14 : decode cX2_byteOf 14 = .ok (.aload_n 0, 1) := by decide +kernel
theorem dX2_byteOf_15 : decode cX2_byteOf 15 = .ok (.getfield 9, 3) := by decide +kernel
theorem dX2_byteOf_18 : decode cX2_byteOf 18 = .ok (.aload_n 0, 1) := by decide +kernel
theorem dX2_byteOf_19 : decode cX2_byteOf 19 = .ok (.getfield 22, 3) := by decide +kernel
theorem dX2_byteOf_22 : decode cX2_byteOf 22 = .ok (.iload_n 1, 1) := by decide +kernel
theorem dX2_byteOf_23 : decode cX2_byteOf 23 = .ok (.iaload, 1) := by decide +kernel
theorem dX2_byteOf_24 : decode cX2_byteOf 24 = .ok (.iload_n 2, 1) := by decide +kernel
theorem dX2_byteOf_25 : decode cX2_byteOf 25 = .ok (.iadd, 1) := by decide +kernel
theorem dX2_byteOf_26 : decode cX2_byteOf 26 = .ok (.baload, 1) := by decide +kernel
theorem dX2_byteOf_27 : decode cX2_byteOf 27 = .ok (.goto 4, 3) := by decide +kernel
theorem dX2_byteOf_30 : decode cX2_byteOf 30 = .ok (.iconst (-1), 1) := by decide +kernel
theorem dX2_byteOf_31 : decode cX2_byteOf 31 = .ok (.ireturn, 1) := by decide +kernel
theorem dX2_lengthOf_0 : decode cX2_lengthOf 0 = .ok (.aload_n 0, 1) := by decide +kernel
theorem dX2_lengthOf_1 : decode cX2_lengthOf 1 = .ok (.getfield 25, 3) := by decide +kernel
theorem dX2_lengthOf_4 : decode cX2_lengthOf 4 = .ok (.iload_n 1, 1) := by decide +kernel
theorem dX2_lengthOf_5 : decode cX2_lengthOf 5 = .ok (.iaload, 1) := by decide +kernel
theorem dX2_lengthOf_6 : decode cX2_lengthOf 6 = .ok (.ireturn, 1) := by decide +kernel
theorem dX3_init_0 : decode cX3_init 0 = .ok (.aload_n 0, 1) := by decide +kernel
theorem dX3_init_1 : decode cX3_init 1 = .ok (.invokespecial 3, 3) := by decide +kernel
theorem dX3_init_4 : decode cX3_init 4 = .ok (.aload_n 0, 1) := by decide +kernel
theorem dX3_init_5 : decode cX3_init 5 = .ok (.sipush 1000, 3) := by decide +kernel
theorem dX3_init_8 : decode cX3_init 8 = .ok (.newarray .int, 2) := by decide +kernel
theorem dX3_init_10 : decode cX3_init 10 = .ok (.putfield 9, 3) := by decide +kernel
theorem dX3_init_13 : decode cX3_init 13 = .ok (.aload_n 0, 1) := by decide +kernel
theorem dX3_init_14 : decode cX3_init 14 = .ok (.sipush 1000, 3) := by decide +kernel
theorem dX3_init_17 : decode cX3_init 17 = .ok (.newarray .byte, 2) := by decide +kernel
theorem dX3_init_19 : decode cX3_init 19 = .ok (.putfield 15, 3) := by decide +kernel
theorem dX3_init_22 : decode cX3_init 22 = .ok (.aload_n 0, 1) := by decide +kernel
theorem dX3_init_23 : decode cX3_init 23 = .ok (.sipush 200, 3) := by decide +kernel
theorem dX3_init_26 : decode cX3_init 26 = .ok (.newarray .int, 2) := by decide +kernel
theorem dX3_init_28 : decode cX3_init 28 = .ok (.putfield 19, 3) := by decide +kernel
theorem dX3_init_31 : decode cX3_init 31 = .ok (.aload_n 0, 1) := by decide +kernel
theorem dX3_init_32 : decode cX3_init 32 = .ok (.sipush 200, 3) := by decide +kernel
theorem dX3_init_35 : decode cX3_init 35 = .ok (.newarray .byte, 2) := by decide +kernel
theorem dX3_init_37 : decode cX3_init 37 = .ok (.putfield 22, 3) := by decide +kernel
theorem dX3_init_40 : decode cX3_init 40 = .ok (.aload_n 0, 1) := by decide +kernel
theorem dX3_init_41 : decode cX3_init 41 = .ok (.aload_n 1, 1) := by decide +kernel
theorem dX3_init_42 : decode cX3_init 42 = .ok (.putfield 25, 3) := by decide +kernel
theorem dX3_init_45 : decode cX3_init 45 = .ok (.return_, 1) := by decide +kernel
theorem dX3_decode_0 : decode cX3_decode 0 = .ok (.aload_n 0, 1) := by decide +kernel
theorem dX3_decode_1 : decode cX3_decode 1 = .ok (.aload_n 1, 1) := by decide +kernel
theorem dX3_decode_2 : decode cX3_decode 2 = .ok (.putfield 25, 3) := by decide +kernel
theorem dX3_decode_5 : decode cX3_decode 5 = .ok (.aload_n 0, 1) := by decide +kernel
theorem dX3_decode_6 : decode cX3_decode 6 = .ok (.iload_n 2, 1) := by decide +kernel
theorem dX3_decode_7 : decode cX3_decode 7 = .ok (.putfield 29, 3) := by decide +kernel
theorem dX3_decode_10 : decode cX3_decode 10 = .ok (.aload_n 0, 1) := by decide +kernel
theorem dX3_decode_11 : decode cX3_decode 11 = .ok (.iconst 0, 1) := by decide +kernel
theorem dX3_decode_12 : decode cX3_decode 12 = .ok (.putfield 33, 3) := by decide +kernel
theorem dX3_decode_15 : decode cX3_decode 15 = .ok (.aload_n 0, 1) := by decide +kernel
theorem dX3_decode_16 : decode cX3_decode 16 = .ok (.iconst 0, 1) := by decide +kernel
theorem dX3_decode_17 : decode cX3_decode 17 = .ok (.putfield 36, 3) := by decide +kernel
theorem dX3_decode_20 : decode cX3_decode 20 = .ok (.aload_n 0, 1) := by decide +kernel
theorem dX3_decode_21 : decode cX3_decode 21 = .ok (.iconst 0, 1) := by decide +kernel
theorem dX3_decode_22 : decode cX3_decode 22 = .ok (.putfield 39, 3) := by decide +kernel
theorem dX3_decode_25 : decode cX3_decode 25 = .ok (.aload_n 0, 1) := by decide +kernel
theorem dX3_decode_26 : decode cX3_decode 26 = .ok (.invokevirtual 42, 3) := by decide +kernel
theorem dX3_decode_29 : decode cX3_decode 29 = .ok (.ifCond .eq 5, 3) := by decide +kernel
theorem dX3_decode_32 : decode cX3_decode 32 = .ok (.iconst 1, 1) := by decide +kernel
theorem dX3_decode_33 : decode cX3_decode 33 = .ok (.ireturn, 1) := by decide +kernel
theorem dX3_decode_34 : decode cX3_decode 34 = .ok (.aload_n 0, 1) := by decide +kernel
theorem dX3_decode_35 : decode cX3_decode 35 = .ok (.getfield 25, 3) := by decide +kernel
theorem dX3_decode_38 : decode cX3_decode 38 = .ok (.getfield 46, 3) := by decide +kernel
theorem dX3_decode_41 : decode cX3_decode 41 = .ok (.iload_n 2, 1) := by decide +kernel
theorem dX3_decode_42 : decode cX3_decode 42 = .ok (.invokevirtual 52, 3) := by decide +kernel
theorem dX3_decode_45 : decode cX3_decode 45 = .ok (.ifCond .ne 5, 3) := by decide +kernel
theorem dX3_decode_48 : decode cX3_decode 48 = .ok (.iconst (-1), 1) := by decide +kernel
theorem dX3_decode_49 : decode cX3_decode 49 = .ok (.ireturn, 1) := by decide +kernel
theorem dX3_decode_50 : decode cX3_decode 50 = .ok (.aload_n 0, 1) := by decide +kernel
theorem dX3_decode_51 : decode cX3_decode 51 = .ok (.getfield 25, 3) := by decide +kernel
theorem dX3_decode_54 : decode cX3_decode 54 = .ok (.getfield 58, 3) := by decide +kernel
theorem dX3_decode_57 : decode cX3_decode 57 = .ok (.iload_n 2, 1) := by decide +kernel
theorem dX3_decode_58 : decode cX3_decode 58 = .ok (.baload, 1) := by decide +kernel
theorem dX3_decode_59 : decode cX3_decode 59 = .ok (.ifCond .eq 7, 3) := by decide +kernel
theorem dX3_decode_62 : decode cX3_decode 62 = .ok (.iconst 1, 1) := by decide +kernel
theorem dX3_decode_63 : decode cX3_decode 63 = .ok (.goto 4, 3) := by decide +kernel
theorem dX3_decode_66 : decode cX3_decode 66 = .ok (.iconst 0, 1) := by decide +kernel
theorem dX3_decode_67 : decode cX3_decode 67 = .ok (.istore_n 3, 1) := by decide +kernel
theorem dX3_decode_68 : decode cX3_decode 68 = .ok (.iload_n 3, 1) := by decide +kernel
theorem dX3_decode_69 : decode cX3_decode 69 = .ok (.ifCond .eq 10, 3) := by decide +kernel
theorem dX3_decode_72 : decode cX3_decode 72 = .ok (.aload_n 0, 1) := by decide +kernel
theorem dX3_decode_73 : decode cX3_decode 73 = .ok (.invokevirtual 61, 3) := by decide +kernel
theorem dX3_decode_76 : decode cX3_decode 76 = .ok (.goto 7, 3) := by decide +kernel
theorem dX3_decode_79 : decode cX3_decode 79 = .ok (.aload_n 0, 1) := by decide +kernel
theorem dX3_decode_80 : decode cX3_decode 80 = .ok (.invokevirtual 65, 3) := by decide +kernel
theorem dX3_decode_83 : decode cX3_decode 83 = .ok (.istore 4, 2) := by decide +kernel
theorem dX3_decode_85 : decode cX3_decode 85 = .ok (.iload 4, 2) := by decide +kernel
theorem dX3_decode_87 : decode cX3_decode 87 = .ok (.ifCond .ne 13, 3) := by decide +kernel
theorem dX3_decode_90 : decode cX3_decode 90 = .ok (.iload_n 3, 1) := by decide +kernel
theorem dX3_decode_91 : decode cX3_decode 91 = .ok (.ifCond .eq 9, 3) := by decide +kernel
theorem dX3_decode_94 : decode cX3_decode 94 = .ok (.aload_n 0, 1) := by decide +kernel
theorem dX3_decode_95 : decode cX3_decode 95 = .ok (.invokevirtual 68, 3) := by decide +kernel
theorem dX3_decode_98 : decode cX3_decode 98 = .ok (.istore 4, 2) := by decide +kernel
theorem dX3_decode_100 : decode cX3_decode 100 = .ok (.iload 4, 2) := by decide +kernel
theorem dX3_decode_102 : decode cX3_decode 102 = .ok (.ifCond .ne 11, 3) := by decide +kernel
theorem dX3_decode_105 : decode cX3_decode 105 = .ok (.aload_n 0, 1) := by decide +kernel
theorem dX3_decode_106 : decode cX3_decode 106 = .ok (.aload_n 0, 1) := by decide +kernel
theorem dX3_decode_107 : decode cX3_decode 107 = .ok (.getfield 33, 3) := by decide +kernel
theorem dX3_decode_110 : decode cX3_decode 110 = .ok (.putfield 39, 3) := by decide +kernel
theorem dX3_decode_113 : decode cX3_decode 113 = .ok (.iload 4, 2) := by decide +kernel
theorem dX3_decode_115 : decode cX3_decode 115 = .ok (.ireturn, 1) := by decide +kernel
theorem dX3_isOpen_0 : decode cX3_isOpen 0 = .ok (.aload_n 0, 1) := by decide +kernel
theorem dX3_isOpen_1 : decode cX3_isOpen 1 = .ok (.getfield 25, 3) := by decide +kernel
theorem dX3_isOpen_4 : decode cX3_isOpen 4 = .ok (.getfield 46, 3) := by decide +kernel
theorem dX3_isOpen_7 : decode cX3_isOpen 7 = .ok (.aload_n 0, 1) := by decide +kernel
theorem dX3_isOpen_8 : decode cX3_isOpen 8 = .ok (.getfield 29, 3) := by decide +kernel
theorem dX3_isOpen_11 : decode cX3_isOpen 11 = .ok (.invokevirtual 52, 3) := by decide +kernel
theorem dX3_isOpen_14 : decode cX3_isOpen 14 = .ok (.istore_n 1, 1) := by decide +kernel
theorem dX3_isOpen_15 : decode cX3_isOpen 15 = .ok (.iconst 0, 1) := by decide +kernel
theorem dX3_isOpen_16 : decode cX3_isOpen 16 = .ok (.istore_n 2, 1) := by decide +kernel
theorem dX3_isOpen_17 : decode cX3_isOpen 17 = .ok (.iload_n 2, 1) := by decide +kernel
theorem dX3_isOpen_18 : decode cX3_isOpen 18 = .ok (.iload_n 1, 1) := by decide +kernel
theorem dX3_isOpen_19 : decode cX3_isOpen 19 = .ok (.if_icmp .ge 28, 3) := by decide +kernel
theorem dX3_isOpen_22 : decode cX3_isOpen 22 = .ok (.aload_n 0, 1) := by decide +kernel
theorem dX3_isOpen_23 : decode cX3_isOpen 23 = .ok (.getfield 25, 3) := by decide +kernel
theorem dX3_isOpen_26 : decode cX3_isOpen 26 = .ok (.aload_n 0, 1) := by decide +kernel
theorem dX3_isOpen_27 : decode cX3_isOpen 27 = .ok (.getfield 29, 3) := by decide +kernel
theorem dX3_isOpen_30 : decode cX3_isOpen 30 = .ok (.iload_n 2, 1) := by decide +kernel
theorem dX3_isOpen_31 : decode cX3_isOpen 31 = .ok (.bipush 63, 2) := by decide +kernel
theorem dX3_isOpen_33 : decode cX3_isOpen 33 = .ok (.invokevirtual 71, 3) := by decide +kernel
theorem dX3_isOpen_36 : decode cX3_isOpen 36 = .ok (.ifCond .eq 5, 3) := by decide +kernel
theorem dX3_isOpen_39 : decode cX3_isOpen 39 = .ok (.iconst 1, 1) := by decide +kernel
theorem dX3_isOpen_40 : decode cX3_isOpen 40 = .ok (.ireturn, 1) := by decide +kernel
theorem dX3_isOpen_41 : decode cX3_isOpen 41 = .ok (.iinc 2 1, 3) := by decide +kernel
theorem dX3_isOpen_44 : decode cX3_isOpen 44 = .ok (.goto (-27), 3) := by decide +kernel
theorem dX3_isOpen_47 : decode cX3_isOpen 47 = .ok (.aload_n 0, 1) := by decide +kernel
theorem dX3_isOpen_48 : decode cX3_isOpen 48 = .ok (.getfield 25, 3) := by decide +kernel
theorem dX3_isOpen_51 : decode cX3_isOpen 51 = .ok (.getfield 75, 3) := by decide +kernel
theorem dX3_isOpen_54 : decode cX3_isOpen 54 = .ok (.aload_n 0, 1) := by decide +kernel
theorem dX3_isOpen_55 : decode cX3_isOpen 55 = .ok (.getfield 29, 3) := by decide +kernel
theorem dX3_isOpen_58 : decode cX3_isOpen 58 = .ok (.iaload, 1) := by decide +kernel
theorem dX3_isOpen_59 : decode cX3_isOpen 59 = .ok (.istore_n 2, 1) := by decide +kernel
theorem dX3_isOpen_60 : decode cX3_isOpen 60 = .ok (.iload_n 2, 1) := by decide +kernel
theorem dX3_isOpen_61 : decode cX3_isOpen 61 = .ok (.iload_n 1, 1) := by decide +kernel
theorem dX3_isOpen_62 : decode cX3_isOpen 62 = .ok (.if_icmp .ge 69, 3) := by decide +kernel
theorem dX3_isOpen_65 : decode cX3_isOpen 65 = .ok (.aload_n 0, 1) := by decide +kernel
theorem dX3_isOpen_66 : decode cX3_isOpen 66 = .ok (.getfield 25, 3) := by decide +kernel
theorem dX3_isOpen_69 : decode cX3_isOpen 69 = .ok (.getfield 46, 3) := by decide +kernel
theorem dX3_isOpen_72 : decode cX3_isOpen 72 = .ok (.aload_n 0, 1) := by decide +kernel
theorem dX3_isOpen_73 : decode cX3_isOpen 73 = .ok (.getfield 29, 3) := by decide +kernel
theorem dX3_isOpen_76 : decode cX3_isOpen 76 = .ok (.iload_n 2, 1) := by decide +kernel
theorem dX3_isOpen_77 : decode cX3_isOpen 77 = .ok (.invokevirtual 78, 3) := by decide +kernel
theorem dX3_isOpen_80 : decode cX3_isOpen 80 = .ok (.istore_n 3, 1) := by decide +kernel
theorem dX3_isOpen_81 : decode cX3_isOpen 81 = .ok (.iload_n 3, 1) := by decide +kernel
theorem dX3_isOpen_82 : decode cX3_isOpen 82 = .ok (.aload_n 0, 1) := by decide +kernel
theorem dX3_isOpen_83 : decode cX3_isOpen 83 = .ok (.getfield 25, 3) := by decide +kernel
theorem dX3_isOpen_86 : decode cX3_isOpen 86 = .ok (.getfield 82, 3) := by decide +kernel
theorem dX3_isOpen_89 : decode cX3_isOpen 89 = .ok (.if_icmp .ge 36, 3) := by decide +kernel
theorem dX3_isOpen_92 : decode cX3_isOpen 92 = .ok (.aload_n 0, 1) := by decide +kernel
theorem dX3_isOpen_93 : decode cX3_isOpen 93 = .ok (.getfield 25, 3) := by decide +kernel
theorem dX3_isOpen_96 : decode cX3_isOpen 96 = .ok (.iload_n 3, 1) := by decide +kernel
theorem dX3_isOpen_97 : decode cX3_isOpen 97 = .ok (.invokevirtual 85, 3) := by decide +kernel
theorem dX3_isOpen_100 : decode cX3_isOpen 100 = .ok (.ifCond .eq 25, 3) := by decide +kernel
theorem dX3_isOpen_103 : decode cX3_isOpen 103 = .ok (.aload_n 0, 1) := by decide +kernel
theorem dX3_isOpen_104 : decode cX3_isOpen 104 = .ok (.getfield 25, 3) := by decide +kernel
theorem dX3_isOpen_107 : decode cX3_isOpen 107 = .ok (.getfield 89, 3) := by decide +kernel
theorem dX3_isOpen_110 : decode cX3_isOpen 110 = .ok (.iload_n 3, 1) := by decide +kernel
theorem dX3_isOpen_111 : decode cX3_isOpen 111 = .ok (.baload, 1) := by decide +kernel
theorem dX3_isOpen_112 : decode cX3_isOpen 112 = .ok (.bipush 63, 2) := by decide +kernel
theorem dX3_isOpen_114 : decode cX3_isOpen 114 = .ok (.if_icmp .ne 5, 3) := by decide +kernel
theorem dX3_isOpen_117 : decode cX3_isOpen 117 = .ok (.iconst 1, 1) := by decide +kernel
theorem dX3_isOpen_118 : decode cX3_isOpen 118 = .ok (.ireturn, 1) := by decide +kernel
theorem dX3_isOpen_119 : decode cX3_isOpen 119 = .ok (.iinc 3 1, 3) := by decide +kernel
theorem dX3_isOpen_122 : decode cX3_isOpen 122 = .ok (.goto (-41), 3) := by decide +kernel
theorem dX3_isOpen_125 : decode cX3_isOpen 125 = .ok (.iinc 2 1, 3) := by decide +kernel
theorem dX3_isOpen_128 : decode cX3_isOpen 128 = .ok (.goto (-68), 3) := by decide +kernel
theorem dX3_isOpen_131 : decode cX3_isOpen 131 = .ok (.iconst 0, 1) := by decide +kernel
theorem dX3_isOpen_132 : decode cX3_isOpen 132 = .ok (.ireturn, 1) := by decide +kernel
theorem dX3_mayName_0 : decode cX3_mayName 0 = .ok (.iload_n 1, 1) := by decide +kernel
theorem dX3_mayName_1 : decode cX3_mayName 1 = .ok (.ifCond .lt 44, 3) := by decide +kernel
theorem dX3_mayName_4 : decode cX3_mayName 4 = .ok (.iload_n 1, 1) := by decide +kernel
theorem dX3_mayName_5 : decode cX3_mayName 5 = .ok (.aload_n 0, 1) := by decide +kernel
theorem dX3_mayName_6 : decode cX3_mayName 6 = .ok (.getfield 29, 3) := by decide +kernel
theorem dX3_mayName_9 : decode cX3_mayName 9 = .ok (.if_icmp .ge 36, 3) := by decide +kernel
theorem dX3_mayName_12 : decode cX3_mayName 12 = .ok (.aload_n 0, 1) := by decide +kernel
theorem dX3_mayName_13 : decode cX3_mayName 13 = .ok (.getfield 25, 3) := by decide +kernel
theorem dX3_mayName_16 : decode cX3_mayName 16 = .ok (.getfield 92, 3) := by decide +kernel
theorem dX3_mayName_19 : decode cX3_mayName 19 = .ok (.iload_n 1, 1) := by decide +kernel
theorem dX3_mayName_20 : decode cX3_mayName 20 = .ok (.iaload, 1) := by decide +kernel
theorem dX3_mayName_21 : decode cX3_mayName 21 = .ok (.iconst 2, 1) := by decide +kernel
theorem dX3_mayName_22 : decode cX3_mayName 22 = .ok (.if_icmp .ge 19, 3) := by decide +kernel
theorem dX3_mayName_25 : decode cX3_mayName 25 = .ok (.aload_n 0, 1) := by decide +kernel
theorem dX3_mayName_26 : decode cX3_mayName 26 = .ok (.getfield 29, 3) := by decide +kernel
theorem dX3_mayName_29 : decode cX3_mayName 29 = .ok (.aload_n 0, 1) := by decide +kernel
theorem dX3_mayName_30 : decode cX3_mayName 30 = .ok (.getfield 25, 3) := by decide +kernel
theorem dX3_mayName_33 : decode cX3_mayName 33 = .ok (.getfield 95, 3) := by decide +kernel
theorem dX3_mayName_36 : decode cX3_mayName 36 = .ok (.iload_n 1, 1) := by decide +kernel
theorem dX3_mayName_37 : decode cX3_mayName 37 = .ok (.iaload, 1) := by decide +kernel
theorem dX3_mayName_38 : decode cX3_mayName 38 = .ok (.if_icmp .ge 7, 3) := by decide +kernel
theorem dX3_mayName_41 : decode cX3_mayName 41 = .ok (.iconst 1, 1) := by decide +kernel
theorem dX3_mayName_42 : decode cX3_mayName 42 = .ok (.goto 4, 3) := by decide +kernel
theorem dX3_mayName_45 : decode cX3_mayName 45 = .ok (.iconst 0, 1) := by decide +kernel
theorem dX3_mayName_46 : decode cX3_mayName 46 = .ok (.ireturn, 1) := by decide +kernel
theorem dX3_decodeLabels_0 : decode cX3_decodeLabels 0 = .ok (.aload_n 0, 1) := by decide +kernel
theorem dX3_decodeLabels_1 : decode cX3_decodeLabels 1 = .ok (.getfield 25, 3) := by decide +kernel
theorem dX3_decodeLabels_4 : decode cX3_decodeLabels 4 = .ok (.getfield 46, 3) := by decide +kernel
theorem dX3_decodeLabels_7 : decode cX3_decodeLabels 7 = .ok (.aload_n 0, 1) := by decide +kernel
theorem dX3_decodeLabels_8 : decode cX3_decodeLabels 8 = .ok (.getfield 29, 3) := by decide +kernel
theorem dX3_decodeLabels_11 : decode cX3_decodeLabels 11 = .ok (.invokevirtual 52, 3) := by decide +kernel
theorem dX3_decodeLabels_14 : decode cX3_decodeLabels 14 = .ok (.istore_n 1, 1) := by decide +kernel
theorem dX3_decodeLabels_15 : decode cX3_decodeLabels 15 = .ok (.iconst 0, 1) := by decide +kernel
theorem dX3_decodeLabels_16 : decode cX3_decodeLabels 16 = .ok (.istore_n 2, 1) := by decide +kernel
theorem dX3_decodeLabels_17 : decode cX3_decodeLabels 17 = .ok (.iload_n 2, 1) := by decide +kernel
theorem dX3_decodeLabels_18 : decode cX3_decodeLabels 18 = .ok (.iload_n 1, 1) := by decide +kernel
theorem dX3_decodeLabels_19 : decode cX3_decodeLabels 19 = .ok (.if_icmp .ge 46, 3) := by decide +kernel
theorem dX3_decodeLabels_22 : decode cX3_decodeLabels 22 = .ok (.aload_n 0, 1) := by decide +kernel
theorem dX3_decodeLabels_23 : decode cX3_decodeLabels 23 = .ok (.getfield 25, 3) := by decide +kernel
theorem dX3_decodeLabels_26 : decode cX3_decodeLabels 26 = .ok (.getfield 98, 3) := by decide +kernel
theorem dX3_decodeLabels_29 : decode cX3_decodeLabels 29 = .ok (.aload_n 0, 1) := by decide +kernel
theorem dX3_decodeLabels_30 : decode cX3_decodeLabels 30 = .ok (.getfield 29, 3) := by decide +kernel
theorem dX3_decodeLabels_33 : decode cX3_decodeLabels 33 = .ok (.iload_n 2, 1) := by decide +kernel
theorem dX3_decodeLabels_34 : decode cX3_decodeLabels 34 = .ok (.invokevirtual 78, 3) := by decide +kernel
theorem dX3_decodeLabels_37 : decode cX3_decodeLabels 37 = .ok (.istore_n 3, 1) := by decide +kernel
theorem dX3_decodeLabels_38 : decode cX3_decodeLabels 38 = .ok (.aload_n 0, 1) := by decide +kernel
theorem dX3_decodeLabels_39 : decode cX3_decodeLabels 39 = .ok (.iload_n 3, 1) := by decide +kernel
theorem dX3_decodeLabels_40 : decode cX3_decodeLabels 40 = .ok (.invokevirtual 101, 3) := by decide +kernel
theorem dX3_decodeLabels_43 : decode cX3_decodeLabels 43 = .ok (.ifCond .ne 11, 3) := by decide +kernel
theorem dX3_decodeLabels_46 : decode cX3_decodeLabels 46 = .ok (.aload_n 0, 1) := by decide +kernel
theorem dX3_decodeLabels_47 : decode cX3_decodeLabels 47 = .ok (.bipush (-2), 2) := by decide +kernel
theorem dX3_decodeLabels_49 : decode cX3_decodeLabels 49 = .ok (.iload_n 2, 1) := by decide +kernel
theorem dX3_decodeLabels_50 : decode cX3_decodeLabels 50 = .ok (.invokevirtual 104, 3) := by decide +kernel
theorem dX3_decodeLabels_53 : decode cX3_decodeLabels 53 = .ok (.ireturn, 1) := by decide +kernel
theorem dX3_decodeLabels_54 : decode cX3_decodeLabels 54 = .ok (.aload_n 0, 1) := by decide +kernel
theorem dX3_decodeLabels_55 : decode cX3_decodeLabels 55 = .ok (.iload_n 3, 1) := by decide +kernel
theorem dX3_decodeLabels_56 : decode cX3_decodeLabels 56 = .ok (.invokevirtual 107, 3) := by decide +kernel
theorem dX3_decodeLabels_59 : decode cX3_decodeLabels 59 = .ok (.iinc 2 1, 3) := by decide +kernel
theorem dX3_decodeLabels_62 : decode cX3_decodeLabels 62 = .ok (.goto (-45), 3) := by decide +kernel
theorem dX3_decodeLabels_65 : decode cX3_decodeLabels 65 = .ok (.iconst 0, 1) := by decide +kernel
theorem dX3_decodeLabels_66 : decode cX3_decodeLabels 66 = .ok (.ireturn, 1) := by decide +kernel
theorem dX3_fail_0 : decode cX3_fail 0 = .ok (.aload_n 0, 1) := by decide +kernel
theorem dX3_fail_1 : decode cX3_fail 1 = .ok (.iload_n 2, 1) := by decide +kernel
theorem dX3_fail_2 : decode cX3_fail 2 = .ok (.putfield 39, 3) := by decide +kernel
theorem dX3_fail_5 : decode cX3_fail 5 = .ok (.iload_n 1, 1) := by decide +kernel
theorem dX3_fail_6 : decode cX3_fail 6 = .ok (.ireturn, 1) := by decide +kernel
theorem dX3_addStep_0 : decode cX3_addStep 0 = .ok (.aload_n 0, 1) := by decide +kernel
theorem dX3_addStep_1 : decode cX3_addStep 1 = .ok (.getfield 9, 3) := by decide +kernel
theorem dX3_addStep_4 : decode cX3_addStep 4 = .ok (.aload_n 0, 1) := by decide +kernel
theorem dX3_addStep_5 : decode cX3_addStep 5 = .ok (.getfield 33, 3) := by decide +kernel
theorem dX3_addStep_8 : decode cX3_addStep 8 = .ok (.iload_n 1, 1) := by decide +kernel
theorem dX3_addStep_9 : decode cX3_addStep 9 = .ok (.iastore, 1) := by decide +kernel
theorem dX3_addStep_10 : decode cX3_addStep 10 = .ok (.aload_n 0, 1) := by decide +kernel
theorem dX3_addStep_11 : decode cX3_addStep 11 = .ok (.getfield 15, 3) := by decide +kernel
theorem dX3_addStep_14 : decode cX3_addStep 14 = .ok (.aload_n 0, 1) := by decide +kernel
theorem dX3_addStep_15 : decode cX3_addStep 15 = .ok (.getfield 33, 3) := by decide +kernel
theorem dX3_addStep_18 : decode cX3_addStep 18 = .ok (.iconst 0, 1) := by decide +kernel
theorem dX3_addStep_19 : decode cX3_addStep 19 = .ok (.bastore, 1) := by decide +kernel
theorem dX3_addStep_20 : decode cX3_addStep 20 = .ok (.aload_n 0, 1) := by decide +kernel
theorem dX3_addStep_21 : decode cX3_addStep 21 = .ok (.dup, 1) := by decide +kernel
theorem dX3_addStep_22 : decode cX3_addStep 22 = .ok (.getfield 33, 3) := by decide +kernel
theorem dX3_addStep_25 : decode cX3_addStep 25 = .ok (.iconst 1, 1) := by decide +kernel
theorem dX3_addStep_26 : decode cX3_addStep 26 = .ok (.iadd, 1) := by decide +kernel
theorem dX3_addStep_27 : decode cX3_addStep 27 = .ok (.putfield 33, 3) := by decide +kernel
theorem dX3_addStep_30 : decode cX3_addStep 30 = .ok (.return_, 1) := by decide +kernel
theorem dX3_decodeList_0 : decode cX3_decodeList 0 = .ok (.aload_n 0, 1) := by decide +kernel
theorem dX3_decodeList_1 : decode cX3_decodeList 1 = .ok (.invokevirtual 111, 3) := by decide +kernel
theorem dX3_decodeList_4 : decode cX3_decodeList 4 = .ok (.aload_n 0, 1) := by decide +kernel
theorem dX3_decodeList_5 : decode cX3_decodeList 5 = .ok (.getfield 25, 3) := by decide +kernel
theorem dX3_decodeList_8 : decode cX3_decodeList 8 = .ok (.getfield 75, 3) := by decide +kernel
theorem dX3_decodeList_11 : decode cX3_decodeList 11 = .ok (.aload_n 0, 1) := by decide +kernel
theorem dX3_decodeList_12 : decode cX3_decodeList 12 = .ok (.getfield 29, 3) := by decide +kernel
theorem dX3_decodeList_15 : decode cX3_decodeList 15 = .ok (.iaload, 1) := by decide +kernel
theorem dX3_decodeList_16 : decode cX3_decodeList 16 = .ok (.istore_n 1, 1) := by decide +kernel
theorem dX3_decodeList_17 : decode cX3_decodeList 17 = .ok (.iconst 1, 1) := by decide +kernel
theorem dX3_decodeList_18 : decode cX3_decodeList 18 = .ok (.istore_n 2, 1) := by decide +kernel
theorem dX3_decodeList_19 : decode cX3_decodeList 19 = .ok (.iload_n 2, 1) := by decide +kernel
theorem dX3_decodeList_20 : decode cX3_decodeList 20 = .ok (.iload_n 1, 1) := by decide +kernel
theorem dX3_decodeList_21 : decode cX3_decodeList 21 = .ok (.if_icmp .ge 55, 3) := by decide +kernel
theorem dX3_decodeList_24 : decode cX3_decodeList 24 = .ok (.aload_n 0, 1) := by decide +kernel
theorem dX3_decodeList_25 : decode cX3_decodeList 25 = .ok (.getfield 25, 3) := by decide +kernel
theorem dX3_decodeList_28 : decode cX3_decodeList 28 = .ok (.getfield 98, 3) := by decide +kernel
theorem dX3_decodeList_31 : decode cX3_decodeList 31 = .ok (.aload_n 0, 1) := by decide +kernel
theorem dX3_decodeList_32 : decode cX3_decodeList 32 = .ok (.getfield 29, 3) := by decide +kernel
theorem dX3_decodeList_35 : decode cX3_decodeList 35 = .ok (.iload_n 2, 1) := by decide +kernel
theorem dX3_decodeList_36 : decode cX3_decodeList 36 = .ok (.invokevirtual 78, 3) := by decide +kernel
theorem dX3_decodeList_39 : decode cX3_decodeList 39 = .ok (.istore_n 3, 1) := by decide +kernel
theorem dX3_decodeList_40 : decode cX3_decodeList 40 = .ok (.aload_n 0, 1) := by decide +kernel
theorem dX3_decodeList_41 : decode cX3_decodeList 41 = .ok (.iload_n 3, 1) := by decide +kernel
theorem dX3_decodeList_42 : decode cX3_decodeList 42 = .ok (.invokevirtual 101, 3) := by decide +kernel
theorem dX3_decodeList_45 : decode cX3_decodeList 45 = .ok (.ifCond .eq 12, 3) := by decide +kernel
theorem dX3_decodeList_48 : decode cX3_decodeList 48 = .ok (.aload_n 0, 1) := by decide +kernel
theorem dX3_decodeList_49 : decode cX3_decodeList 49 = .ok (.getfield 22, 3) := by decide +kernel
theorem dX3_decodeList_52 : decode cX3_decodeList 52 = .ok (.iload_n 3, 1) := by decide +kernel
theorem dX3_decodeList_53 : decode cX3_decodeList 53 = .ok (.baload, 1) := by decide +kernel
theorem dX3_decodeList_54 : decode cX3_decodeList 54 = .ok (.ifCond .eq 11, 3) := by decide +kernel
theorem dX3_decodeList_57 : decode cX3_decodeList 57 = .ok (.aload_n 0, 1) := by decide +kernel
theorem dX3_decodeList_58 : decode cX3_decodeList 58 = .ok (.bipush (-2), 2) := by decide +kernel
theorem dX3_decodeList_60 : decode cX3_decodeList 60 = .ok (.iload_n 2, 1) := by decide +kernel
theorem dX3_decodeList_61 : decode cX3_decodeList 61 = .ok (.invokevirtual 104, 3) := by decide +kernel
theorem dX3_decodeList_64 : decode cX3_decodeList 64 = .ok (.ireturn, 1) := by decide +kernel
theorem dX3_decodeList_65 : decode cX3_decodeList 65 = .ok (.aload_n 0, 1) := by decide +kernel
theorem dX3_decodeList_66 : decode cX3_decodeList 66 = .ok (.iload_n 3, 1) := by decide +kernel
theorem dX3_decodeList_67 : decode cX3_decodeList 67 = .ok (.invokevirtual 114, 3) := by decide +kernel
theorem dX3_decodeList_70 : decode cX3_decodeList 70 = .ok (.iinc 2 1, 3) := by decide +kernel
theorem dX3_decodeList_73 : decode cX3_decodeList 73 = .ok (.goto (-54), 3) := by decide +kernel
theorem dX3_decodeList_76 : decode cX3_decodeList 76 = .ok (.iload_n 1, 1) := by decide +kernel
theorem dX3_decodeList_77 : decode cX3_decodeList 77 = .ok (.aload_n 0, 1) := by decide +kernel
theorem dX3_decodeList_78 : decode cX3_decodeList 78 = .ok (.getfield 25, 3) := by decide +kernel
theorem dX3_decodeList_81 : decode cX3_decodeList 81 = .ok (.getfield 46, 3) := by decide +kernel
theorem dX3_decodeList_84 : decode cX3_decodeList 84 = .ok (.aload_n 0, 1) := by decide +kernel
theorem dX3_decodeList_85 : decode cX3_decodeList 85 = .ok (.getfield 29, 3) := by decide +kernel
theorem dX3_decodeList_88 : decode cX3_decodeList 88 = .ok (.invokevirtual 52, 3) := by decide +kernel
theorem dX3_decodeList_91 : decode cX3_decodeList 91 = .ok (.if_icmp .ne 13, 3) := by decide +kernel
theorem dX3_decodeList_94 : decode cX3_decodeList 94 = .ok (.aload_n 0, 1) := by decide +kernel
theorem dX3_decodeList_95 : decode cX3_decodeList 95 = .ok (.bipush (-3), 2) := by decide +kernel
theorem dX3_decodeList_97 : decode cX3_decodeList 97 = .ok (.iload_n 1, 1) := by decide +kernel
theorem dX3_decodeList_98 : decode cX3_decodeList 98 = .ok (.invokevirtual 104, 3) := by decide +kernel
theorem dX3_decodeList_101 : decode cX3_decodeList 101 = .ok (.goto 4, 3) := by decide +kernel
theorem dX3_decodeList_104 : decode cX3_decodeList 104 = .ok (.iconst 0, 1) := by decide +kernel
theorem dX3_decodeList_105 : decode cX3_decodeList 105 = .ok (.ireturn, 1) := by decide +kernel
theorem dX3_knowHypotheses_0 : decode cX3_knowHypotheses 0 = .ok (.aload_n 0, 1) := by decide +kernel
theorem dX3_knowHypotheses_1 : decode cX3_knowHypotheses 1 = .ok (.iconst 0, 1) := by decide +kernel
theorem dX3_knowHypotheses_2 : decode cX3_knowHypotheses 2 = .ok (.putfield 117, 3) := by decide +kernel
theorem dX3_knowHypotheses_5 : decode cX3_knowHypotheses 5 = .ok (.aload_n 0, 1) := by decide +kernel
theorem dX3_knowHypotheses_6 : decode cX3_knowHypotheses 6 = .ok (.getfield 22, 3) := by decide +kernel
theorem dX3_knowHypotheses_9 : decode cX3_knowHypotheses 9 = .ok (.iconst 0, 1) := by decide +kernel
theorem dX3_knowHypotheses_10 : decode cX3_knowHypotheses 10 = .ok (.invokestatic 120, 3) := by decide +kernel
theorem dX3_knowHypotheses_13 : decode cX3_knowHypotheses 13 = .ok (.aload_n 0, 1) := by decide +kernel
theorem dX3_knowHypotheses_14 : decode cX3_knowHypotheses 14 = .ok (.getfield 25, 3) := by decide +kernel
theorem dX3_knowHypotheses_17 : decode cX3_knowHypotheses 17 = .ok (.getfield 126, 3) := by decide +kernel
theorem dX3_knowHypotheses_20 : decode cX3_knowHypotheses 20 = .ok (.aload_n 0, 1) := by decide +kernel
theorem dX3_knowHypotheses_21 : decode cX3_knowHypotheses 21 = .ok (.getfield 29, 3) := by decide +kernel
theorem dX3_knowHypotheses_24 : decode cX3_knowHypotheses 24 = .ok (.invokevirtual 52, 3) := by decide +kernel
theorem dX3_knowHypotheses_27 : decode cX3_knowHypotheses 27 = .ok (.istore_n 1, 1) := by decide +kernel
theorem dX3_knowHypotheses_28 : decode cX3_knowHypotheses 28 = .ok (.iconst 0, 1) := by decide +kernel
theorem dX3_knowHypotheses_29 : decode cX3_knowHypotheses 29 = .ok (.istore_n 2, 1) := by decide +kernel
theorem dX3_knowHypotheses_30 : decode cX3_knowHypotheses 30 = .ok (.iload_n 2, 1) := by decide +kernel
theorem dX3_knowHypotheses_31 : decode cX3_knowHypotheses 31 = .ok (.iload_n 1, 1) := by decide +kernel
theorem dX3_knowHypotheses_32 : decode cX3_knowHypotheses 32 = .ok (.if_icmp .ge 28, 3) := by decide +kernel
theorem dX3_knowHypotheses_35 : decode cX3_knowHypotheses 35 = .ok (.aload_n 0, 1) := by decide +kernel
theorem dX3_knowHypotheses_36 : decode cX3_knowHypotheses 36 = .ok (.aload_n 0, 1) := by decide +kernel
theorem dX3_knowHypotheses_37 : decode cX3_knowHypotheses 37 = .ok (.getfield 25, 3) := by decide +kernel
theorem dX3_knowHypotheses_40 : decode cX3_knowHypotheses 40 = .ok (.getfield 126, 3) := by decide +kernel
theorem dX3_knowHypotheses_43 : decode cX3_knowHypotheses 43 = .ok (.aload_n 0, 1) := by decide +kernel
theorem dX3_knowHypotheses_44 : decode cX3_knowHypotheses 44 = .ok (.getfield 29, 3) := by decide +kernel
theorem dX3_knowHypotheses_47 : decode cX3_knowHypotheses 47 = .ok (.iload_n 2, 1) := by decide +kernel
theorem dX3_knowHypotheses_48 : decode cX3_knowHypotheses 48 = .ok (.invokevirtual 78, 3) := by decide +kernel
theorem dX3_knowHypotheses_51 : decode cX3_knowHypotheses 51 = .ok (.invokevirtual 114, 3) := by decide +kernel
theorem dX3_knowHypotheses_54 : decode cX3_knowHypotheses 54 = .ok (.iinc 2 1, 3) := by decide +kernel
theorem dX3_knowHypotheses_57 : decode cX3_knowHypotheses 57 = .ok (.goto (-27), 3) := by decide +kernel
theorem dX3_knowHypotheses_60 : decode cX3_knowHypotheses 60 = .ok (.return_, 1) := by decide +kernel
theorem dX3_know_0 : decode cX3_know 0 = .ok (.aload_n 0, 1) := by decide +kernel
theorem dX3_know_1 : decode cX3_know 1 = .ok (.getfield 19, 3) := by decide +kernel
theorem dX3_know_4 : decode cX3_know 4 = .ok (.aload_n 0, 1) := by decide +kernel
theorem dX3_know_5 : decode cX3_know 5 = .ok (.getfield 117, 3) := by decide +kernel
theorem dX3_know_8 : decode cX3_know 8 = .ok (.iload_n 1, 1) := by decide +kernel
theorem dX3_know_9 : decode cX3_know 9 = .ok (.iastore, 1) := by decide +kernel
theorem dX3_know_10 : decode cX3_know 10 = .ok (.aload_n 0, 1) := by decide +kernel
theorem dX3_know_11 : decode cX3_know 11 = .ok (.dup, 1) := by decide +kernel
theorem dX3_know_12 : decode cX3_know 12 = .ok (.getfield 117, 3) := by decide +kernel
theorem dX3_know_15 : decode cX3_know 15 = .ok (.iconst 1, 1) := by decide +kernel
theorem dX3_know_16 : decode cX3_know 16 = .ok (.iadd, 1) := by decide +kernel
theorem dX3_know_17 : decode cX3_know 17 = .ok (.putfield 117, 3) := by decide +kernel
theorem dX3_know_20 : decode cX3_know 20 = .ok (.aload_n 0, 1) := by decide +kernel
theorem dX3_know_21 : decode cX3_know 21 = .ok (.getfield 22, 3) := by decide +kernel
theorem dX3_know_24 : decode cX3_know 24 = .ok (.iload_n 1, 1) := by decide +kernel
theorem dX3_know_25 : decode cX3_know 25 = .ok (.iconst 1, 1) := by decide +kernel
theorem dX3_know_26 : decode cX3_know 26 = .ok (.bastore, 1) := by decide +kernel
theorem dX3_know_27 : decode cX3_know 27 = .ok (.return_, 1) := by decide +kernel
theorem dX3_decodeLetters_0 : decode cX3_decodeLetters 0 = .ok (.aload_n 0, 1) := by decide +kernel
theorem dX3_decodeLetters_1 : decode cX3_decodeLetters 1 = .ok (.iconst 0, 1) := by decide +kernel
theorem dX3_decodeLetters_2 : decode cX3_decodeLetters 2 = .ok (.putfield 129, 3) := by decide +kernel
theorem dX3_decodeLetters_5 : decode cX3_decodeLetters 5 = .ok (.aload_n 0, 1) := by decide +kernel
theorem dX3_decodeLetters_6 : decode cX3_decodeLetters 6 = .ok (.iconst 0, 1) := by decide +kernel
theorem dX3_decodeLetters_7 : decode cX3_decodeLetters 7 = .ok (.putfield 132, 3) := by decide +kernel
theorem dX3_decodeLetters_10 : decode cX3_decodeLetters 10 = .ok (.aload_n 0, 1) := by decide +kernel
theorem dX3_decodeLetters_11 : decode cX3_decodeLetters 11 = .ok (.iconst 0, 1) := by decide +kernel
theorem dX3_decodeLetters_12 : decode cX3_decodeLetters 12 = .ok (.putfield 136, 3) := by decide +kernel
theorem dX3_decodeLetters_15 : decode cX3_decodeLetters 15 = .ok (.iconst 0, 1) := by decide +kernel
theorem dX3_decodeLetters_16 : decode cX3_decodeLetters 16 = .ok (.istore_n 1, 1) := by decide +kernel
theorem dX3_decodeLetters_17 : decode cX3_decodeLetters 17 = .ok (.aload_n 0, 1) := by decide +kernel
theorem dX3_decodeLetters_18 : decode cX3_decodeLetters 18 = .ok (.getfield 25, 3) := by decide +kernel
theorem dX3_decodeLetters_21 : decode cX3_decodeLetters 21 = .ok (.getfield 46, 3) := by decide +kernel
theorem dX3_decodeLetters_24 : decode cX3_decodeLetters 24 = .ok (.aload_n 0, 1) := by decide +kernel
theorem dX3_decodeLetters_25 : decode cX3_decodeLetters 25 = .ok (.getfield 29, 3) := by decide +kernel
theorem dX3_decodeLetters_28 : decode cX3_decodeLetters 28 = .ok (.invokevirtual 52, 3) := by decide +kernel
theorem dX3_decodeLetters_31 : decode cX3_decodeLetters 31 = .ok (.istore_n 2, 1) := by decide +kernel
theorem dX3_decodeLetters_32 : decode cX3_decodeLetters 32 = .ok (.aload_n 0, 1) := by decide +kernel
theorem dX3_decodeLetters_33 : decode cX3_decodeLetters 33 = .ok (.getfield 25, 3) := by decide +kernel
theorem dX3_decodeLetters_36 : decode cX3_decodeLetters 36 = .ok (.getfield 75, 3) := by decide +kernel
theorem dX3_decodeLetters_39 : decode cX3_decodeLetters 39 = .ok (.aload_n 0, 1) := by decide +kernel
theorem dX3_decodeLetters_40 : decode cX3_decodeLetters 40 = .ok (.getfield 29, 3) := by decide +kernel
theorem dX3_decodeLetters_43 : decode cX3_decodeLetters 43 = .ok (.iaload, 1) := by decide +kernel
theorem dX3_decodeLetters_44 : decode cX3_decodeLetters 44 = .ok (.iconst 1, 1) := by decide +kernel
theorem dX3_decodeLetters_45 : decode cX3_decodeLetters 45 = .ok (.iadd, 1) := by decide +kernel
theorem dX3_decodeLetters_46 : decode cX3_decodeLetters 46 = .ok (.istore_n 3, 1) := by decide +kernel
theorem dX3_decodeLetters_47 : decode cX3_decodeLetters 47 = .ok (.iload_n 3, 1) := by decide +kernel
theorem dX3_decodeLetters_48 : decode cX3_decodeLetters 48 = .ok (.iload_n 2, 1) := by decide +kernel
theorem dX3_decodeLetters_49 : decode cX3_decodeLetters 49 = .ok (.if_icmp .ge 88, 3) := by decide +kernel
theorem dX3_decodeLetters_52 : decode cX3_decodeLetters 52 = .ok (.aload_n 0, 1) := by decide +kernel
theorem dX3_decodeLetters_53 : decode cX3_decodeLetters 53 = .ok (.getfield 25, 3) := by decide +kernel
theorem dX3_decodeLetters_56 : decode cX3_decodeLetters 56 = .ok (.getfield 46, 3) := by decide +kernel
theorem dX3_decodeLetters_59 : decode cX3_decodeLetters 59 = .ok (.aload_n 0, 1) := by decide +kernel
theorem dX3_decodeLetters_60 : decode cX3_decodeLetters 60 = .ok (.getfield 29, 3) := by decide +kernel
theorem dX3_decodeLetters_63 : decode cX3_decodeLetters 63 = .ok (.iload_n 3, 1) := by decide +kernel
theorem dX3_decodeLetters_64 : decode cX3_decodeLetters 64 = .ok (.invokevirtual 78, 3) := by decide +kernel
theorem dX3_decodeLetters_67 : decode cX3_decodeLetters 67 = .ok (.istore 4, 2) := by decide +kernel
theorem dX3_decodeLetters_69 : decode cX3_decodeLetters 69 = .ok (.iload 4, 2) := by decide +kernel
theorem dX3_decodeLetters_71 : decode cX3_decodeLetters 71 = .ok (.aload_n 0, 1) := by decide +kernel
theorem dX3_decodeLetters_72 : decode cX3_decodeLetters 72 = .ok (.getfield 25, 3) := by decide +kernel
theorem dX3_decodeLetters_75 : decode cX3_decodeLetters 75 = .ok (.getfield 82, 3) := by decide +kernel
theorem dX3_decodeLetters_78 : decode cX3_decodeLetters 78 = .ok (.if_icmp .ge 53, 3) := by decide +kernel
theorem dX3_decodeLetters_81 : decode cX3_decodeLetters 81 = .ok (.aload_n 0, 1) := by decide +kernel
theorem dX3_decodeLetters_82 : decode cX3_decodeLetters 82 = .ok (.getfield 25, 3) := by decide +kernel
theorem dX3_decodeLetters_85 : decode cX3_decodeLetters 85 = .ok (.iload 4, 2) := by decide +kernel
theorem dX3_decodeLetters_87 : decode cX3_decodeLetters 87 = .ok (.invokevirtual 85, 3) := by decide +kernel
theorem dX3_decodeLetters_90 : decode cX3_decodeLetters 90 = .ok (.ifCond .eq 41, 3) := by decide +kernel
theorem dX3_decodeLetters_93 : decode cX3_decodeLetters 93 = .ok (.aload_n 0, 1) := by decide +kernel
theorem dX3_decodeLetters_94 : decode cX3_decodeLetters 94 = .ok (.aload_n 0, 1) := by decide +kernel
theorem dX3_decodeLetters_95 : decode cX3_decodeLetters 95 = .ok (.getfield 25, 3) := by decide +kernel
theorem dX3_decodeLetters_98 : decode cX3_decodeLetters 98 = .ok (.getfield 89, 3) := by decide +kernel
theorem dX3_decodeLetters_101 : decode cX3_decodeLetters 101 = .ok (.iload 4, 2) := by decide +kernel
theorem dX3_decodeLetters_103 : decode cX3_decodeLetters 103 = .ok (.baload, 1) := by decide +kernel
theorem dX3_decodeLetters_104 : decode cX3_decodeLetters 104 = .ok (.invokevirtual 139, 3) := by decide +kernel
theorem dX3_decodeLetters_107 : decode cX3_decodeLetters 107 = .ok (.istore 5, 2) := by decide +kernel
theorem dX3_decodeLetters_109 : decode cX3_decodeLetters 109 = .ok (.iload 5, 2) := by decide +kernel
theorem dX3_decodeLetters_111 : decode cX3_decodeLetters 111 = .ok (.ifCond .eq 11, 3) := by decide +kernel
theorem dX3_decodeLetters_114 : decode cX3_decodeLetters 114 = .ok (.aload_n 0, 1) := by decide +kernel
theorem dX3_decodeLetters_115 : decode cX3_decodeLetters 115 = .ok (.iload 5, 2) := by decide +kernel
theorem dX3_decodeLetters_117 : decode cX3_decodeLetters 117 = .ok (.iload_n 1, 1) := by decide +kernel
theorem dX3_decodeLetters_118 : decode cX3_decodeLetters 118 = .ok (.invokevirtual 104, 3) := by decide +kernel
theorem dX3_decodeLetters_121 : decode cX3_decodeLetters 121 = .ok (.ireturn, 1) := by decide +kernel
theorem dX3_decodeLetters_122 : decode cX3_decodeLetters 122 = .ok (.iinc 1 1, 3) := by decide +kernel
theorem dX3_decodeLetters_125 : decode cX3_decodeLetters 125 = .ok (.iinc 4 1, 3) := by decide +kernel
theorem dX3_decodeLetters_128 : decode cX3_decodeLetters 128 = .ok (.goto (-59), 3) := by decide +kernel
theorem dX3_decodeLetters_131 : decode cX3_decodeLetters 131 = .ok (.iinc 3 1, 3) := by decide +kernel
theorem dX3_decodeLetters_134 : decode cX3_decodeLetters 134 = .ok (.goto (-87), 3) := by decide +kernel
theorem dX3_decodeLetters_137 : decode cX3_decodeLetters 137 = .ok (.aload_n 0, 1) := by decide +kernel
theorem dX3_decodeLetters_138 : decode cX3_decodeLetters 138 = .ok (.getfield 132, 3) := by decide +kernel
theorem dX3_decodeLetters_141 : decode cX3_decodeLetters 141 = .ok (.ifCond .ne 7, 3) := by decide +kernel
theorem dX3_decodeLetters_144 : decode cX3_decodeLetters 144 = .ok (.iload_n 1, 1) := by decide +kernel
theorem dX3_decodeLetters_145 : decode cX3_decodeLetters 145 = .ok (.ifCond .ne 13, 3) := by decide +kernel
theorem dX3_decodeLetters_148 : decode cX3_decodeLetters 148 = .ok (.aload_n 0, 1) := by decide +kernel
theorem dX3_decodeLetters_149 : decode cX3_decodeLetters 149 = .ok (.bipush (-3), 2) := by decide +kernel
theorem dX3_decodeLetters_151 : decode cX3_decodeLetters 151 = .ok (.iload_n 1, 1) := by decide +kernel
theorem dX3_decodeLetters_152 : decode cX3_decodeLetters 152 = .ok (.invokevirtual 104, 3) := by decide +kernel
theorem dX3_decodeLetters_155 : decode cX3_decodeLetters 155 = .ok (.goto 4, 3) := by decide +kernel
theorem dX3_decodeLetters_158 : decode cX3_decodeLetters 158 = .ok (.iconst 0, 1) := by decide +kernel
theorem dX3_decodeLetters_159 : decode cX3_decodeLetters 159 = .ok (.ireturn, 1) := by decide +kernel
theorem dX3_takeLetter_0 : decode cX3_takeLetter 0 = .ok (.iload_n 1, 1) := by decide +kernel
theorem dX3_takeLetter_1 : decode cX3_takeLetter 1 = .ok (.bipush 65, 2) := by decide +kernel
theorem dX3_takeLetter_3 : decode cX3_takeLetter 3 = .ok (.if_icmp .lt 9, 3) := by decide +kernel
theorem dX3_takeLetter_6 : decode cX3_takeLetter 6 = .ok (.iload_n 1, 1) := by decide +kernel
theorem dX3_takeLetter_7 : decode cX3_takeLetter 7 = .ok (.bipush 90, 2) := by decide +kernel
theorem dX3_takeLetter_9 : decode cX3_takeLetter 9 = .ok (.if_icmp .le 6, 3) := by decide +kernel
theorem dX3_takeLetter_12 : decode cX3_takeLetter 12 = .ok (.bipush (-3), 2) := by decide +kernel
theorem dX3_takeLetter_14 : decode cX3_takeLetter 14 = .ok (.ireturn, 1) := by decide +kernel
theorem dX3_takeLetter_15 : decode cX3_takeLetter 15 = .ok (.iload_n 1, 1) := by decide +kernel
theorem dX3_takeLetter_16 : decode cX3_takeLetter 16 = .ok (.bipush 90, 2) := by decide +kernel
theorem dX3_takeLetter_18 : decode cX3_takeLetter 18 = .ok (.if_icmp .ne 8, 3) := by decide +kernel
theorem dX3_takeLetter_21 : decode cX3_takeLetter 21 = .ok (.aload_n 0, 1) := by decide +kernel
theorem dX3_takeLetter_22 : decode cX3_takeLetter 22 = .ok (.invokevirtual 142, 3) := by decide +kernel
theorem dX3_takeLetter_25 : decode cX3_takeLetter 25 = .ok (.ireturn, 1) := by decide +kernel
theorem dX3_takeLetter_26 : decode cX3_takeLetter 26 = .ok (.aload_n 0, 1) := by decide +kernel
theorem dX3_takeLetter_27 : decode cX3_takeLetter 27 = .ok (.iload_n 1, 1) := by decide +kernel
theorem dX3_takeLetter_28 : decode cX3_takeLetter 28 = .ok (.bipush 85, 2) := by decide +kernel
theorem dX3_takeLetter_30 : decode cX3_takeLetter 30 = .ok (.if_icmp .ge 7, 3) := by decide +kernel
theorem dX3_takeLetter_33 : decode cX3_takeLetter 33 = .ok (.iconst 1, 1) := by decide +kernel
theorem dX3_takeLetter_34 : decode cX3_takeLetter 34 = .ok (.goto 4, 3) := by decide +kernel
theorem dX3_takeLetter_37 : decode cX3_takeLetter 37 = .ok (.iconst 0, 1) := by decide +kernel
theorem dX3_takeLetter_38 : decode cX3_takeLetter 38 = .ok (.putfield 136, 3) := by decide +kernel
theorem dX3_takeLetter_41 : decode cX3_takeLetter 41 = .ok (.aload_n 0, 1) := by decide +kernel
theorem dX3_takeLetter_42 : decode cX3_takeLetter 42 = .ok (.aload_n 0, 1) := by decide +kernel
theorem dX3_takeLetter_43 : decode cX3_takeLetter 43 = .ok (.getfield 136, 3) := by decide +kernel
theorem dX3_takeLetter_46 : decode cX3_takeLetter 46 = .ok (.ifCond .ne 7, 3) := by decide +kernel
theorem dX3_takeLetter_49 : decode cX3_takeLetter 49 = .ok (.iconst 1, 1) := by decide +kernel
theorem dX3_takeLetter_50 : decode cX3_takeLetter 50 = .ok (.goto 4, 3) := by decide +kernel
theorem dX3_takeLetter_53 : decode cX3_takeLetter 53 = .ok (.iconst 0, 1) := by decide +kernel
theorem dX3_takeLetter_54 : decode cX3_takeLetter 54 = .ok (.putfield 132, 3) := by decide +kernel
theorem dX3_takeLetter_57 : decode cX3_takeLetter 57 = .ok (.aload_n 0, 1) := by decide +kernel
theorem dX3_takeLetter_58 : decode cX3_takeLetter 58 = .ok (.getfield 132, 3) := by decide +kernel
theorem dX3_takeLetter_61 : decode cX3_takeLetter 61 = .ok (.ifCond .eq 27, 3) := by decide +kernel
theorem dX3_takeLetter_64 : decode cX3_takeLetter 64 = .ok (.aload_n 0, 1) := by decide +kernel
theorem dX3_takeLetter_65 : decode cX3_takeLetter 65 = .ok (.iconst 5, 1) := by decide +kernel
theorem dX3_takeLetter_66 : decode cX3_takeLetter 66 = .ok (.aload_n 0, 1) := by decide +kernel
theorem dX3_takeLetter_67 : decode cX3_takeLetter 67 = .ok (.getfield 129, 3) := by decide +kernel
theorem dX3_takeLetter_70 : decode cX3_takeLetter 70 = .ok (.imul, 1) := by decide +kernel
theorem dX3_takeLetter_71 : decode cX3_takeLetter 71 = .ok (.iload_n 1, 1) := by decide +kernel
theorem dX3_takeLetter_72 : decode cX3_takeLetter 72 = .ok (.iadd, 1) := by decide +kernel
theorem dX3_takeLetter_73 : decode cX3_takeLetter 73 = .ok (.bipush 85, 2) := by decide +kernel
theorem dX3_takeLetter_75 : decode cX3_takeLetter 75 = .ok (.isub, 1) := by decide +kernel
theorem dX3_takeLetter_76 : decode cX3_takeLetter 76 = .ok (.iconst 1, 1) := by decide +kernel
theorem dX3_takeLetter_77 : decode cX3_takeLetter 77 = .ok (.iadd, 1) := by decide +kernel
theorem dX3_takeLetter_78 : decode cX3_takeLetter 78 = .ok (.ldc 145, 2) := by decide +kernel
theorem dX3_takeLetter_80 : decode cX3_takeLetter 80 = .ok (.invokestatic 146, 3) := by decide +kernel
theorem dX3_takeLetter_83 : decode cX3_takeLetter 83 = .ok (.putfield 129, 3) := by decide +kernel
theorem dX3_takeLetter_86 : decode cX3_takeLetter 86 = .ok (.iconst 0, 1) := by decide +kernel
theorem dX3_takeLetter_87 : decode cX3_takeLetter 87 = .ok (.ireturn, 1) := by decide +kernel
theorem dX3_takeLetter_88 : decode cX3_takeLetter 88 = .ok (.bipush 20, 2) := by decide +kernel
theorem dX3_takeLetter_90 : decode cX3_takeLetter 90 = .ok (.aload_n 0, 1) := by decide +kernel
theorem dX3_takeLetter_91 : decode cX3_takeLetter 91 = .ok (.getfield 129, 3) := by decide +kernel
theorem dX3_takeLetter_94 : decode cX3_takeLetter 94 = .ok (.imul, 1) := by decide +kernel
theorem dX3_takeLetter_95 : decode cX3_takeLetter 95 = .ok (.iload_n 1, 1) := by decide +kernel
theorem dX3_takeLetter_96 : decode cX3_takeLetter 96 = .ok (.iadd, 1) := by decide +kernel
theorem dX3_takeLetter_97 : decode cX3_takeLetter 97 = .ok (.bipush 65, 2) := by decide +kernel
theorem dX3_takeLetter_99 : decode cX3_takeLetter 99 = .ok (.isub, 1) := by decide +kernel
theorem dX3_takeLetter_100 : decode cX3_takeLetter 100 = .ok (.iconst 1, 1) := by decide +kernel
theorem dX3_takeLetter_101 : decode cX3_takeLetter 101 = .ok (.iadd, 1) := by decide +kernel
theorem dX3_takeLetter_102 : decode cX3_takeLetter 102 = .ok (.istore_n 2, 1) := by decide +kernel
theorem dX3_takeLetter_103 : decode cX3_takeLetter 103 = .ok (.aload_n 0, 1) := by decide +kernel
theorem dX3_takeLetter_104 : decode cX3_takeLetter 104 = .ok (.iconst 0, 1) := by decide +kernel
theorem dX3_takeLetter_105 : decode cX3_takeLetter 105 = .ok (.putfield 129, 3) := by decide +kernel
theorem dX3_takeLetter_108 : decode cX3_takeLetter 108 = .ok (.aload_n 0, 1) := by decide +kernel
theorem dX3_takeLetter_109 : decode cX3_takeLetter 109 = .ok (.iload_n 2, 1) := by decide +kernel
theorem dX3_takeLetter_110 : decode cX3_takeLetter 110 = .ok (.invokevirtual 151, 3) := by decide +kernel
theorem dX3_takeLetter_113 : decode cX3_takeLetter 113 = .ok (.ireturn, 1) := by decide +kernel
theorem dX3_mark_0 : decode cX3_mark 0 = .ok (.aload_n 0, 1) := by decide +kernel
theorem dX3_mark_1 : decode cX3_mark 1 = .ok (.getfield 136, 3) := by decide +kernel
theorem dX3_mark_4 : decode cX3_mark 4 = .ok (.ifCond .ne 6, 3) := by decide +kernel
theorem dX3_mark_7 : decode cX3_mark 7 = .ok (.bipush (-3), 2) := by decide +kernel
theorem dX3_mark_9 : decode cX3_mark 9 = .ok (.ireturn, 1) := by decide +kernel
theorem dX3_mark_10 : decode cX3_mark 10 = .ok (.aload_n 0, 1) := by decide +kernel
theorem dX3_mark_11 : decode cX3_mark 11 = .ok (.getfield 36, 3) := by decide +kernel
theorem dX3_mark_14 : decode cX3_mark 14 = .ok (.sipush 200, 3) := by decide +kernel
theorem dX3_mark_17 : decode cX3_mark 17 = .ok (.if_icmp .ne 6, 3) := by decide +kernel
theorem dX3_mark_20 : decode cX3_mark 20 = .ok (.bipush (-10), 2) := by decide +kernel
theorem dX3_mark_22 : decode cX3_mark 22 = .ok (.ireturn, 1) := by decide +kernel
theorem dX3_mark_23 : decode cX3_mark 23 = .ok (.aload_n 0, 1) := by decide +kernel
theorem dX3_mark_24 : decode cX3_mark 24 = .ok (.getfield 15, 3) := by decide +kernel
theorem dX3_mark_27 : decode cX3_mark 27 = .ok (.aload_n 0, 1) := by decide +kernel
theorem dX3_mark_28 : decode cX3_mark 28 = .ok (.getfield 33, 3) := by decide +kernel
theorem dX3_mark_31 : decode cX3_mark 31 = .ok (.iconst 1, 1) := by decide +kernel
theorem dX3_mark_32 : decode cX3_mark 32 = .ok (.isub, 1) := by decide +kernel
theorem dX3_mark_33 : decode cX3_mark 33 = .ok (.iconst 1, 1) := by decide +kernel
theorem dX3_mark_34 : decode cX3_mark 34 = .ok (.bastore, 1) := by decide +kernel
theorem dX3_mark_35 : decode cX3_mark 35 = .ok (.aload_n 0, 1) := by decide +kernel
theorem dX3_mark_36 : decode cX3_mark 36 = .ok (.dup, 1) := by decide +kernel
theorem dX3_mark_37 : decode cX3_mark 37 = .ok (.getfield 36, 3) := by decide +kernel
theorem dX3_mark_40 : decode cX3_mark 40 = .ok (.iconst 1, 1) := by decide +kernel
theorem dX3_mark_41 : decode cX3_mark 41 = .ok (.iadd, 1) := by decide +kernel
theorem dX3_mark_42 : decode cX3_mark 42 = .ok (.putfield 36, 3) := by decide +kernel
theorem dX3_mark_45 : decode cX3_mark 45 = .ok (.aload_n 0, 1) := by decide +kernel
theorem dX3_mark_46 : decode cX3_mark 46 = .ok (.iconst 0, 1) := by decide +kernel
theorem dX3_mark_47 : decode cX3_mark 47 = .ok (.putfield 136, 3) := by decide +kernel
theorem dX3_mark_50 : decode cX3_mark 50 = .ok (.iconst 0, 1) := by decide +kernel
theorem dX3_mark_51 : decode cX3_mark 51 = .ok (.ireturn, 1) := by decide +kernel
theorem dX3_takeNumber_0 : decode cX3_takeNumber 0 = .ok (.iload_n 1, 1) := by decide +kernel
theorem dX3_takeNumber_1 : decode cX3_takeNumber 1 = .ok (.aload_n 0, 1) := by decide +kernel
theorem dX3_takeNumber_2 : decode cX3_takeNumber 2 = .ok (.getfield 117, 3) := by decide +kernel
theorem dX3_takeNumber_5 : decode cX3_takeNumber 5 = .ok (.aload_n 0, 1) := by decide +kernel
theorem dX3_takeNumber_6 : decode cX3_takeNumber 6 = .ok (.getfield 36, 3) := by decide +kernel
theorem dX3_takeNumber_9 : decode cX3_takeNumber 9 = .ok (.iadd, 1) := by decide +kernel
theorem dX3_takeNumber_10 : decode cX3_takeNumber 10 = .ok (.if_icmp .le 6, 3) := by decide +kernel
theorem dX3_takeNumber_13 : decode cX3_takeNumber 13 = .ok (.bipush (-3), 2) := by decide +kernel
theorem dX3_takeNumber_15 : decode cX3_takeNumber 15 = .ok (.ireturn, 1) := by decide +kernel
theorem dX3_takeNumber_16 : decode cX3_takeNumber 16 = .ok (.aload_n 0, 1) := by decide +kernel
theorem dX3_takeNumber_17 : decode cX3_takeNumber 17 = .ok (.getfield 33, 3) := by decide +kernel
theorem dX3_takeNumber_20 : decode cX3_takeNumber 20 = .ok (.sipush 1000, 3) := by decide +kernel
theorem dX3_takeNumber_23 : decode cX3_takeNumber 23 = .ok (.if_icmp .ne 6, 3) := by decide +kernel
theorem dX3_takeNumber_26 : decode cX3_takeNumber 26 = .ok (.bipush (-10), 2) := by decide +kernel
theorem dX3_takeNumber_28 : decode cX3_takeNumber 28 = .ok (.ireturn, 1) := by decide +kernel
theorem dX3_takeNumber_29 : decode cX3_takeNumber 29 = .ok (.aload_n 0, 1) := by decide +kernel
theorem dX3_takeNumber_30 : decode cX3_takeNumber 30 = .ok (.iload_n 1, 1) := by decide +kernel
theorem dX3_takeNumber_31 : decode cX3_takeNumber 31 = .ok (.aload_n 0, 1) := by decide +kernel
theorem dX3_takeNumber_32 : decode cX3_takeNumber 32 = .ok (.getfield 117, 3) := by decide +kernel
theorem dX3_takeNumber_35 : decode cX3_takeNumber 35 = .ok (.if_icmp .gt 14, 3) := by decide +kernel
theorem dX3_takeNumber_38 : decode cX3_takeNumber 38 = .ok (.aload_n 0, 1) := by decide +kernel
theorem dX3_takeNumber_39 : decode cX3_takeNumber 39 = .ok (.getfield 19, 3) := by decide +kernel
theorem dX3_takeNumber_42 : decode cX3_takeNumber 42 = .ok (.iload_n 1, 1) := by decide +kernel
theorem dX3_takeNumber_43 : decode cX3_takeNumber 43 = .ok (.iconst 1, 1) := by decide +kernel
theorem dX3_takeNumber_44 : decode cX3_takeNumber 44 = .ok (.isub, 1) := by decide +kernel
theorem dX3_takeNumber_45 : decode cX3_takeNumber 45 = .ok (.iaload, 1) := by decide +kernel
theorem dX3_takeNumber_46 : decode cX3_takeNumber 46 = .ok (.goto 9, 3) := by decide +kernel
theorem dX3_takeNumber_49 : decode cX3_takeNumber 49 = .ok (.aload_n 0, 1) := by decide +kernel
theorem dX3_takeNumber_50 : decode cX3_takeNumber 50 = .ok (.getfield 117, 3) := by decide +kernel
theorem dX3_takeNumber_53 : decode cX3_takeNumber 53 = .ok (.iload_n 1, 1) := by decide +kernel
theorem dX3_takeNumber_54 : decode cX3_takeNumber 54 = .ok (.isub, 1) := by decide +kernel
theorem dX3_takeNumber_55 : decode cX3_takeNumber 55 = .ok (.invokevirtual 107, 3) := by decide +kernel
theorem dX3_takeNumber_58 : decode cX3_takeNumber 58 = .ok (.iconst 0, 1) := by decide +kernel
theorem dX3_takeNumber_59 : decode cX3_takeNumber 59 = .ok (.ireturn, 1) := by decide +kernel
theorem dX4_init_0 : decode cX4_init 0 = .ok (.aload_n 0, 1) := by decide +kernel
theorem dX4_init_1 : decode cX4_init 1 = .ok (.invokespecial 3, 3) := by decide +kernel
theorem dX4_init_4 : decode cX4_init 4 = .ok (.aload_n 0, 1) := by decide +kernel
theorem dX4_init_5 : decode cX4_init 5 = .ok (.new 9, 3) := by decide +kernel
theorem dX4_init_8 : decode cX4_init 8 = .ok (.dup, 1) := by decide +kernel
theorem dX4_init_9 : decode cX4_init 9 = .ok (.invokespecial 11, 3) := by decide +kernel
theorem dX4_init_12 : decode cX4_init 12 = .ok (.putfield 12, 3) := by decide +kernel
theorem dX4_init_15 : decode cX4_init 15 = .ok (.aload_n 0, 1) := by decide +kernel
theorem dX4_init_16 : decode cX4_init 16 = .ok (.bipush 8, 2) := by decide +kernel
theorem dX4_init_18 : decode cX4_init 18 = .ok (.newarray .int, 2) := by decide +kernel
theorem dX4_init_20 : decode cX4_init 20 = .ok (.putfield 18, 3) := by decide +kernel
theorem dX4_init_23 : decode cX4_init 23 = .ok (.aload_n 0, 1) := by decide +kernel
theorem dX4_init_24 : decode cX4_init 24 = .ok (.aload_n 1, 1) := by decide +kernel
theorem dX4_init_25 : decode cX4_init 25 = .ok (.putfield 22, 3) := by decide +kernel
theorem dX4_init_28 : decode cX4_init 28 = .ok (.aload_n 0, 1) := by decide +kernel
theorem dX4_init_29 : decode cX4_init 29 = .ok (.new 26, 3) := by decide +kernel
theorem dX4_init_32 : decode cX4_init 32 = .ok (.dup, 1) := by decide +kernel
theorem dX4_init_33 : decode cX4_init 33 = .ok (.aload_n 1, 1) := by decide +kernel
theorem dX4_init_34 : decode cX4_init 34 = .ok (.getfield 28, 3) := by decide +kernel
theorem dX4_init_37 : decode cX4_init 37 = .ok (.invokespecial 34, 3) := by decide +kernel
theorem dX4_init_40 : decode cX4_init 40 = .ok (.putfield 37, 3) := by decide +kernel
theorem dX4_init_43 : decode cX4_init 43 = .ok (.return_, 1) := by decide +kernel
theorem dX4_readBook_0 : decode cX4_readBook 0 = .ok (.aload_n 0, 1) := by decide +kernel
theorem dX4_readBook_1 : decode cX4_readBook 1 = .ok (.aload_n 1, 1) := by decide +kernel
theorem dX4_readBook_2 : decode cX4_readBook 2 = .ok (.putfield 22, 3) := by decide +kernel
theorem dX4_readBook_5 : decode cX4_readBook 5 = .ok (.aload_n 0, 1) := by decide +kernel
theorem dX4_readBook_6 : decode cX4_readBook 6 = .ok (.getfield 22, 3) := by decide +kernel
theorem dX4_readBook_9 : decode cX4_readBook 9 = .ok (.invokevirtual 41, 3) := by decide +kernel
theorem dX4_readBook_12 : decode cX4_readBook 12 = .ok (.aload_n 0, 1) := by decide +kernel
theorem dX4_readBook_13 : decode cX4_readBook 13 = .ok (.getfield 12, 3) := by decide +kernel
theorem dX4_readBook_16 : decode cX4_readBook 16 = .ok (.invokevirtual 44, 3) := by decide +kernel
theorem dX4_readBook_19 : decode cX4_readBook 19 = .ok (.aload_n 0, 1) := by decide +kernel
theorem dX4_readBook_20 : decode cX4_readBook 20 = .ok (.getfield 37, 3) := by decide +kernel
theorem dX4_readBook_23 : decode cX4_readBook 23 = .ok (.aload_n 0, 1) := by decide +kernel
theorem dX4_readBook_24 : decode cX4_readBook 24 = .ok (.getfield 22, 3) := by decide +kernel
theorem dX4_readBook_27 : decode cX4_readBook 27 = .ok (.getfield 28, 3) := by decide +kernel
theorem dX4_readBook_30 : decode cX4_readBook 30 = .ok (.aload_n 0, 1) := by decide +kernel
theorem dX4_readBook_31 : decode cX4_readBook 31 = .ok (.getfield 22, 3) := by decide +kernel
theorem dX4_readBook_34 : decode cX4_readBook 34 = .ok (.getfield 45, 3) := by decide +kernel
theorem dX4_readBook_37 : decode cX4_readBook 37 = .ok (.invokevirtual 49, 3) := by decide +kernel
theorem dX4_readBook_40 : decode cX4_readBook 40 = .ok (.aload_n 0, 1) := by decide +kernel
theorem dX4_readBook_41 : decode cX4_readBook 41 = .ok (.iconst 0, 1) := by decide +kernel
theorem dX4_readBook_42 : decode cX4_readBook 42 = .ok (.putfield 53, 3) := by decide +kernel
theorem dX4_readBook_45 : decode cX4_readBook 45 = .ok (.iconst 0, 1) := by decide +kernel
theorem dX4_readBook_46 : decode cX4_readBook 46 = .ok (.istore_n 2, 1) := by decide +kernel
theorem dX4_readBook_47 : decode cX4_readBook 47 = .ok (.iconst 0, 1) := by decide +kernel
theorem dX4_readBook_48 : decode cX4_readBook 48 = .ok (.istore_n 3, 1) := by decide +kernel
theorem dX4_readBook_49 : decode cX4_readBook 49 = .ok (.iload_n 3, 1) := by decide +kernel
theorem dX4_readBook_50 : decode cX4_readBook 50 = .ok (.sipush 4096, 3) := by decide +kernel
theorem dX4_readBook_53 : decode cX4_readBook 53 = .ok (.if_icmp .gt 163, 3) := by decide +kernel
theorem dX4_readBook_56 : decode cX4_readBook 56 = .ok (.iload_n 2, 1) := by decide +kernel
theorem dX4_readBook_57 : decode cX4_readBook 57 = .ok (.ifCond .ne 159, 3) := by decide +kernel
theorem dX4_readBook_60 : decode cX4_readBook 60 = .ok (.aload_n 0, 1) := by decide +kernel
theorem dX4_readBook_61 : decode cX4_readBook 61 = .ok (.getfield 37, 3) := by decide +kernel
theorem dX4_readBook_64 : decode cX4_readBook 64 = .ok (.invokevirtual 56, 3) := by decide +kernel
theorem dX4_readBook_67 : decode cX4_readBook 67 = .ok (.ifCond .eq 149, 3) := by decide +kernel
theorem dX4_readBook_70 : decode cX4_readBook 70 = .ok (.aload_n 0, 1) := by decide +kernel
theorem dX4_readBook_71 : decode cX4_readBook 71 = .ok (.getfield 37, 3) := by decide +kernel
theorem dX4_readBook_74 : decode cX4_readBook 74 = .ok (.invokevirtual 60, 3) := by decide +kernel
theorem dX4_readBook_77 : decode cX4_readBook 77 = .ok (.istore 4, 2) := by decide +kernel
theorem dX4_readBook_79 : decode cX4_readBook 79 = .ok (.aload_n 0, 1) := by decide +kernel
theorem dX4_readBook_80 : decode cX4_readBook 80 = .ok (.getfield 53, 3) := by decide +kernel
theorem dX4_readBook_83 : decode cX4_readBook 83 = .ok (.tableswitch 107 0 4 #[33, 55, 65, 75, 85], 33) := by decide +kernel
theorem dX4_readBook_116 : decode cX4_readBook 116 = .ok (.iload 4, 2) := by decide +kernel
theorem dX4_readBook_118 : decode cX4_readBook 118 = .ok (.ifCond .ne 10, 3) := by decide +kernel
theorem dX4_readBook_121 : decode cX4_readBook 121 = .ok (.aload_n 0, 1) := by decide +kernel
theorem dX4_readBook_122 : decode cX4_readBook 122 = .ok (.invokevirtual 64, 3) := by decide +kernel
theorem dX4_readBook_125 : decode cX4_readBook 125 = .ok (.goto 9, 3) := by decide +kernel
theorem dX4_readBook_128 : decode cX4_readBook 128 = .ok (.aload_n 0, 1) := by decide +kernel
theorem dX4_readBook_129 : decode cX4_readBook 129 = .ok (.iload 4, 2) := by decide +kernel
theorem dX4_readBook_131 : decode cX4_readBook 131 = .ok (.invokevirtual 67, 3) := by decide +kernel
theorem dX4_readBook_134 : decode cX4_readBook 134 = .ok (.istore_n 2, 1) := by decide +kernel
theorem dX4_readBook_135 : decode cX4_readBook 135 = .ok (.goto 62, 3) := by decide +kernel
theorem dX4_readBook_138 : decode cX4_readBook 138 = .ok (.aload_n 0, 1) := by decide +kernel
theorem dX4_readBook_139 : decode cX4_readBook 139 = .ok (.iload 4, 2) := by decide +kernel
theorem dX4_readBook_141 : decode cX4_readBook 141 = .ok (.invokevirtual 71, 3) := by decide +kernel
theorem dX4_readBook_144 : decode cX4_readBook 144 = .ok (.istore_n 2, 1) := by decide +kernel
theorem dX4_readBook_145 : decode cX4_readBook 145 = .ok (.goto 52, 3) := by decide +kernel
theorem dX4_readBook_148 : decode cX4_readBook 148 = .ok (.aload_n 0, 1) := by decide +kernel
theorem dX4_readBook_149 : decode cX4_readBook 149 = .ok (.iload 4, 2) := by decide +kernel
theorem dX4_readBook_151 : decode cX4_readBook 151 = .ok (.invokevirtual 74, 3) := by decide +kernel
theorem dX4_readBook_154 : decode cX4_readBook 154 = .ok (.istore_n 2, 1) := by decide +kernel
theorem dX4_readBook_155 : decode cX4_readBook 155 = .ok (.goto 42, 3) := by decide +kernel
theorem dX4_readBook_158 : decode cX4_readBook 158 = .ok (.aload_n 0, 1) := by decide +kernel
theorem dX4_readBook_159 : decode cX4_readBook 159 = .ok (.iload 4, 2) := by decide +kernel
theorem dX4_readBook_161 : decode cX4_readBook 161 = .ok (.invokevirtual 77, 3) := by decide +kernel
theorem dX4_readBook_164 : decode cX4_readBook 164 = .ok (.istore_n 2, 1) := by decide +kernel
theorem dX4_readBook_165 : decode cX4_readBook 165 = .ok (.goto 32, 3) := by decide +kernel
theorem dX4_readBook_168 : decode cX4_readBook 168 = .ok (.iload 4, 2) := by decide +kernel
theorem dX4_readBook_170 : decode cX4_readBook 170 = .ok (.ifCond .ne 10, 3) := by decide +kernel
theorem dX4_readBook_173 : decode cX4_readBook 173 = .ok (.aload_n 0, 1) := by decide +kernel
theorem dX4_readBook_174 : decode cX4_readBook 174 = .ok (.invokevirtual 80, 3) := by decide +kernel
theorem dX4_readBook_177 : decode cX4_readBook 177 = .ok (.goto 9, 3) := by decide +kernel
theorem dX4_readBook_180 : decode cX4_readBook 180 = .ok (.aload_n 0, 1) := by decide +kernel
theorem dX4_readBook_181 : decode cX4_readBook 181 = .ok (.iload 4, 2) := by decide +kernel
theorem dX4_readBook_183 : decode cX4_readBook 183 = .ok (.invokevirtual 83, 3) := by decide +kernel
theorem dX4_readBook_186 : decode cX4_readBook 186 = .ok (.istore_n 2, 1) := by decide +kernel
theorem dX4_readBook_187 : decode cX4_readBook 187 = .ok (.goto 10, 3) := by decide +kernel
theorem dX4_readBook_190 : decode cX4_readBook 190 = .ok (.aload_n 0, 1) := by decide +kernel
theorem dX4_readBook_191 : decode cX4_readBook 191 = .ok (.iload 4, 2) := by decide +kernel
theorem dX4_readBook_193 : decode cX4_readBook 193 = .ok (.invokevirtual 86, 3) := by decide +kernel
theorem dX4_readBook_196 : decode cX4_readBook 196 = .ok (.istore_n 2, 1) := by decide +kernel
theorem dX4_readBook_197 : decode cX4_readBook 197 = .ok (.aload_n 0, 1) := by decide +kernel
theorem dX4_readBook_198 : decode cX4_readBook 198 = .ok (.getfield 53, 3) := by decide +kernel
theorem dX4_readBook_201 : decode cX4_readBook 201 = .ok (.bipush 6, 2) := by decide +kernel
theorem dX4_readBook_203 : decode cX4_readBook 203 = .ok (.if_icmp .ne 7, 3) := by decide +kernel
theorem dX4_readBook_206 : decode cX4_readBook 206 = .ok (.aload_n 0, 1) := by decide +kernel
theorem dX4_readBook_207 : decode cX4_readBook 207 = .ok (.invokevirtual 89, 3) := by decide +kernel
theorem dX4_readBook_210 : decode cX4_readBook 210 = .ok (.iinc 3 1, 3) := by decide +kernel
theorem dX4_readBook_213 : decode cX4_readBook 213 = .ok (.goto (-164), 3) := by decide +kernel
theorem dX4_readBook_216 : decode cX4_readBook 216 = .ok (.aload_n 0, 1) := by decide +kernel
theorem dX4_readBook_217 : decode cX4_readBook 217 = .ok (.aload_n 0, 1) := by decide +kernel
theorem dX4_readBook_218 : decode cX4_readBook 218 = .ok (.getfield 37, 3) := by decide +kernel
theorem dX4_readBook_221 : decode cX4_readBook 221 = .ok (.getfield 92, 3) := by decide +kernel
theorem dX4_readBook_224 : decode cX4_readBook 224 = .ok (.putfield 95, 3) := by decide +kernel
theorem dX4_readBook_227 : decode cX4_readBook 227 = .ok (.iload_n 2, 1) := by decide +kernel
theorem dX4_readBook_228 : decode cX4_readBook 228 = .ok (.ifCond .ne 13, 3) := by decide +kernel
theorem dX4_readBook_231 : decode cX4_readBook 231 = .ok (.aload_n 0, 1) := by decide +kernel
theorem dX4_readBook_232 : decode cX4_readBook 232 = .ok (.getfield 37, 3) := by decide +kernel
theorem dX4_readBook_235 : decode cX4_readBook 235 = .ok (.getfield 98, 3) := by decide +kernel
theorem dX4_readBook_238 : decode cX4_readBook 238 = .ok (.ifCond .eq 19, 3) := by decide +kernel
theorem dX4_readBook_241 : decode cX4_readBook 241 = .ok (.iload_n 2, 1) := by decide +kernel
theorem dX4_readBook_242 : decode cX4_readBook 242 = .ok (.ifCond .eq 7, 3) := by decide +kernel
theorem dX4_readBook_245 : decode cX4_readBook 245 = .ok (.iload_n 2, 1) := by decide +kernel
theorem dX4_readBook_246 : decode cX4_readBook 246 = .ok (.goto 10, 3) := by decide +kernel
theorem dX4_readBook_249 : decode cX4_readBook 249 = .ok (.aload_n 0, 1) := by decide +kernel
theorem dX4_readBook_250 : decode cX4_readBook 250 = .ok (.getfield 37, 3) := by decide +kernel
theorem dX4_readBook_253 : decode cX4_readBook 253 = .ok (.getfield 98, 3) := by decide +kernel
theorem dX4_readBook_256 : decode cX4_readBook 256 = .ok (.ireturn, 1) := by decide +kernel
theorem dX4_readBook_257 : decode cX4_readBook 257 = .ok (.aload_n 0, 1) := by decide +kernel
theorem dX4_readBook_258 : decode cX4_readBook 258 = .ok (.getfield 53, 3) := by decide +kernel
theorem dX4_readBook_261 : decode cX4_readBook 261 = .ok (.ifCond .ne 13, 3) := by decide +kernel
theorem dX4_readBook_264 : decode cX4_readBook 264 = .ok (.aload_n 0, 1) := by decide +kernel
theorem dX4_readBook_265 : decode cX4_readBook 265 = .ok (.getfield 12, 3) := by decide +kernel
theorem dX4_readBook_268 : decode cX4_readBook 268 = .ok (.getfield 101, 3) := by decide +kernel
theorem dX4_readBook_271 : decode cX4_readBook 271 = .ok (.ifCond .le 7, 3) := by decide +kernel
theorem dX4_readBook_274 : decode cX4_readBook 274 = .ok (.iconst 2, 1) := by decide +kernel
theorem dX4_readBook_275 : decode cX4_readBook 275 = .ok (.goto 4, 3) := by decide +kernel
theorem dX4_readBook_278 : decode cX4_readBook 278 = .ok (.iconst 0, 1) := by decide +kernel
theorem dX4_readBook_279 : decode cX4_readBook 279 = .ok (.ireturn, 1) := by decide +kernel
theorem dX4_takeLabel_0 : decode cX4_takeLabel 0 = .ok (.aload_n 0, 1) := by decide +kernel
theorem dX4_takeLabel_1 : decode cX4_takeLabel 1 = .ok (.getfield 22, 3) := by decide +kernel
theorem dX4_takeLabel_4 : decode cX4_takeLabel 4 = .ok (.getfield 104, 3) := by decide +kernel
theorem dX4_takeLabel_7 : decode cX4_takeLabel 7 = .ok (.sipush 200, 3) := by decide +kernel
theorem dX4_takeLabel_10 : decode cX4_takeLabel 10 = .ok (.if_icmp .ne 6, 3) := by decide +kernel
theorem dX4_takeLabel_13 : decode cX4_takeLabel 13 = .ok (.bipush 7, 2) := by decide +kernel
theorem dX4_takeLabel_15 : decode cX4_takeLabel 15 = .ok (.ireturn, 1) := by decide +kernel
theorem dX4_takeLabel_16 : decode cX4_takeLabel 16 = .ok (.aload_n 0, 1) := by decide +kernel
theorem dX4_takeLabel_17 : decode cX4_takeLabel 17 = .ok (.getfield 37, 3) := by decide +kernel
theorem dX4_takeLabel_20 : decode cX4_takeLabel 20 = .ok (.invokevirtual 107, 3) := by decide +kernel
theorem dX4_takeLabel_23 : decode cX4_takeLabel 23 = .ok (.ifCond .eq 11, 3) := by decide +kernel
theorem dX4_takeLabel_26 : decode cX4_takeLabel 26 = .ok (.aload_n 0, 1) := by decide +kernel
theorem dX4_takeLabel_27 : decode cX4_takeLabel 27 = .ok (.invokevirtual 110, 3) := by decide +kernel
theorem dX4_takeLabel_30 : decode cX4_takeLabel 30 = .ok (.iconst (-1), 1) := by decide +kernel
theorem dX4_takeLabel_31 : decode cX4_takeLabel 31 = .ok (.if_icmp .eq 5, 3) := by decide +kernel
theorem dX4_takeLabel_34 : decode cX4_takeLabel 34 = .ok (.iconst 4, 1) := by decide +kernel
theorem dX4_takeLabel_35 : decode cX4_takeLabel 35 = .ok (.ireturn, 1) := by decide +kernel
theorem dX4_takeLabel_36 : decode cX4_takeLabel 36 = .ok (.aload_n 0, 1) := by decide +kernel
theorem dX4_takeLabel_37 : decode cX4_takeLabel 37 = .ok (.aload_n 0, 1) := by decide +kernel
theorem dX4_takeLabel_38 : decode cX4_takeLabel 38 = .ok (.getfield 37, 3) := by decide +kernel
theorem dX4_takeLabel_41 : decode cX4_takeLabel 41 = .ok (.getfield 92, 3) := by decide +kernel
theorem dX4_takeLabel_44 : decode cX4_takeLabel 44 = .ok (.putfield 113, 3) := by decide +kernel
theorem dX4_takeLabel_47 : decode cX4_takeLabel 47 = .ok (.aload_n 0, 1) := by decide +kernel
theorem dX4_takeLabel_48 : decode cX4_takeLabel 48 = .ok (.aload_n 0, 1) := by decide +kernel
theorem dX4_takeLabel_49 : decode cX4_takeLabel 49 = .ok (.getfield 37, 3) := by decide +kernel
theorem dX4_takeLabel_52 : decode cX4_takeLabel 52 = .ok (.getfield 116, 3) := by decide +kernel
theorem dX4_takeLabel_55 : decode cX4_takeLabel 55 = .ok (.aload_n 0, 1) := by decide +kernel
theorem dX4_takeLabel_56 : decode cX4_takeLabel 56 = .ok (.getfield 37, 3) := by decide +kernel
theorem dX4_takeLabel_59 : decode cX4_takeLabel 59 = .ok (.getfield 92, 3) := by decide +kernel
theorem dX4_takeLabel_62 : decode cX4_takeLabel 62 = .ok (.isub, 1) := by decide +kernel
theorem dX4_takeLabel_63 : decode cX4_takeLabel 63 = .ok (.putfield 119, 3) := by decide +kernel
theorem dX4_takeLabel_66 : decode cX4_takeLabel 66 = .ok (.aload_n 0, 1) := by decide +kernel
theorem dX4_takeLabel_67 : decode cX4_takeLabel 67 = .ok (.iconst 1, 1) := by decide +kernel
theorem dX4_takeLabel_68 : decode cX4_takeLabel 68 = .ok (.putfield 53, 3) := by decide +kernel
theorem dX4_takeLabel_71 : decode cX4_takeLabel 71 = .ok (.iconst 0, 1) := by decide +kernel
theorem dX4_takeLabel_72 : decode cX4_takeLabel 72 = .ok (.ireturn, 1) := by decide +kernel
theorem dX4_namedByToken_0 : decode cX4_namedByToken 0 = .ok (.aload_n 0, 1) := by decide +kernel
theorem dX4_namedByToken_1 : decode cX4_namedByToken 1 = .ok (.getfield 22, 3) := by decide +kernel
theorem dX4_namedByToken_4 : decode cX4_namedByToken 4 = .ok (.getfield 122, 3) := by decide +kernel
theorem dX4_namedByToken_7 : decode cX4_namedByToken 7 = .ok (.aload_n 0, 1) := by decide +kernel
theorem dX4_namedByToken_8 : decode cX4_namedByToken 8 = .ok (.getfield 22, 3) := by decide +kernel
theorem dX4_namedByToken_11 : decode cX4_namedByToken 11 = .ok (.getfield 28, 3) := by decide +kernel
theorem dX4_namedByToken_14 : decode cX4_namedByToken 14 = .ok (.aload_n 0, 1) := by decide +kernel
theorem dX4_namedByToken_15 : decode cX4_namedByToken 15 = .ok (.getfield 37, 3) := by decide +kernel
theorem dX4_namedByToken_18 : decode cX4_namedByToken 18 = .ok (.getfield 92, 3) := by decide +kernel
theorem dX4_namedByToken_21 : decode cX4_namedByToken 21 = .ok (.aload_n 0, 1) := by decide +kernel
theorem dX4_namedByToken_22 : decode cX4_namedByToken 22 = .ok (.getfield 37, 3) := by decide +kernel
theorem dX4_namedByToken_25 : decode cX4_namedByToken 25 = .ok (.getfield 116, 3) := by decide +kernel
theorem dX4_namedByToken_28 : decode cX4_namedByToken 28 = .ok (.aload_n 0, 1) := by decide +kernel
theorem dX4_namedByToken_29 : decode cX4_namedByToken 29 = .ok (.getfield 37, 3) := by decide +kernel
theorem dX4_namedByToken_32 : decode cX4_namedByToken 32 = .ok (.getfield 92, 3) := by decide +kernel
theorem dX4_namedByToken_35 : decode cX4_namedByToken 35 = .ok (.isub, 1) := by decide +kernel
theorem dX4_namedByToken_36 : decode cX4_namedByToken 36 = .ok (.invokevirtual 126, 3) := by decide +kernel
theorem dX4_namedByToken_39 : decode cX4_namedByToken 39 = .ok (.ireturn, 1) := by decide +kernel
theorem dX4_takeOutside_0 : decode cX4_takeOutside 0 = .ok (.iload_n 1, 1) := by decide +kernel
theorem dX4_takeOutside_1 : decode cX4_takeOutside 1 = .ok (.lookupswitch 141 #[(99, 51), (100, 93), (118, 51), (123, 99), (125, 116)], 51) := by decide +kernel
theorem dX4_takeOutside_52 : decode cX4_takeOutside 52 = .ok (.aload_n 0, 1) := by decide +kernel
theorem dX4_takeOutside_53 : decode cX4_takeOutside 53 = .ok (.iload_n 1, 1) := by decide +kernel
theorem dX4_takeOutside_54 : decode cX4_takeOutside 54 = .ok (.bipush 118, 2) := by decide +kernel
theorem dX4_takeOutside_56 : decode cX4_takeOutside 56 = .ok (.if_icmp .ne 7, 3) := by decide +kernel
theorem dX4_takeOutside_59 : decode cX4_takeOutside 59 = .ok (.iconst 1, 1) := by decide +kernel
theorem dX4_takeOutside_60 : decode cX4_takeOutside 60 = .ok (.goto 4, 3) := by decide +kernel
theorem dX4_takeOutside_63 : decode cX4_takeOutside 63 = .ok (.iconst 0, 1) := by decide +kernel
theorem dX4_takeOutside_64 : decode cX4_takeOutside 64 = .ok (.putfield 132, 3) := by decide +kernel
theorem dX4_takeOutside_67 : decode cX4_takeOutside 67 = .ok (.aload_n 0, 1) := by decide +kernel
theorem dX4_takeOutside_68 : decode cX4_takeOutside 68 = .ok (.getfield 132, 3) := by decide +kernel
theorem dX4_takeOutside_71 : decode cX4_takeOutside 71 = .ok (.ifCond .ne 13, 3) := by decide +kernel
theorem dX4_takeOutside_74 : decode cX4_takeOutside 74 = .ok (.aload_n 0, 1) := by decide +kernel
theorem dX4_takeOutside_75 : decode cX4_takeOutside 75 = .ok (.getfield 12, 3) := by decide +kernel
theorem dX4_takeOutside_78 : decode cX4_takeOutside 78 = .ok (.getfield 101, 3) := by decide +kernel
theorem dX4_takeOutside_81 : decode cX4_takeOutside 81 = .ok (.ifCond .ne 11, 3) := by decide +kernel
theorem dX4_takeOutside_84 : decode cX4_takeOutside 84 = .ok (.aload_n 0, 1) := by decide +kernel
theorem dX4_takeOutside_85 : decode cX4_takeOutside 85 = .ok (.iconst 2, 1) := by decide +kernel
theorem dX4_takeOutside_86 : decode cX4_takeOutside 86 = .ok (.invokevirtual 136, 3) := by decide +kernel
theorem dX4_takeOutside_89 : decode cX4_takeOutside 89 = .ok (.goto 4, 3) := by decide +kernel
theorem dX4_takeOutside_92 : decode cX4_takeOutside 92 = .ok (.iconst 3, 1) := by decide +kernel
theorem dX4_takeOutside_93 : decode cX4_takeOutside 93 = .ok (.ireturn, 1) := by decide +kernel
theorem dX4_takeOutside_94 : decode cX4_takeOutside 94 = .ok (.aload_n 0, 1) := by decide +kernel
theorem dX4_takeOutside_95 : decode cX4_takeOutside 95 = .ok (.iconst 3, 1) := by decide +kernel
theorem dX4_takeOutside_96 : decode cX4_takeOutside 96 = .ok (.invokevirtual 136, 3) := by decide +kernel
theorem dX4_takeOutside_99 : decode cX4_takeOutside 99 = .ok (.ireturn, 1) := by decide +kernel
theorem dX4_takeOutside_100 : decode cX4_takeOutside 100 = .ok (.aload_n 0, 1) := by decide +kernel
theorem dX4_takeOutside_101 : decode cX4_takeOutside 101 = .ok (.getfield 12, 3) := by decide +kernel
theorem dX4_takeOutside_104 : decode cX4_takeOutside 104 = .ok (.invokevirtual 139, 3) := by decide +kernel
theorem dX4_takeOutside_107 : decode cX4_takeOutside 107 = .ok (.ifCond .eq 7, 3) := by decide +kernel
theorem dX4_takeOutside_110 : decode cX4_takeOutside 110 = .ok (.iconst 0, 1) := by decide +kernel
theorem dX4_takeOutside_111 : decode cX4_takeOutside 111 = .ok (.goto 5, 3) := by decide +kernel
theorem dX4_takeOutside_114 : decode cX4_takeOutside 114 = .ok (.bipush 7, 2) := by decide +kernel
theorem dX4_takeOutside_116 : decode cX4_takeOutside 116 = .ok (.ireturn, 1) := by decide +kernel
theorem dX4_takeOutside_117 : decode cX4_takeOutside 117 = .ok (.aload_n 0, 1) := by decide +kernel
theorem dX4_takeOutside_118 : decode cX4_takeOutside 118 = .ok (.getfield 12, 3) := by decide +kernel
theorem dX4_takeOutside_121 : decode cX4_takeOutside 121 = .ok (.getfield 101, 3) := by decide +kernel
theorem dX4_takeOutside_124 : decode cX4_takeOutside 124 = .ok (.ifCond .ne 5, 3) := by decide +kernel
theorem dX4_takeOutside_127 : decode cX4_takeOutside 127 = .ok (.iconst 3, 1) := by decide +kernel
theorem dX4_takeOutside_128 : decode cX4_takeOutside 128 = .ok (.ireturn, 1) := by decide +kernel
theorem dX4_takeOutside_129 : decode cX4_takeOutside 129 = .ok (.aload_n 0, 1) := by decide +kernel
theorem dX4_takeOutside_130 : decode cX4_takeOutside 130 = .ok (.getfield 12, 3) := by decide +kernel
theorem dX4_takeOutside_133 : decode cX4_takeOutside 133 = .ok (.aload_n 0, 1) := by decide +kernel
theorem dX4_takeOutside_134 : decode cX4_takeOutside 134 = .ok (.getfield 22, 3) := by decide +kernel
theorem dX4_takeOutside_137 : decode cX4_takeOutside 137 = .ok (.invokevirtual 142, 3) := by decide +kernel
theorem dX4_takeOutside_140 : decode cX4_takeOutside 140 = .ok (.iconst 0, 1) := by decide +kernel
theorem dX4_takeOutside_141 : decode cX4_takeOutside 141 = .ok (.ireturn, 1) := by decide +kernel
theorem dX4_takeOutside_142 : decode cX4_takeOutside 142 = .ok (.iconst 3, 1) := by decide +kernel
theorem dX4_takeOutside_143 : decode cX4_takeOutside 143 = .ok (.ireturn, 1) := by decide +kernel
theorem dX4_begin_0 : decode cX4_begin 0 = .ok (.aload_n 0, 1) := by decide +kernel
theorem dX4_begin_1 : decode cX4_begin 1 = .ok (.iload_n 1, 1) := by decide +kernel
theorem dX4_begin_2 : decode cX4_begin 2 = .ok (.putfield 53, 3) := by decide +kernel
theorem dX4_begin_5 : decode cX4_begin 5 = .ok (.aload_n 0, 1) := by decide +kernel
theorem dX4_begin_6 : decode cX4_begin 6 = .ok (.iconst 0, 1) := by decide +kernel
theorem dX4_begin_7 : decode cX4_begin 7 = .ok (.putfield 146, 3) := by decide +kernel
theorem dX4_begin_10 : decode cX4_begin 10 = .ok (.iconst 0, 1) := by decide +kernel
theorem dX4_begin_11 : decode cX4_begin 11 = .ok (.ireturn, 1) := by decide +kernel
theorem dX4_takeKind_0 : decode cX4_takeKind 0 = .ok (.iload_n 1, 1) := by decide +kernel
theorem dX4_takeKind_1 : decode cX4_takeKind 1 = .ok (.lookupswitch 87 #[(97, 65), (101, 54), (102, 43), (112, 76)], 43) := by decide +kernel
theorem dX4_takeKind_44 : decode cX4_takeKind 44 = .ok (.aload_n 0, 1) := by decide +kernel
theorem dX4_takeKind_45 : decode cX4_takeKind 45 = .ok (.iconst 0, 1) := by decide +kernel
theorem dX4_takeKind_46 : decode cX4_takeKind 46 = .ok (.putfield 149, 3) := by decide +kernel
theorem dX4_takeKind_49 : decode cX4_takeKind 49 = .ok (.aload_n 0, 1) := by decide +kernel
theorem dX4_takeKind_50 : decode cX4_takeKind 50 = .ok (.iconst 4, 1) := by decide +kernel
theorem dX4_takeKind_51 : decode cX4_takeKind 51 = .ok (.invokevirtual 136, 3) := by decide +kernel
theorem dX4_takeKind_54 : decode cX4_takeKind 54 = .ok (.ireturn, 1) := by decide +kernel
theorem dX4_takeKind_55 : decode cX4_takeKind 55 = .ok (.aload_n 0, 1) := by decide +kernel
theorem dX4_takeKind_56 : decode cX4_takeKind 56 = .ok (.iconst 1, 1) := by decide +kernel
theorem dX4_takeKind_57 : decode cX4_takeKind 57 = .ok (.putfield 149, 3) := by decide +kernel
theorem dX4_takeKind_60 : decode cX4_takeKind 60 = .ok (.aload_n 0, 1) := by decide +kernel
theorem dX4_takeKind_61 : decode cX4_takeKind 61 = .ok (.iconst 4, 1) := by decide +kernel
theorem dX4_takeKind_62 : decode cX4_takeKind 62 = .ok (.invokevirtual 136, 3) := by decide +kernel
theorem dX4_takeKind_65 : decode cX4_takeKind 65 = .ok (.ireturn, 1) := by decide +kernel
theorem dX4_takeKind_66 : decode cX4_takeKind 66 = .ok (.aload_n 0, 1) := by decide +kernel
theorem dX4_takeKind_67 : decode cX4_takeKind 67 = .ok (.iconst 2, 1) := by decide +kernel
theorem dX4_takeKind_68 : decode cX4_takeKind 68 = .ok (.putfield 149, 3) := by decide +kernel
theorem dX4_takeKind_71 : decode cX4_takeKind 71 = .ok (.aload_n 0, 1) := by decide +kernel
theorem dX4_takeKind_72 : decode cX4_takeKind 72 = .ok (.iconst 4, 1) := by decide +kernel
theorem dX4_takeKind_73 : decode cX4_takeKind 73 = .ok (.invokevirtual 136, 3) := by decide +kernel
theorem dX4_takeKind_76 : decode cX4_takeKind 76 = .ok (.ireturn, 1) := by decide +kernel
theorem dX4_takeKind_77 : decode cX4_takeKind 77 = .ok (.aload_n 0, 1) := by decide +kernel
theorem dX4_takeKind_78 : decode cX4_takeKind 78 = .ok (.iconst 3, 1) := by decide +kernel
theorem dX4_takeKind_79 : decode cX4_takeKind 79 = .ok (.putfield 149, 3) := by decide +kernel
theorem dX4_takeKind_82 : decode cX4_takeKind 82 = .ok (.aload_n 0, 1) := by decide +kernel
theorem dX4_takeKind_83 : decode cX4_takeKind 83 = .ok (.iconst 4, 1) := by decide +kernel
theorem dX4_takeKind_84 : decode cX4_takeKind 84 = .ok (.invokevirtual 136, 3) := by decide +kernel
theorem dX4_takeKind_87 : decode cX4_takeKind 87 = .ok (.ireturn, 1) := by decide +kernel
theorem dX4_takeKind_88 : decode cX4_takeKind 88 = .ok (.iconst 3, 1) := by decide +kernel
theorem dX4_takeKind_89 : decode cX4_takeKind 89 = .ok (.ireturn, 1) := by decide +kernel
theorem dX4_takeDeclared_0 : decode cX4_takeDeclared 0 = .ok (.iload_n 1, 1) := by decide +kernel
theorem dX4_takeDeclared_1 : decode cX4_takeDeclared 1 = .ok (.bipush 46, 2) := by decide +kernel
theorem dX4_takeDeclared_3 : decode cX4_takeDeclared 3 = .ok (.if_icmp .ne 16, 3) := by decide +kernel
theorem dX4_takeDeclared_6 : decode cX4_takeDeclared 6 = .ok (.aload_n 0, 1) := by decide +kernel
theorem dX4_takeDeclared_7 : decode cX4_takeDeclared 7 = .ok (.getfield 146, 3) := by decide +kernel
theorem dX4_takeDeclared_10 : decode cX4_takeDeclared 10 = .ok (.ifCond .le 9, 3) := by decide +kernel
theorem dX4_takeDeclared_13 : decode cX4_takeDeclared 13 = .ok (.aload_n 0, 1) := by decide +kernel
theorem dX4_takeDeclared_14 : decode cX4_takeDeclared 14 = .ok (.iconst 0, 1) := by decide +kernel
theorem dX4_takeDeclared_15 : decode cX4_takeDeclared 15 = .ok (.invokevirtual 136, 3) := by decide +kernel
theorem dX4_takeDeclared_18 : decode cX4_takeDeclared 18 = .ok (.ireturn, 1) := by decide +kernel
theorem dX4_takeDeclared_19 : decode cX4_takeDeclared 19 = .ok (.iload_n 1, 1) := by decide +kernel
theorem dX4_takeDeclared_20 : decode cX4_takeDeclared 20 = .ok (.ifCond .eq 5, 3) := by decide +kernel
theorem dX4_takeDeclared_23 : decode cX4_takeDeclared 23 = .ok (.iconst 3, 1) := by decide +kernel
theorem dX4_takeDeclared_24 : decode cX4_takeDeclared 24 = .ok (.ireturn, 1) := by decide +kernel
theorem dX4_takeDeclared_25 : decode cX4_takeDeclared 25 = .ok (.aload_n 0, 1) := by decide +kernel
theorem dX4_takeDeclared_26 : decode cX4_takeDeclared 26 = .ok (.invokevirtual 110, 3) := by decide +kernel
theorem dX4_takeDeclared_29 : decode cX4_takeDeclared 29 = .ok (.istore_n 2, 1) := by decide +kernel
theorem dX4_takeDeclared_30 : decode cX4_takeDeclared 30 = .ok (.iload_n 2, 1) := by decide +kernel
theorem dX4_takeDeclared_31 : decode cX4_takeDeclared 31 = .ok (.iconst (-1), 1) := by decide +kernel
theorem dX4_takeDeclared_32 : decode cX4_takeDeclared 32 = .ok (.if_icmp .eq 14, 3) := by decide +kernel
theorem dX4_takeDeclared_35 : decode cX4_takeDeclared 35 = .ok (.iload_n 2, 1) := by decide +kernel
theorem dX4_takeDeclared_36 : decode cX4_takeDeclared 36 = .ok (.sipush 300, 3) := by decide +kernel
theorem dX4_takeDeclared_39 : decode cX4_takeDeclared 39 = .ok (.if_icmp .ge 7, 3) := by decide +kernel
theorem dX4_takeDeclared_42 : decode cX4_takeDeclared 42 = .ok (.iconst 1, 1) := by decide +kernel
theorem dX4_takeDeclared_43 : decode cX4_takeDeclared 43 = .ok (.goto 4, 3) := by decide +kernel
theorem dX4_takeDeclared_46 : decode cX4_takeDeclared 46 = .ok (.iconst 0, 1) := by decide +kernel
theorem dX4_takeDeclared_47 : decode cX4_takeDeclared 47 = .ok (.istore_n 3, 1) := by decide +kernel
theorem dX4_takeDeclared_48 : decode cX4_takeDeclared 48 = .ok (.iload_n 3, 1) := by decide +kernel
theorem dX4_takeDeclared_49 : decode cX4_takeDeclared 49 = .ok (.ifCond .ne 19, 3) := by decide +kernel
theorem dX4_takeDeclared_52 : decode cX4_takeDeclared 52 = .ok (.aload_n 0, 1) := by decide +kernel
theorem dX4_takeDeclared_53 : decode cX4_takeDeclared 53 = .ok (.getfield 22, 3) := by decide +kernel
theorem dX4_takeDeclared_56 : decode cX4_takeDeclared 56 = .ok (.getfield 152, 3) := by decide +kernel
theorem dX4_takeDeclared_59 : decode cX4_takeDeclared 59 = .ok (.sipush 300, 3) := by decide +kernel
theorem dX4_takeDeclared_62 : decode cX4_takeDeclared 62 = .ok (.if_icmp .ne 6, 3) := by decide +kernel
theorem dX4_takeDeclared_65 : decode cX4_takeDeclared 65 = .ok (.bipush 7, 2) := by decide +kernel
theorem dX4_takeDeclared_67 : decode cX4_takeDeclared 67 = .ok (.ireturn, 1) := by decide +kernel
theorem dX4_takeDeclared_68 : decode cX4_takeDeclared 68 = .ok (.aload_n 0, 1) := by decide +kernel
theorem dX4_takeDeclared_69 : decode cX4_takeDeclared 69 = .ok (.getfield 132, 3) := by decide +kernel
theorem dX4_takeDeclared_72 : decode cX4_takeDeclared 72 = .ok (.ifCond .eq 29, 3) := by decide +kernel
theorem dX4_takeDeclared_75 : decode cX4_takeDeclared 75 = .ok (.aload_n 0, 1) := by decide +kernel
theorem dX4_takeDeclared_76 : decode cX4_takeDeclared 76 = .ok (.getfield 22, 3) := by decide +kernel
theorem dX4_takeDeclared_79 : decode cX4_takeDeclared 79 = .ok (.iload_n 2, 1) := by decide +kernel
theorem dX4_takeDeclared_80 : decode cX4_takeDeclared 80 = .ok (.invokevirtual 155, 3) := by decide +kernel
theorem dX4_takeDeclared_83 : decode cX4_takeDeclared 83 = .ok (.ifCond .eq 18, 3) := by decide +kernel
theorem dX4_takeDeclared_86 : decode cX4_takeDeclared 86 = .ok (.aload_n 0, 1) := by decide +kernel
theorem dX4_takeDeclared_87 : decode cX4_takeDeclared 87 = .ok (.getfield 12, 3) := by decide +kernel
theorem dX4_takeDeclared_90 : decode cX4_takeDeclared 90 = .ok (.iload_n 2, 1) := by decide +kernel
theorem dX4_takeDeclared_91 : decode cX4_takeDeclared 91 = .ok (.invokevirtual 159, 3) := by decide +kernel
theorem dX4_takeDeclared_94 : decode cX4_takeDeclared 94 = .ok (.ifCond .ne 7, 3) := by decide +kernel
theorem dX4_takeDeclared_97 : decode cX4_takeDeclared 97 = .ok (.iconst 1, 1) := by decide +kernel
theorem dX4_takeDeclared_98 : decode cX4_takeDeclared 98 = .ok (.goto 4, 3) := by decide +kernel
theorem dX4_takeDeclared_101 : decode cX4_takeDeclared 101 = .ok (.iconst 0, 1) := by decide +kernel
theorem dX4_takeDeclared_102 : decode cX4_takeDeclared 102 = .ok (.istore 4, 2) := by decide +kernel
theorem dX4_takeDeclared_104 : decode cX4_takeDeclared 104 = .ok (.iload_n 2, 1) := by decide +kernel
theorem dX4_takeDeclared_105 : decode cX4_takeDeclared 105 = .ok (.iconst (-1), 1) := by decide +kernel
theorem dX4_takeDeclared_106 : decode cX4_takeDeclared 106 = .ok (.if_icmp .eq 10, 3) := by decide +kernel
theorem dX4_takeDeclared_109 : decode cX4_takeDeclared 109 = .ok (.iload 4, 2) := by decide +kernel
theorem dX4_takeDeclared_111 : decode cX4_takeDeclared 111 = .ok (.ifCond .ne 5, 3) := by decide +kernel
theorem dX4_takeDeclared_114 : decode cX4_takeDeclared 114 = .ok (.iconst 5, 1) := by decide +kernel
theorem dX4_takeDeclared_115 : decode cX4_takeDeclared 115 = .ok (.ireturn, 1) := by decide +kernel
theorem dX4_takeDeclared_116 : decode cX4_takeDeclared 116 = .ok (.iload 4, 2) := by decide +kernel
theorem dX4_takeDeclared_118 : decode cX4_takeDeclared 118 = .ok (.ifCond .ne 37, 3) := by decide +kernel
theorem dX4_takeDeclared_121 : decode cX4_takeDeclared 121 = .ok (.aload_n 0, 1) := by decide +kernel
theorem dX4_takeDeclared_122 : decode cX4_takeDeclared 122 = .ok (.getfield 22, 3) := by decide +kernel
theorem dX4_takeDeclared_125 : decode cX4_takeDeclared 125 = .ok (.aload_n 0, 1) := by decide +kernel
theorem dX4_takeDeclared_126 : decode cX4_takeDeclared 126 = .ok (.getfield 132, 3) := by decide +kernel
theorem dX4_takeDeclared_129 : decode cX4_takeDeclared 129 = .ok (.aload_n 0, 1) := by decide +kernel
theorem dX4_takeDeclared_130 : decode cX4_takeDeclared 130 = .ok (.getfield 37, 3) := by decide +kernel
theorem dX4_takeDeclared_133 : decode cX4_takeDeclared 133 = .ok (.getfield 92, 3) := by decide +kernel
theorem dX4_takeDeclared_136 : decode cX4_takeDeclared 136 = .ok (.aload_n 0, 1) := by decide +kernel
theorem dX4_takeDeclared_137 : decode cX4_takeDeclared 137 = .ok (.getfield 37, 3) := by decide +kernel
theorem dX4_takeDeclared_140 : decode cX4_takeDeclared 140 = .ok (.getfield 116, 3) := by decide +kernel
theorem dX4_takeDeclared_143 : decode cX4_takeDeclared 143 = .ok (.aload_n 0, 1) := by decide +kernel
theorem dX4_takeDeclared_144 : decode cX4_takeDeclared 144 = .ok (.getfield 37, 3) := by decide +kernel
theorem dX4_takeDeclared_147 : decode cX4_takeDeclared 147 = .ok (.getfield 92, 3) := by decide +kernel
theorem dX4_takeDeclared_150 : decode cX4_takeDeclared 150 = .ok (.isub, 1) := by decide +kernel
theorem dX4_takeDeclared_151 : decode cX4_takeDeclared 151 = .ok (.invokevirtual 162, 3) := by decide +kernel
theorem dX4_takeDeclared_154 : decode cX4_takeDeclared 154 = .ok (.istore_n 2, 1) := by decide +kernel
theorem dX4_takeDeclared_155 : decode cX4_takeDeclared 155 = .ok (.aload_n 0, 1) := by decide +kernel
theorem dX4_takeDeclared_156 : decode cX4_takeDeclared 156 = .ok (.getfield 132, 3) := by decide +kernel
theorem dX4_takeDeclared_159 : decode cX4_takeDeclared 159 = .ok (.ifCond .eq 11, 3) := by decide +kernel
theorem dX4_takeDeclared_162 : decode cX4_takeDeclared 162 = .ok (.aload_n 0, 1) := by decide +kernel
theorem dX4_takeDeclared_163 : decode cX4_takeDeclared 163 = .ok (.getfield 12, 3) := by decide +kernel
theorem dX4_takeDeclared_166 : decode cX4_takeDeclared 166 = .ok (.iload_n 2, 1) := by decide +kernel
theorem dX4_takeDeclared_167 : decode cX4_takeDeclared 167 = .ok (.invokevirtual 166, 3) := by decide +kernel
theorem dX4_takeDeclared_170 : decode cX4_takeDeclared 170 = .ok (.aload_n 0, 1) := by decide +kernel
theorem dX4_takeDeclared_171 : decode cX4_takeDeclared 171 = .ok (.dup, 1) := by decide +kernel
theorem dX4_takeDeclared_172 : decode cX4_takeDeclared 172 = .ok (.getfield 146, 3) := by decide +kernel
theorem dX4_takeDeclared_175 : decode cX4_takeDeclared 175 = .ok (.iconst 1, 1) := by decide +kernel
theorem dX4_takeDeclared_176 : decode cX4_takeDeclared 176 = .ok (.iadd, 1) := by decide +kernel
theorem dX4_takeDeclared_177 : decode cX4_takeDeclared 177 = .ok (.putfield 146, 3) := by decide +kernel
theorem dX4_takeDeclared_180 : decode cX4_takeDeclared 180 = .ok (.iconst 0, 1) := by decide +kernel
theorem dX4_takeDeclared_181 : decode cX4_takeDeclared 181 = .ok (.ireturn, 1) := by decide +kernel
theorem dX4_takeSeparated_0 : decode cX4_takeSeparated 0 = .ok (.iload_n 1, 1) := by decide +kernel
theorem dX4_takeSeparated_1 : decode cX4_takeSeparated 1 = .ok (.bipush 46, 2) := by decide +kernel
theorem dX4_takeSeparated_3 : decode cX4_takeSeparated 3 = .ok (.if_icmp .ne 17, 3) := by decide +kernel
theorem dX4_takeSeparated_6 : decode cX4_takeSeparated 6 = .ok (.aload_n 0, 1) := by decide +kernel
theorem dX4_takeSeparated_7 : decode cX4_takeSeparated 7 = .ok (.getfield 146, 3) := by decide +kernel
theorem dX4_takeSeparated_10 : decode cX4_takeSeparated 10 = .ok (.iconst 2, 1) := by decide +kernel
theorem dX4_takeSeparated_11 : decode cX4_takeSeparated 11 = .ok (.if_icmp .lt 9, 3) := by decide +kernel
theorem dX4_takeSeparated_14 : decode cX4_takeSeparated 14 = .ok (.aload_n 0, 1) := by decide +kernel
theorem dX4_takeSeparated_15 : decode cX4_takeSeparated 15 = .ok (.iconst 0, 1) := by decide +kernel
theorem dX4_takeSeparated_16 : decode cX4_takeSeparated 16 = .ok (.invokevirtual 136, 3) := by decide +kernel
theorem dX4_takeSeparated_19 : decode cX4_takeSeparated 19 = .ok (.ireturn, 1) := by decide +kernel
theorem dX4_takeSeparated_20 : decode cX4_takeSeparated 20 = .ok (.iload_n 1, 1) := by decide +kernel
theorem dX4_takeSeparated_21 : decode cX4_takeSeparated 21 = .ok (.ifCond .eq 5, 3) := by decide +kernel
theorem dX4_takeSeparated_24 : decode cX4_takeSeparated 24 = .ok (.iconst 3, 1) := by decide +kernel
theorem dX4_takeSeparated_25 : decode cX4_takeSeparated 25 = .ok (.ireturn, 1) := by decide +kernel
theorem dX4_takeSeparated_26 : decode cX4_takeSeparated 26 = .ok (.aload_n 0, 1) := by decide +kernel
theorem dX4_takeSeparated_27 : decode cX4_takeSeparated 27 = .ok (.getfield 146, 3) := by decide +kernel
theorem dX4_takeSeparated_30 : decode cX4_takeSeparated 30 = .ok (.bipush 8, 2) := by decide +kernel
theorem dX4_takeSeparated_32 : decode cX4_takeSeparated 32 = .ok (.if_icmp .ne 6, 3) := by decide +kernel
theorem dX4_takeSeparated_35 : decode cX4_takeSeparated 35 = .ok (.bipush 7, 2) := by decide +kernel
theorem dX4_takeSeparated_37 : decode cX4_takeSeparated 37 = .ok (.ireturn, 1) := by decide +kernel
theorem dX4_takeSeparated_38 : decode cX4_takeSeparated 38 = .ok (.aload_n 0, 1) := by decide +kernel
theorem dX4_takeSeparated_39 : decode cX4_takeSeparated 39 = .ok (.invokevirtual 110, 3) := by decide +kernel
theorem dX4_takeSeparated_42 : decode cX4_takeSeparated 42 = .ok (.istore_n 2, 1) := by decide +kernel
theorem dX4_takeSeparated_43 : decode cX4_takeSeparated 43 = .ok (.aload_n 0, 1) := by decide +kernel
theorem dX4_takeSeparated_44 : decode cX4_takeSeparated 44 = .ok (.getfield 12, 3) := by decide +kernel
theorem dX4_takeSeparated_47 : decode cX4_takeSeparated 47 = .ok (.iload_n 2, 1) := by decide +kernel
theorem dX4_takeSeparated_48 : decode cX4_takeSeparated 48 = .ok (.invokevirtual 159, 3) := by decide +kernel
theorem dX4_takeSeparated_51 : decode cX4_takeSeparated 51 = .ok (.ifCond .ne 6, 3) := by decide +kernel
theorem dX4_takeSeparated_54 : decode cX4_takeSeparated 54 = .ok (.bipush 6, 2) := by decide +kernel
theorem dX4_takeSeparated_56 : decode cX4_takeSeparated 56 = .ok (.ireturn, 1) := by decide +kernel
theorem dX4_takeSeparated_57 : decode cX4_takeSeparated 57 = .ok (.iconst 0, 1) := by decide +kernel
theorem dX4_takeSeparated_58 : decode cX4_takeSeparated 58 = .ok (.istore_n 3, 1) := by decide +kernel
theorem dX4_takeSeparated_59 : decode cX4_takeSeparated 59 = .ok (.iload_n 3, 1) := by decide +kernel
theorem dX4_takeSeparated_60 : decode cX4_takeSeparated 60 = .ok (.aload_n 0, 1) := by decide +kernel
theorem dX4_takeSeparated_61 : decode cX4_takeSeparated 61 = .ok (.getfield 146, 3) := by decide +kernel
theorem dX4_takeSeparated_64 : decode cX4_takeSeparated 64 = .ok (.if_icmp .ge 22, 3) := by decide +kernel
theorem dX4_takeSeparated_67 : decode cX4_takeSeparated 67 = .ok (.aload_n 0, 1) := by decide +kernel
theorem dX4_takeSeparated_68 : decode cX4_takeSeparated 68 = .ok (.getfield 18, 3) := by decide +kernel
theorem dX4_takeSeparated_71 : decode cX4_takeSeparated 71 = .ok (.iload_n 3, 1) := by decide +kernel
theorem dX4_takeSeparated_72 : decode cX4_takeSeparated 72 = .ok (.iaload, 1) := by decide +kernel
theorem dX4_takeSeparated_73 : decode cX4_takeSeparated 73 = .ok (.iload_n 2, 1) := by decide +kernel
theorem dX4_takeSeparated_74 : decode cX4_takeSeparated 74 = .ok (.if_icmp .ne 6, 3) := by decide +kernel
theorem dX4_takeSeparated_77 : decode cX4_takeSeparated 77 = .ok (.bipush 6, 2) := by decide +kernel
theorem dX4_takeSeparated_79 : decode cX4_takeSeparated 79 = .ok (.ireturn, 1) := by decide +kernel
theorem dX4_takeSeparated_80 : decode cX4_takeSeparated 80 = .ok (.iinc 3 1, 3) := by decide +kernel
theorem dX4_takeSeparated_83 : decode cX4_takeSeparated 83 = .ok (.goto (-24), 3) := by decide +kernel
theorem dX4_takeSeparated_86 : decode cX4_takeSeparated 86 = .ok (.iconst 0, 1) := by decide +kernel
theorem dX4_takeSeparated_87 : decode cX4_takeSeparated 87 = .ok (.istore_n 3, 1) := by decide +kernel
theorem dX4_takeSeparated_88 : decode cX4_takeSeparated 88 = .ok (.iload_n 3, 1) := by decide +kernel
theorem dX4_takeSeparated_89 : decode cX4_takeSeparated 89 = .ok (.aload_n 0, 1) := by decide +kernel
theorem dX4_takeSeparated_90 : decode cX4_takeSeparated 90 = .ok (.getfield 146, 3) := by decide +kernel
theorem dX4_takeSeparated_93 : decode cX4_takeSeparated 93 = .ok (.if_icmp .ge 29, 3) := by decide +kernel
theorem dX4_takeSeparated_96 : decode cX4_takeSeparated 96 = .ok (.aload_n 0, 1) := by decide +kernel
theorem dX4_takeSeparated_97 : decode cX4_takeSeparated 97 = .ok (.getfield 12, 3) := by decide +kernel
theorem dX4_takeSeparated_100 : decode cX4_takeSeparated 100 = .ok (.aload_n 0, 1) := by decide +kernel
theorem dX4_takeSeparated_101 : decode cX4_takeSeparated 101 = .ok (.getfield 18, 3) := by decide +kernel
theorem dX4_takeSeparated_104 : decode cX4_takeSeparated 104 = .ok (.iload_n 3, 1) := by decide +kernel
theorem dX4_takeSeparated_105 : decode cX4_takeSeparated 105 = .ok (.iaload, 1) := by decide +kernel
theorem dX4_takeSeparated_106 : decode cX4_takeSeparated 106 = .ok (.iload_n 2, 1) := by decide +kernel
theorem dX4_takeSeparated_107 : decode cX4_takeSeparated 107 = .ok (.invokevirtual 170, 3) := by decide +kernel
theorem dX4_takeSeparated_110 : decode cX4_takeSeparated 110 = .ok (.ifCond .ne 6, 3) := by decide +kernel
theorem dX4_takeSeparated_113 : decode cX4_takeSeparated 113 = .ok (.bipush 7, 2) := by decide +kernel
theorem dX4_takeSeparated_115 : decode cX4_takeSeparated 115 = .ok (.ireturn, 1) := by decide +kernel
theorem dX4_takeSeparated_116 : decode cX4_takeSeparated 116 = .ok (.iinc 3 1, 3) := by decide +kernel
theorem dX4_takeSeparated_119 : decode cX4_takeSeparated 119 = .ok (.goto (-31), 3) := by decide +kernel
theorem dX4_takeSeparated_122 : decode cX4_takeSeparated 122 = .ok (.aload_n 0, 1) := by decide +kernel
theorem dX4_takeSeparated_123 : decode cX4_takeSeparated 123 = .ok (.getfield 18, 3) := by decide +kernel
theorem dX4_takeSeparated_126 : decode cX4_takeSeparated 126 = .ok (.aload_n 0, 1) := by decide +kernel
theorem dX4_takeSeparated_127 : decode cX4_takeSeparated 127 = .ok (.getfield 146, 3) := by decide +kernel
theorem dX4_takeSeparated_130 : decode cX4_takeSeparated 130 = .ok (.iload_n 2, 1) := by decide +kernel
theorem dX4_takeSeparated_131 : decode cX4_takeSeparated 131 = .ok (.iastore, 1) := by decide +kernel
theorem dX4_takeSeparated_132 : decode cX4_takeSeparated 132 = .ok (.aload_n 0, 1) := by decide +kernel
theorem dX4_takeSeparated_133 : decode cX4_takeSeparated 133 = .ok (.dup, 1) := by decide +kernel
theorem dX4_takeSeparated_134 : decode cX4_takeSeparated 134 = .ok (.getfield 146, 3) := by decide +kernel
theorem dX4_takeSeparated_137 : decode cX4_takeSeparated 137 = .ok (.iconst 1, 1) := by decide +kernel
theorem dX4_takeSeparated_138 : decode cX4_takeSeparated 138 = .ok (.iadd, 1) := by decide +kernel
theorem dX4_takeSeparated_139 : decode cX4_takeSeparated 139 = .ok (.putfield 146, 3) := by decide +kernel
theorem dX4_takeSeparated_142 : decode cX4_takeSeparated 142 = .ok (.iconst 0, 1) := by decide +kernel
theorem dX4_takeSeparated_143 : decode cX4_takeSeparated 143 = .ok (.ireturn, 1) := by decide +kernel
theorem dX4_takeSymbol_0 : decode cX4_takeSymbol 0 = .ok (.aload_n 0, 1) := by decide +kernel
theorem dX4_takeSymbol_1 : decode cX4_takeSymbol 1 = .ok (.getfield 149, 3) := by decide +kernel
theorem dX4_takeSymbol_4 : decode cX4_takeSymbol 4 = .ok (.ifCond .ne 13, 3) := by decide +kernel
theorem dX4_takeSymbol_7 : decode cX4_takeSymbol 7 = .ok (.aload_n 0, 1) := by decide +kernel
theorem dX4_takeSymbol_8 : decode cX4_takeSymbol 8 = .ok (.getfield 146, 3) := by decide +kernel
theorem dX4_takeSymbol_11 : decode cX4_takeSymbol 11 = .ok (.iconst 2, 1) := by decide +kernel
theorem dX4_takeSymbol_12 : decode cX4_takeSymbol 12 = .ok (.if_icmp .ne 5, 3) := by decide +kernel
theorem dX4_takeSymbol_15 : decode cX4_takeSymbol 15 = .ok (.iconst 3, 1) := by decide +kernel
theorem dX4_takeSymbol_16 : decode cX4_takeSymbol 16 = .ok (.ireturn, 1) := by decide +kernel
theorem dX4_takeSymbol_17 : decode cX4_takeSymbol 17 = .ok (.aload_n 0, 1) := by decide +kernel
theorem dX4_takeSymbol_18 : decode cX4_takeSymbol 18 = .ok (.getfield 146, 3) := by decide +kernel
theorem dX4_takeSymbol_21 : decode cX4_takeSymbol 21 = .ok (.bipush 60, 2) := by decide +kernel
theorem dX4_takeSymbol_23 : decode cX4_takeSymbol 23 = .ok (.if_icmp .ne 6, 3) := by decide +kernel
theorem dX4_takeSymbol_26 : decode cX4_takeSymbol 26 = .ok (.bipush 7, 2) := by decide +kernel
theorem dX4_takeSymbol_28 : decode cX4_takeSymbol 28 = .ok (.ireturn, 1) := by decide +kernel
theorem dX4_takeSymbol_29 : decode cX4_takeSymbol 29 = .ok (.aload_n 0, 1) := by decide +kernel
theorem dX4_takeSymbol_30 : decode cX4_takeSymbol 30 = .ok (.invokevirtual 110, 3) := by decide +kernel
theorem dX4_takeSymbol_33 : decode cX4_takeSymbol 33 = .ok (.istore_n 1, 1) := by decide +kernel
theorem dX4_takeSymbol_34 : decode cX4_takeSymbol 34 = .ok (.aload_n 0, 1) := by decide +kernel
theorem dX4_takeSymbol_35 : decode cX4_takeSymbol 35 = .ok (.iload_n 1, 1) := by decide +kernel
theorem dX4_takeSymbol_36 : decode cX4_takeSymbol 36 = .ok (.invokevirtual 174, 3) := by decide +kernel
theorem dX4_takeSymbol_39 : decode cX4_takeSymbol 39 = .ok (.ifCond .ne 6, 3) := by decide +kernel
theorem dX4_takeSymbol_42 : decode cX4_takeSymbol 42 = .ok (.bipush 6, 2) := by decide +kernel
theorem dX4_takeSymbol_44 : decode cX4_takeSymbol 44 = .ok (.ireturn, 1) := by decide +kernel
theorem dX4_takeSymbol_45 : decode cX4_takeSymbol 45 = .ok (.aload_n 0, 1) := by decide +kernel
theorem dX4_takeSymbol_46 : decode cX4_takeSymbol 46 = .ok (.getfield 22, 3) := by decide +kernel
theorem dX4_takeSymbol_49 : decode cX4_takeSymbol 49 = .ok (.getfield 177, 3) := by decide +kernel
theorem dX4_takeSymbol_52 : decode cX4_takeSymbol 52 = .ok (.iload_n 1, 1) := by decide +kernel
theorem dX4_takeSymbol_53 : decode cX4_takeSymbol 53 = .ok (.invokevirtual 181, 3) := by decide +kernel
theorem dX4_takeSymbol_56 : decode cX4_takeSymbol 56 = .ok (.aload_n 0, 1) := by decide +kernel
theorem dX4_takeSymbol_57 : decode cX4_takeSymbol 57 = .ok (.dup, 1) := by decide +kernel
theorem dX4_takeSymbol_58 : decode cX4_takeSymbol 58 = .ok (.getfield 146, 3) := by decide +kernel
theorem dX4_takeSymbol_61 : decode cX4_takeSymbol 61 = .ok (.iconst 1, 1) := by decide +kernel
theorem dX4_takeSymbol_62 : decode cX4_takeSymbol 62 = .ok (.iadd, 1) := by decide +kernel
theorem dX4_takeSymbol_63 : decode cX4_takeSymbol 63 = .ok (.putfield 146, 3) := by decide +kernel
theorem dX4_takeSymbol_66 : decode cX4_takeSymbol 66 = .ok (.iconst 0, 1) := by decide +kernel
theorem dX4_takeSymbol_67 : decode cX4_takeSymbol 67 = .ok (.ireturn, 1) := by decide +kernel
theorem dX4_mayStand_0 : decode cX4_mayStand 0 = .ok (.aload_n 0, 1) := by decide +kernel
theorem dX4_mayStand_1 : decode cX4_mayStand 1 = .ok (.getfield 146, 3) := by decide +kernel
theorem dX4_mayStand_4 : decode cX4_mayStand 4 = .ok (.ifCond .ne 12, 3) := by decide +kernel
theorem dX4_mayStand_7 : decode cX4_mayStand 7 = .ok (.aload_n 0, 1) := by decide +kernel
theorem dX4_mayStand_8 : decode cX4_mayStand 8 = .ok (.getfield 22, 3) := by decide +kernel
theorem dX4_mayStand_11 : decode cX4_mayStand 11 = .ok (.iload_n 1, 1) := by decide +kernel
theorem dX4_mayStand_12 : decode cX4_mayStand 12 = .ok (.invokevirtual 186, 3) := by decide +kernel
theorem dX4_mayStand_15 : decode cX4_mayStand 15 = .ok (.ireturn, 1) := by decide +kernel
theorem dX4_mayStand_16 : decode cX4_mayStand 16 = .ok (.aload_n 0, 1) := by decide +kernel
theorem dX4_mayStand_17 : decode cX4_mayStand 17 = .ok (.getfield 149, 3) := by decide +kernel
theorem dX4_mayStand_20 : decode cX4_mayStand 20 = .ok (.ifCond .ne 31, 3) := by decide +kernel
theorem dX4_mayStand_23 : decode cX4_mayStand 23 = .ok (.aload_n 0, 1) := by decide +kernel
theorem dX4_mayStand_24 : decode cX4_mayStand 24 = .ok (.getfield 12, 3) := by decide +kernel
theorem dX4_mayStand_27 : decode cX4_mayStand 27 = .ok (.iload_n 1, 1) := by decide +kernel
theorem dX4_mayStand_28 : decode cX4_mayStand 28 = .ok (.invokevirtual 159, 3) := by decide +kernel
theorem dX4_mayStand_31 : decode cX4_mayStand 31 = .ok (.ifCond .eq 18, 3) := by decide +kernel
theorem dX4_mayStand_34 : decode cX4_mayStand 34 = .ok (.aload_n 0, 1) := by decide +kernel
theorem dX4_mayStand_35 : decode cX4_mayStand 35 = .ok (.getfield 12, 3) := by decide +kernel
theorem dX4_mayStand_38 : decode cX4_mayStand 38 = .ok (.iload_n 1, 1) := by decide +kernel
theorem dX4_mayStand_39 : decode cX4_mayStand 39 = .ok (.invokevirtual 189, 3) := by decide +kernel
theorem dX4_mayStand_42 : decode cX4_mayStand 42 = .ok (.ifCond .ne 7, 3) := by decide +kernel
theorem dX4_mayStand_45 : decode cX4_mayStand 45 = .ok (.iconst 1, 1) := by decide +kernel
theorem dX4_mayStand_46 : decode cX4_mayStand 46 = .ok (.goto 4, 3) := by decide +kernel
theorem dX4_mayStand_49 : decode cX4_mayStand 49 = .ok (.iconst 0, 1) := by decide +kernel
theorem dX4_mayStand_50 : decode cX4_mayStand 50 = .ok (.ireturn, 1) := by decide +kernel
theorem dX4_mayStand_51 : decode cX4_mayStand 51 = .ok (.aload_n 0, 1) := by decide +kernel
theorem dX4_mayStand_52 : decode cX4_mayStand 52 = .ok (.getfield 22, 3) := by decide +kernel
theorem dX4_mayStand_55 : decode cX4_mayStand 55 = .ok (.iload_n 1, 1) := by decide +kernel
theorem dX4_mayStand_56 : decode cX4_mayStand 56 = .ok (.invokevirtual 186, 3) := by decide +kernel
theorem dX4_mayStand_59 : decode cX4_mayStand 59 = .ok (.ifCond .ne 14, 3) := by decide +kernel
theorem dX4_mayStand_62 : decode cX4_mayStand 62 = .ok (.aload_n 0, 1) := by decide +kernel
theorem dX4_mayStand_63 : decode cX4_mayStand 63 = .ok (.getfield 12, 3) := by decide +kernel
theorem dX4_mayStand_66 : decode cX4_mayStand 66 = .ok (.iload_n 1, 1) := by decide +kernel
theorem dX4_mayStand_67 : decode cX4_mayStand 67 = .ok (.invokevirtual 189, 3) := by decide +kernel
theorem dX4_mayStand_70 : decode cX4_mayStand 70 = .ok (.ifCond .eq 7, 3) := by decide +kernel
theorem dX4_mayStand_73 : decode cX4_mayStand 73 = .ok (.iconst 1, 1) := by decide +kernel
theorem dX4_mayStand_74 : decode cX4_mayStand 74 = .ok (.goto 4, 3) := by decide +kernel
theorem dX4_mayStand_77 : decode cX4_mayStand 77 = .ok (.iconst 0, 1) := by decide +kernel
theorem dX4_mayStand_78 : decode cX4_mayStand 78 = .ok (.ireturn, 1) := by decide +kernel
theorem dX4_takeEnd_0 : decode cX4_takeEnd 0 = .ok (.aload_n 0, 1) := by decide +kernel
theorem dX4_takeEnd_1 : decode cX4_takeEnd 1 = .ok (.getfield 149, 3) := by decide +kernel
theorem dX4_takeEnd_4 : decode cX4_takeEnd 4 = .ok (.ifCond .ne 7, 3) := by decide +kernel
theorem dX4_takeEnd_7 : decode cX4_takeEnd 7 = .ok (.iconst 2, 1) := by decide +kernel
theorem dX4_takeEnd_8 : decode cX4_takeEnd 8 = .ok (.goto 4, 3) := by decide +kernel
theorem dX4_takeEnd_11 : decode cX4_takeEnd 11 = .ok (.iconst 1, 1) := by decide +kernel
theorem dX4_takeEnd_12 : decode cX4_takeEnd 12 = .ok (.istore_n 2, 1) := by decide +kernel
theorem dX4_takeEnd_13 : decode cX4_takeEnd 13 = .ok (.aload_n 0, 1) := by decide +kernel
theorem dX4_takeEnd_14 : decode cX4_takeEnd 14 = .ok (.getfield 149, 3) := by decide +kernel
theorem dX4_takeEnd_17 : decode cX4_takeEnd 17 = .ok (.iconst 3, 1) := by decide +kernel
theorem dX4_takeEnd_18 : decode cX4_takeEnd 18 = .ok (.if_icmp .ne 8, 3) := by decide +kernel
theorem dX4_takeEnd_21 : decode cX4_takeEnd 21 = .ok (.bipush 61, 2) := by decide +kernel
theorem dX4_takeEnd_23 : decode cX4_takeEnd 23 = .ok (.goto 5, 3) := by decide +kernel
theorem dX4_takeEnd_26 : decode cX4_takeEnd 26 = .ok (.bipush 46, 2) := by decide +kernel
theorem dX4_takeEnd_28 : decode cX4_takeEnd 28 = .ok (.istore_n 3, 1) := by decide +kernel
theorem dX4_takeEnd_29 : decode cX4_takeEnd 29 = .ok (.iload_n 1, 1) := by decide +kernel
theorem dX4_takeEnd_30 : decode cX4_takeEnd 30 = .ok (.iload_n 3, 1) := by decide +kernel
theorem dX4_takeEnd_31 : decode cX4_takeEnd 31 = .ok (.if_icmp .ne 11, 3) := by decide +kernel
theorem dX4_takeEnd_34 : decode cX4_takeEnd 34 = .ok (.aload_n 0, 1) := by decide +kernel
theorem dX4_takeEnd_35 : decode cX4_takeEnd 35 = .ok (.getfield 146, 3) := by decide +kernel
theorem dX4_takeEnd_38 : decode cX4_takeEnd 38 = .ok (.iload_n 2, 1) := by decide +kernel
theorem dX4_takeEnd_39 : decode cX4_takeEnd 39 = .ok (.if_icmp .ge 5, 3) := by decide +kernel
theorem dX4_takeEnd_42 : decode cX4_takeEnd 42 = .ok (.iconst 3, 1) := by decide +kernel
theorem dX4_takeEnd_43 : decode cX4_takeEnd 43 = .ok (.ireturn, 1) := by decide +kernel
theorem dX4_takeEnd_44 : decode cX4_takeEnd 44 = .ok (.aload_n 0, 1) := by decide +kernel
theorem dX4_takeEnd_45 : decode cX4_takeEnd 45 = .ok (.aload_n 0, 1) := by decide +kernel
theorem dX4_takeEnd_46 : decode cX4_takeEnd 46 = .ok (.getfield 149, 3) := by decide +kernel
theorem dX4_takeEnd_49 : decode cX4_takeEnd 49 = .ok (.iconst 3, 1) := by decide +kernel
theorem dX4_takeEnd_50 : decode cX4_takeEnd 50 = .ok (.if_icmp .ne 7, 3) := by decide +kernel
theorem dX4_takeEnd_53 : decode cX4_takeEnd 53 = .ok (.iconst 5, 1) := by decide +kernel
theorem dX4_takeEnd_54 : decode cX4_takeEnd 54 = .ok (.goto 5, 3) := by decide +kernel
theorem dX4_takeEnd_57 : decode cX4_takeEnd 57 = .ok (.bipush 6, 2) := by decide +kernel
theorem dX4_takeEnd_59 : decode cX4_takeEnd 59 = .ok (.invokevirtual 136, 3) := by decide +kernel
theorem dX4_takeEnd_62 : decode cX4_takeEnd 62 = .ok (.ireturn, 1) := by decide +kernel
theorem dX4_takeProofToken_0 : decode cX4_takeProofToken 0 = .ok (.iload_n 1, 1) := by decide +kernel
theorem dX4_takeProofToken_1 : decode cX4_takeProofToken 1 = .ok (.bipush 46, 2) := by decide +kernel
theorem dX4_takeProofToken_3 : decode cX4_takeProofToken 3 = .ok (.if_icmp .ne 10, 3) := by decide +kernel
theorem dX4_takeProofToken_6 : decode cX4_takeProofToken 6 = .ok (.aload_n 0, 1) := by decide +kernel
theorem dX4_takeProofToken_7 : decode cX4_takeProofToken 7 = .ok (.bipush 6, 2) := by decide +kernel
theorem dX4_takeProofToken_9 : decode cX4_takeProofToken 9 = .ok (.invokevirtual 136, 3) := by decide +kernel
theorem dX4_takeProofToken_12 : decode cX4_takeProofToken 12 = .ok (.ireturn, 1) := by decide +kernel
theorem dX4_takeProofToken_13 : decode cX4_takeProofToken 13 = .ok (.iload_n 1, 1) := by decide +kernel
theorem dX4_takeProofToken_14 : decode cX4_takeProofToken 14 = .ok (.ifCond .eq 5, 3) := by decide +kernel
theorem dX4_takeProofToken_17 : decode cX4_takeProofToken 17 = .ok (.iconst 3, 1) := by decide +kernel
theorem dX4_takeProofToken_18 : decode cX4_takeProofToken 18 = .ok (.ireturn, 1) := by decide +kernel
theorem dX4_takeProofToken_19 : decode cX4_takeProofToken 19 = .ok (.aload_n 0, 1) := by decide +kernel
theorem dX4_takeProofToken_20 : decode cX4_takeProofToken 20 = .ok (.getfield 146, 3) := by decide +kernel
theorem dX4_takeProofToken_23 : decode cX4_takeProofToken 23 = .ok (.sipush 400, 3) := by decide +kernel
theorem dX4_takeProofToken_26 : decode cX4_takeProofToken 26 = .ok (.if_icmp .ne 6, 3) := by decide +kernel
theorem dX4_takeProofToken_29 : decode cX4_takeProofToken 29 = .ok (.bipush 7, 2) := by decide +kernel
theorem dX4_takeProofToken_31 : decode cX4_takeProofToken 31 = .ok (.ireturn, 1) := by decide +kernel
theorem dX4_takeProofToken_32 : decode cX4_takeProofToken 32 = .ok (.aload_n 0, 1) := by decide +kernel
theorem dX4_takeProofToken_33 : decode cX4_takeProofToken 33 = .ok (.invokevirtual 110, 3) := by decide +kernel
theorem dX4_takeProofToken_36 : decode cX4_takeProofToken 36 = .ok (.istore_n 2, 1) := by decide +kernel
theorem dX4_takeProofToken_37 : decode cX4_takeProofToken 37 = .ok (.aload_n 0, 1) := by decide +kernel
theorem dX4_takeProofToken_38 : decode cX4_takeProofToken 38 = .ok (.getfield 22, 3) := by decide +kernel
theorem dX4_takeProofToken_41 : decode cX4_takeProofToken 41 = .ok (.getfield 192, 3) := by decide +kernel
theorem dX4_takeProofToken_44 : decode cX4_takeProofToken 44 = .ok (.aload_n 0, 1) := by decide +kernel
theorem dX4_takeProofToken_45 : decode cX4_takeProofToken 45 = .ok (.getfield 37, 3) := by decide +kernel
theorem dX4_takeProofToken_48 : decode cX4_takeProofToken 48 = .ok (.getfield 92, 3) := by decide +kernel
theorem dX4_takeProofToken_51 : decode cX4_takeProofToken 51 = .ok (.invokevirtual 181, 3) := by decide +kernel
theorem dX4_takeProofToken_54 : decode cX4_takeProofToken 54 = .ok (.aload_n 0, 1) := by decide +kernel
theorem dX4_takeProofToken_55 : decode cX4_takeProofToken 55 = .ok (.getfield 22, 3) := by decide +kernel
theorem dX4_takeProofToken_58 : decode cX4_takeProofToken 58 = .ok (.getfield 195, 3) := by decide +kernel
theorem dX4_takeProofToken_61 : decode cX4_takeProofToken 61 = .ok (.iload_n 2, 1) := by decide +kernel
theorem dX4_takeProofToken_62 : decode cX4_takeProofToken 62 = .ok (.sipush 300, 3) := by decide +kernel
theorem dX4_takeProofToken_65 : decode cX4_takeProofToken 65 = .ok (.if_icmp .lt 11, 3) := by decide +kernel
theorem dX4_takeProofToken_68 : decode cX4_takeProofToken 68 = .ok (.iload_n 2, 1) := by decide +kernel
theorem dX4_takeProofToken_69 : decode cX4_takeProofToken 69 = .ok (.sipush 300, 3) := by decide +kernel
theorem dX4_takeProofToken_72 : decode cX4_takeProofToken 72 = .ok (.isub, 1) := by decide +kernel
theorem dX4_takeProofToken_73 : decode cX4_takeProofToken 73 = .ok (.goto 4, 3) := by decide +kernel
theorem dX4_takeProofToken_76 : decode cX4_takeProofToken 76 = .ok (.iconst (-1), 1) := by decide +kernel
theorem dX4_takeProofToken_77 : decode cX4_takeProofToken 77 = .ok (.invokevirtual 181, 3) := by decide +kernel
theorem dX4_takeProofToken_80 : decode cX4_takeProofToken 80 = .ok (.aload_n 0, 1) := by decide +kernel
theorem dX4_takeProofToken_81 : decode cX4_takeProofToken 81 = .ok (.dup, 1) := by decide +kernel
theorem dX4_takeProofToken_82 : decode cX4_takeProofToken 82 = .ok (.getfield 146, 3) := by decide +kernel
theorem dX4_takeProofToken_85 : decode cX4_takeProofToken 85 = .ok (.iconst 1, 1) := by decide +kernel
theorem dX4_takeProofToken_86 : decode cX4_takeProofToken 86 = .ok (.iadd, 1) := by decide +kernel
theorem dX4_takeProofToken_87 : decode cX4_takeProofToken 87 = .ok (.putfield 146, 3) := by decide +kernel
theorem dX4_takeProofToken_90 : decode cX4_takeProofToken 90 = .ok (.iconst 0, 1) := by decide +kernel
theorem dX4_takeProofToken_91 : decode cX4_takeProofToken 91 = .ok (.ireturn, 1) := by decide +kernel
theorem dX4_endStatement_0 : decode cX4_endStatement 0 = .ok (.aload_n 0, 1) := by decide +kernel
theorem dX4_endStatement_1 : decode cX4_endStatement 1 = .ok (.getfield 22, 3) := by decide +kernel
theorem dX4_endStatement_4 : decode cX4_endStatement 4 = .ok (.getfield 104, 3) := by decide +kernel
theorem dX4_endStatement_7 : decode cX4_endStatement 7 = .ok (.istore_n 1, 1) := by decide +kernel
theorem dX4_endStatement_8 : decode cX4_endStatement 8 = .ok (.aload_n 0, 1) := by decide +kernel
theorem dX4_endStatement_9 : decode cX4_endStatement 9 = .ok (.getfield 22, 3) := by decide +kernel
theorem dX4_endStatement_12 : decode cX4_endStatement 12 = .ok (.getfield 198, 3) := by decide +kernel
theorem dX4_endStatement_15 : decode cX4_endStatement 15 = .ok (.iload_n 1, 1) := by decide +kernel
theorem dX4_endStatement_16 : decode cX4_endStatement 16 = .ok (.aload_n 0, 1) := by decide +kernel
theorem dX4_endStatement_17 : decode cX4_endStatement 17 = .ok (.getfield 149, 3) := by decide +kernel
theorem dX4_endStatement_20 : decode cX4_endStatement 20 = .ok (.iastore, 1) := by decide +kernel
theorem dX4_endStatement_21 : decode cX4_endStatement 21 = .ok (.aload_n 0, 1) := by decide +kernel
theorem dX4_endStatement_22 : decode cX4_endStatement 22 = .ok (.getfield 22, 3) := by decide +kernel
theorem dX4_endStatement_25 : decode cX4_endStatement 25 = .ok (.getfield 201, 3) := by decide +kernel
theorem dX4_endStatement_28 : decode cX4_endStatement 28 = .ok (.iload_n 1, 1) := by decide +kernel
theorem dX4_endStatement_29 : decode cX4_endStatement 29 = .ok (.aload_n 0, 1) := by decide +kernel
theorem dX4_endStatement_30 : decode cX4_endStatement 30 = .ok (.getfield 12, 3) := by decide +kernel
theorem dX4_endStatement_33 : decode cX4_endStatement 33 = .ok (.getfield 101, 3) := by decide +kernel
theorem dX4_endStatement_36 : decode cX4_endStatement 36 = .ok (.iastore, 1) := by decide +kernel
theorem dX4_endStatement_37 : decode cX4_endStatement 37 = .ok (.aload_n 0, 1) := by decide +kernel
theorem dX4_endStatement_38 : decode cX4_endStatement 38 = .ok (.getfield 22, 3) := by decide +kernel
theorem dX4_endStatement_41 : decode cX4_endStatement 41 = .ok (.getfield 122, 3) := by decide +kernel
theorem dX4_endStatement_44 : decode cX4_endStatement 44 = .ok (.sipush 300, 3) := by decide +kernel
theorem dX4_endStatement_47 : decode cX4_endStatement 47 = .ok (.iload_n 1, 1) := by decide +kernel
theorem dX4_endStatement_48 : decode cX4_endStatement 48 = .ok (.iadd, 1) := by decide +kernel
theorem dX4_endStatement_49 : decode cX4_endStatement 49 = .ok (.aload_n 0, 1) := by decide +kernel
theorem dX4_endStatement_50 : decode cX4_endStatement 50 = .ok (.getfield 113, 3) := by decide +kernel
theorem dX4_endStatement_53 : decode cX4_endStatement 53 = .ok (.aload_n 0, 1) := by decide +kernel
theorem dX4_endStatement_54 : decode cX4_endStatement 54 = .ok (.getfield 119, 3) := by decide +kernel
theorem dX4_endStatement_57 : decode cX4_endStatement 57 = .ok (.invokevirtual 204, 3) := by decide +kernel
theorem dX4_endStatement_60 : decode cX4_endStatement 60 = .ok (.aload_n 0, 1) := by decide +kernel
theorem dX4_endStatement_61 : decode cX4_endStatement 61 = .ok (.getfield 22, 3) := by decide +kernel
theorem dX4_endStatement_64 : decode cX4_endStatement 64 = .ok (.getfield 177, 3) := by decide +kernel
theorem dX4_endStatement_67 : decode cX4_endStatement 67 = .ok (.invokevirtual 207, 3) := by decide +kernel
theorem dX4_endStatement_70 : decode cX4_endStatement 70 = .ok (.aload_n 0, 1) := by decide +kernel
theorem dX4_endStatement_71 : decode cX4_endStatement 71 = .ok (.getfield 22, 3) := by decide +kernel
theorem dX4_endStatement_74 : decode cX4_endStatement 74 = .ok (.getfield 192, 3) := by decide +kernel
theorem dX4_endStatement_77 : decode cX4_endStatement 77 = .ok (.invokevirtual 207, 3) := by decide +kernel
theorem dX4_endStatement_80 : decode cX4_endStatement 80 = .ok (.aload_n 0, 1) := by decide +kernel
theorem dX4_endStatement_81 : decode cX4_endStatement 81 = .ok (.getfield 22, 3) := by decide +kernel
theorem dX4_endStatement_84 : decode cX4_endStatement 84 = .ok (.getfield 195, 3) := by decide +kernel
theorem dX4_endStatement_87 : decode cX4_endStatement 87 = .ok (.invokevirtual 207, 3) := by decide +kernel
theorem dX4_endStatement_90 : decode cX4_endStatement 90 = .ok (.aload_n 0, 1) := by decide +kernel
theorem dX4_endStatement_91 : decode cX4_endStatement 91 = .ok (.getfield 149, 3) := by decide +kernel
theorem dX4_endStatement_94 : decode cX4_endStatement 94 = .ok (.iconst 2, 1) := by decide +kernel
theorem dX4_endStatement_95 : decode cX4_endStatement 95 = .ok (.if_icmp .lt 18, 3) := by decide +kernel
theorem dX4_endStatement_98 : decode cX4_endStatement 98 = .ok (.aload_n 0, 1) := by decide +kernel
theorem dX4_endStatement_99 : decode cX4_endStatement 99 = .ok (.getfield 12, 3) := by decide +kernel
theorem dX4_endStatement_102 : decode cX4_endStatement 102 = .ok (.aload_n 0, 1) := by decide +kernel
theorem dX4_endStatement_103 : decode cX4_endStatement 103 = .ok (.getfield 22, 3) := by decide +kernel
theorem dX4_endStatement_106 : decode cX4_endStatement 106 = .ok (.iload_n 1, 1) := by decide +kernel
theorem dX4_endStatement_107 : decode cX4_endStatement 107 = .ok (.invokevirtual 210, 3) := by decide +kernel
theorem dX4_endStatement_110 : decode cX4_endStatement 110 = .ok (.goto 15, 3) := by decide +kernel
theorem dX4_endStatement_113 : decode cX4_endStatement 113 = .ok (.aload_n 0, 1) := by decide +kernel
theorem dX4_endStatement_114 : decode cX4_endStatement 114 = .ok (.getfield 12, 3) := by decide +kernel
theorem dX4_endStatement_117 : decode cX4_endStatement 117 = .ok (.aload_n 0, 1) := by decide +kernel
theorem dX4_endStatement_118 : decode cX4_endStatement 118 = .ok (.getfield 22, 3) := by decide +kernel
theorem dX4_endStatement_121 : decode cX4_endStatement 121 = .ok (.iload_n 1, 1) := by decide +kernel
theorem dX4_endStatement_122 : decode cX4_endStatement 122 = .ok (.invokevirtual 214, 3) := by decide +kernel
theorem dX4_endStatement_125 : decode cX4_endStatement 125 = .ok (.aload_n 0, 1) := by decide +kernel
theorem dX4_endStatement_126 : decode cX4_endStatement 126 = .ok (.getfield 22, 3) := by decide +kernel
theorem dX4_endStatement_129 : decode cX4_endStatement 129 = .ok (.getfield 217, 3) := by decide +kernel
theorem dX4_endStatement_132 : decode cX4_endStatement 132 = .ok (.invokevirtual 207, 3) := by decide +kernel
theorem dX4_endStatement_135 : decode cX4_endStatement 135 = .ok (.aload_n 0, 1) := by decide +kernel
theorem dX4_endStatement_136 : decode cX4_endStatement 136 = .ok (.getfield 22, 3) := by decide +kernel
theorem dX4_endStatement_139 : decode cX4_endStatement 139 = .ok (.getfield 220, 3) := by decide +kernel
theorem dX4_endStatement_142 : decode cX4_endStatement 142 = .ok (.invokevirtual 207, 3) := by decide +kernel
theorem dX4_endStatement_145 : decode cX4_endStatement 145 = .ok (.aload_n 0, 1) := by decide +kernel
theorem dX4_endStatement_146 : decode cX4_endStatement 146 = .ok (.getfield 22, 3) := by decide +kernel
theorem dX4_endStatement_149 : decode cX4_endStatement 149 = .ok (.getfield 223, 3) := by decide +kernel
theorem dX4_endStatement_152 : decode cX4_endStatement 152 = .ok (.invokevirtual 207, 3) := by decide +kernel
theorem dX4_endStatement_155 : decode cX4_endStatement 155 = .ok (.aload_n 0, 1) := by decide +kernel
theorem dX4_endStatement_156 : decode cX4_endStatement 156 = .ok (.getfield 149, 3) := by decide +kernel
theorem dX4_endStatement_159 : decode cX4_endStatement 159 = .ok (.iconst 3, 1) := by decide +kernel
theorem dX4_endStatement_160 : decode cX4_endStatement 160 = .ok (.if_icmp .ne 19, 3) := by decide +kernel
theorem dX4_endStatement_163 : decode cX4_endStatement 163 = .ok (.aload_n 0, 1) := by decide +kernel
theorem dX4_endStatement_164 : decode cX4_endStatement 164 = .ok (.getfield 22, 3) := by decide +kernel
theorem dX4_endStatement_167 : decode cX4_endStatement 167 = .ok (.iload_n 1, 1) := by decide +kernel
theorem dX4_endStatement_168 : decode cX4_endStatement 168 = .ok (.invokevirtual 226, 3) := by decide +kernel
theorem dX4_endStatement_171 : decode cX4_endStatement 171 = .ok (.aload_n 0, 1) := by decide +kernel
theorem dX4_endStatement_172 : decode cX4_endStatement 172 = .ok (.getfield 22, 3) := by decide +kernel
theorem dX4_endStatement_175 : decode cX4_endStatement 175 = .ok (.iload_n 1, 1) := by decide +kernel
theorem dX4_endStatement_176 : decode cX4_endStatement 176 = .ok (.invokevirtual 229, 3) := by decide +kernel
theorem dX4_endStatement_179 : decode cX4_endStatement 179 = .ok (.aload_n 0, 1) := by decide +kernel
theorem dX4_endStatement_180 : decode cX4_endStatement 180 = .ok (.getfield 22, 3) := by decide +kernel
theorem dX4_endStatement_183 : decode cX4_endStatement 183 = .ok (.dup, 1) := by decide +kernel
theorem dX4_endStatement_184 : decode cX4_endStatement 184 = .ok (.getfield 104, 3) := by decide +kernel
theorem dX4_endStatement_187 : decode cX4_endStatement 187 = .ok (.iconst 1, 1) := by decide +kernel
theorem dX4_endStatement_188 : decode cX4_endStatement 188 = .ok (.iadd, 1) := by decide +kernel
theorem dX4_endStatement_189 : decode cX4_endStatement 189 = .ok (.putfield 104, 3) := by decide +kernel
theorem dX4_endStatement_192 : decode cX4_endStatement 192 = .ok (.aload_n 0, 1) := by decide +kernel
theorem dX4_endStatement_193 : decode cX4_endStatement 193 = .ok (.iconst 0, 1) := by decide +kernel
theorem dX4_endStatement_194 : decode cX4_endStatement 194 = .ok (.putfield 53, 3) := by decide +kernel
theorem dX4_endStatement_197 : decode cX4_endStatement 197 = .ok (.return_, 1) := by decide +kernel
theorem dX5_init_0 : decode cX5_init 0 = .ok (.aload_n 0, 1) := by decide +kernel
theorem dX5_init_1 : decode cX5_init 1 = .ok (.invokespecial 3, 3) := by decide +kernel
theorem dX5_init_4 : decode cX5_init 4 = .ok (.aload_n 0, 1) := by decide +kernel
theorem dX5_init_5 : decode cX5_init 5 = .ok (.bipush 64, 2) := by decide +kernel
theorem dX5_init_7 : decode cX5_init 7 = .ok (.newarray .int, 2) := by decide +kernel
theorem dX5_init_9 : decode cX5_init 9 = .ok (.putfield 9, 3) := by decide +kernel
theorem dX5_init_12 : decode cX5_init 12 = .ok (.aload_n 0, 1) := by decide +kernel
theorem dX5_init_13 : decode cX5_init 13 = .ok (.iload_n 1, 1) := by decide +kernel
theorem dX5_init_14 : decode cX5_init 14 = .ok (.iconst 1, 1) := by decide +kernel
theorem dX5_init_15 : decode cX5_init 15 = .ok (.iadd, 1) := by decide +kernel
theorem dX5_init_16 : decode cX5_init 16 = .ok (.newarray .int, 2) := by decide +kernel
theorem dX5_init_18 : decode cX5_init 18 = .ok (.putfield 15, 3) := by decide +kernel
theorem dX5_init_21 : decode cX5_init 21 = .ok (.return_, 1) := by decide +kernel
theorem dX5_clear_0 : decode cX5_clear 0 = .ok (.aload_n 0, 1) := by decide +kernel
theorem dX5_clear_1 : decode cX5_clear 1 = .ok (.iconst 0, 1) := by decide +kernel
theorem dX5_clear_2 : decode cX5_clear 2 = .ok (.putfield 18, 3) := by decide +kernel
theorem dX5_clear_5 : decode cX5_clear 5 = .ok (.aload_n 0, 1) := by decide +kernel
theorem dX5_clear_6 : decode cX5_clear 6 = .ok (.iconst 0, 1) := by decide +kernel
theorem dX5_clear_7 : decode cX5_clear 7 = .ok (.putfield 22, 3) := by decide +kernel
theorem dX5_clear_10 : decode cX5_clear 10 = .ok (.return_, 1) := by decide +kernel
theorem dX5_add_0 : decode cX5_add 0 = .ok (.aload_n 0, 1) := by decide +kernel
theorem dX5_add_1 : decode cX5_add 1 = .ok (.getfield 22, 3) := by decide +kernel
theorem dX5_add_4 : decode cX5_add 4 = .ok (.aload_n 0, 1) := by decide +kernel
theorem dX5_add_5 : decode cX5_add 5 = .ok (.getfield 9, 3) := by decide +kernel
theorem dX5_add_8 : decode cX5_add 8 = .ok (.arraylength, 1) := by decide +kernel
theorem dX5_add_9 : decode cX5_add 9 = .ok (.if_icmp .ne 20, 3) := by decide +kernel
theorem dX5_add_12 : decode cX5_add 12 = .ok (.aload_n 0, 1) := by decide +kernel
theorem dX5_add_13 : decode cX5_add 13 = .ok (.aload_n 0, 1) := by decide +kernel
theorem dX5_add_14 : decode cX5_add 14 = .ok (.getfield 9, 3) := by decide +kernel
theorem dX5_add_17 : decode cX5_add 17 = .ok (.iconst 2, 1) := by decide +kernel
theorem dX5_add_18 : decode cX5_add 18 = .ok (.aload_n 0, 1) := by decide +kernel
theorem dX5_add_19 : decode cX5_add 19 = .ok (.getfield 22, 3) := by decide +kernel
theorem dX5_add_22 : decode cX5_add 22 = .ok (.imul, 1) := by decide +kernel
theorem dX5_add_23 : decode cX5_add 23 = .ok (.invokestatic 25, 3) := by decide +kernel
theorem dX5_add_26 : decode cX5_add 26 = .ok (.putfield 9, 3) := by decide +kernel
theorem dX5_add_29 : decode cX5_add 29 = .ok (.aload_n 0, 1) := by decide +kernel
theorem dX5_add_30 : decode cX5_add 30 = .ok (.getfield 9, 3) := by decide +kernel
theorem dX5_add_33 : decode cX5_add 33 = .ok (.aload_n 0, 1) := by decide +kernel
theorem dX5_add_34 : decode cX5_add 34 = .ok (.getfield 22, 3) := by decide +kernel
theorem dX5_add_37 : decode cX5_add 37 = .ok (.iload_n 1, 1) := by decide +kernel
theorem dX5_add_38 : decode cX5_add 38 = .ok (.iastore, 1) := by decide +kernel
theorem dX5_add_39 : decode cX5_add 39 = .ok (.aload_n 0, 1) := by decide +kernel
theorem dX5_add_40 : decode cX5_add 40 = .ok (.dup, 1) := by decide +kernel
theorem dX5_add_41 : decode cX5_add 41 = .ok (.getfield 22, 3) := by decide +kernel
theorem dX5_add_44 : decode cX5_add 44 = .ok (.iconst 1, 1) := by decide +kernel
theorem dX5_add_45 : decode cX5_add 45 = .ok (.iadd, 1) := by decide +kernel
theorem dX5_add_46 : decode cX5_add 46 = .ok (.putfield 22, 3) := by decide +kernel
theorem dX5_add_49 : decode cX5_add 49 = .ok (.return_, 1) := by decide +kernel
theorem dX5_endRow_0 : decode cX5_endRow 0 = .ok (.aload_n 0, 1) := by decide +kernel
theorem dX5_endRow_1 : decode cX5_endRow 1 = .ok (.getfield 18, 3) := by decide +kernel
theorem dX5_endRow_4 : decode cX5_endRow 4 = .ok (.iconst 1, 1) := by decide +kernel
theorem dX5_endRow_5 : decode cX5_endRow 5 = .ok (.iadd, 1) := by decide +kernel
theorem dX5_endRow_6 : decode cX5_endRow 6 = .ok (.aload_n 0, 1) := by decide +kernel
theorem dX5_endRow_7 : decode cX5_endRow 7 = .ok (.getfield 15, 3) := by decide +kernel
theorem dX5_endRow_10 : decode cX5_endRow 10 = .ok (.arraylength, 1) := by decide +kernel
theorem dX5_endRow_11 : decode cX5_endRow 11 = .ok (.if_icmp .ge 26, 3) := by decide +kernel
theorem dX5_endRow_14 : decode cX5_endRow 14 = .ok (.aload_n 0, 1) := by decide +kernel
theorem dX5_endRow_15 : decode cX5_endRow 15 = .ok (.dup, 1) := by decide +kernel
theorem dX5_endRow_16 : decode cX5_endRow 16 = .ok (.getfield 18, 3) := by decide +kernel
theorem dX5_endRow_19 : decode cX5_endRow 19 = .ok (.iconst 1, 1) := by decide +kernel
theorem dX5_endRow_20 : decode cX5_endRow 20 = .ok (.iadd, 1) := by decide +kernel
theorem dX5_endRow_21 : decode cX5_endRow 21 = .ok (.putfield 18, 3) := by decide +kernel
theorem dX5_endRow_24 : decode cX5_endRow 24 = .ok (.aload_n 0, 1) := by decide +kernel
theorem dX5_endRow_25 : decode cX5_endRow 25 = .ok (.getfield 15, 3) := by decide +kernel
theorem dX5_endRow_28 : decode cX5_endRow 28 = .ok (.aload_n 0, 1) := by decide +kernel
theorem dX5_endRow_29 : decode cX5_endRow 29 = .ok (.getfield 18, 3) := by decide +kernel
theorem dX5_endRow_32 : decode cX5_endRow 32 = .ok (.aload_n 0, 1) := by decide +kernel
theorem dX5_endRow_33 : decode cX5_endRow 33 = .ok (.getfield 22, 3) := by decide +kernel
theorem dX5_endRow_36 : decode cX5_endRow 36 = .ok (.iastore, 1) := by decide +kernel
theorem dX5_endRow_37 : decode cX5_endRow 37 = .ok (.return_, 1) := by decide +kernel
theorem dX5_size_0 : decode cX5_size 0 = .ok (.iload_n 1, 1) := by decide +kernel
theorem dX5_size_1 : decode cX5_size 1 = .ok (.ifCond .lt 29, 3) := by decide +kernel
theorem dX5_size_4 : decode cX5_size 4 = .ok (.iload_n 1, 1) := by decide +kernel
theorem dX5_size_5 : decode cX5_size 5 = .ok (.aload_n 0, 1) := by decide +kernel
theorem dX5_size_6 : decode cX5_size 6 = .ok (.getfield 18, 3) := by decide +kernel
theorem dX5_size_9 : decode cX5_size 9 = .ok (.if_icmp .ge 21, 3) := by decide +kernel
theorem dX5_size_12 : decode cX5_size 12 = .ok (.aload_n 0, 1) := by decide +kernel
theorem dX5_size_13 : decode cX5_size 13 = .ok (.getfield 15, 3) := by decide +kernel
theorem dX5_size_16 : decode cX5_size 16 = .ok (.iload_n 1, 1) := by decide +kernel
theorem dX5_size_17 : decode cX5_size 17 = .ok (.iconst 1, 1) := by decide +kernel
theorem dX5_size_18 : decode cX5_size 18 = .ok (.iadd, 1) := by decide +kernel
theorem dX5_size_19 : decode cX5_size 19 = .ok (.iaload, 1) := by decide +kernel
theorem dX5_size_20 : decode cX5_size 20 = .ok (.aload_n 0, 1) := by decide +kernel
theorem dX5_size_21 : decode cX5_size 21 = .ok (.getfield 15, 3) := by decide +kernel
theorem dX5_size_24 : decode cX5_size 24 = .ok (.iload_n 1, 1) := by decide +kernel
theorem dX5_size_25 : decode cX5_size 25 = .ok (.iaload, 1) := by decide +kernel
theorem dX5_size_26 : decode cX5_size 26 = .ok (.isub, 1) := by decide +kernel
theorem dX5_size_27 : decode cX5_size 27 = .ok (.goto 4, 3) := by decide +kernel
theorem dX5_size_30 : decode cX5_size 30 = .ok (.iconst 0, 1) := by decide +kernel
theorem dX5_size_31 : decode cX5_size 31 = .ok (.ireturn, 1) := by decide +kernel
theorem dX5_get_0 : decode cX5_get 0 = .ok (.iload_n 1, 1) := by decide +kernel
theorem dX5_get_1 : decode cX5_get 1 = .ok (.ifCond .lt 34, 3) := by decide +kernel
theorem dX5_get_4 : decode cX5_get 4 = .ok (.iload_n 1, 1) := by decide +kernel
theorem dX5_get_5 : decode cX5_get 5 = .ok (.aload_n 0, 1) := by decide +kernel
theorem dX5_get_6 : decode cX5_get 6 = .ok (.getfield 18, 3) := by decide +kernel
theorem dX5_get_9 : decode cX5_get 9 = .ok (.if_icmp .ge 26, 3) := by decide +kernel
theorem dX5_get_12 : decode cX5_get 12 = .ok (.iload_n 2, 1) := by decide +kernel
theorem dX5_get_13 : decode cX5_get 13 = .ok (.ifCond .lt 22, 3) := by decide +kernel
theorem dX5_get_16 : decode cX5_get 16 = .ok (.iload_n 2, 1) := by decide +kernel
theorem dX5_get_17 : decode cX5_get 17 = .ok (.aload_n 0, 1) := by decide +kernel
theorem dX5_get_18 : decode cX5_get 18 = .ok (.getfield 15, 3) := by decide +kernel
theorem dX5_get_21 : decode cX5_get 21 = .ok (.iload_n 1, 1) := by decide +kernel
theorem dX5_get_22 : decode cX5_get 22 = .ok (.iconst 1, 1) := by decide +kernel
theorem dX5_get_23 : decode cX5_get 23 = .ok (.iadd, 1) := by decide +kernel
theorem dX5_get_24 : decode cX5_get 24 = .ok (.iaload, 1) := by decide +kernel
theorem dX5_get_25 : decode cX5_get 25 = .ok (.aload_n 0, 1) := by decide +kernel
theorem dX5_get_26 : decode cX5_get 26 = .ok (.getfield 15, 3) := by decide +kernel
theorem dX5_get_29 : decode cX5_get 29 = .ok (.iload_n 1, 1) := by decide +kernel
theorem dX5_get_30 : decode cX5_get 30 = .ok (.iaload, 1) := by decide +kernel
theorem dX5_get_31 : decode cX5_get 31 = .ok (.isub, 1) := by decide +kernel
theorem dX5_get_32 : decode cX5_get 32 = .ok (.if_icmp .lt 5, 3) := by decide +kernel
theorem dX5_get_35 : decode cX5_get 35 = .ok (.iconst (-1), 1) := by decide +kernel
theorem dX5_get_36 : decode cX5_get 36 = .ok (.ireturn, 1) := by decide +kernel
theorem dX5_get_37 : decode cX5_get 37 = .ok (.aload_n 0, 1) := by decide +kernel
theorem dX5_get_38 : decode cX5_get 38 = .ok (.getfield 9, 3) := by decide +kernel
theorem dX5_get_41 : decode cX5_get 41 = .ok (.aload_n 0, 1) := by decide +kernel
theorem dX5_get_42 : decode cX5_get 42 = .ok (.getfield 15, 3) := by decide +kernel
theorem dX5_get_45 : decode cX5_get 45 = .ok (.iload_n 1, 1) := by decide +kernel
theorem dX5_get_46 : decode cX5_get 46 = .ok (.iaload, 1) := by decide +kernel
theorem dX5_get_47 : decode cX5_get 47 = .ok (.iload_n 2, 1) := by decide +kernel
theorem dX5_get_48 : decode cX5_get 48 = .ok (.iadd, 1) := by decide +kernel
theorem dX5_get_49 : decode cX5_get 49 = .ok (.iaload, 1) := by decide +kernel
theorem dX5_get_50 : decode cX5_get 50 = .ok (.ireturn, 1) := by decide +kernel
theorem dX5_addFrom_0 : decode cX5_addFrom 0 = .ok (.aload_n 1, 1) := by decide +kernel
theorem dX5_addFrom_1 : decode cX5_addFrom 1 = .ok (.iload_n 2, 1) := by decide +kernel
theorem dX5_addFrom_2 : decode cX5_addFrom 2 = .ok (.invokevirtual 31, 3) := by decide +kernel
theorem dX5_addFrom_5 : decode cX5_addFrom 5 = .ok (.istore 4, 2) := by decide +kernel
theorem dX5_addFrom_7 : decode cX5_addFrom 7 = .ok (.iload_n 3, 1) := by decide +kernel
theorem dX5_addFrom_8 : decode cX5_addFrom 8 = .ok (.istore 5, 2) := by decide +kernel
theorem dX5_addFrom_10 : decode cX5_addFrom 10 = .ok (.iload 5, 2) := by decide +kernel
theorem dX5_addFrom_12 : decode cX5_addFrom 12 = .ok (.iload 4, 2) := by decide +kernel
theorem dX5_addFrom_14 : decode cX5_addFrom 14 = .ok (.if_icmp .ge 20, 3) := by decide +kernel
theorem dX5_addFrom_17 : decode cX5_addFrom 17 = .ok (.aload_n 0, 1) := by decide +kernel
theorem dX5_addFrom_18 : decode cX5_addFrom 18 = .ok (.aload_n 1, 1) := by decide +kernel
theorem dX5_addFrom_19 : decode cX5_addFrom 19 = .ok (.iload_n 2, 1) := by decide +kernel
theorem dX5_addFrom_20 : decode cX5_addFrom 20 = .ok (.iload 5, 2) := by decide +kernel
theorem dX5_addFrom_22 : decode cX5_addFrom 22 = .ok (.invokevirtual 35, 3) := by decide +kernel
theorem dX5_addFrom_25 : decode cX5_addFrom 25 = .ok (.invokevirtual 39, 3) := by decide +kernel
theorem dX5_addFrom_28 : decode cX5_addFrom 28 = .ok (.iinc 5 1, 3) := by decide +kernel
theorem dX5_addFrom_31 : decode cX5_addFrom 31 = .ok (.goto (-21), 3) := by decide +kernel
theorem dX5_addFrom_34 : decode cX5_addFrom 34 = .ok (.return_, 1) := by decide +kernel
theorem dX5_dropUnderLast_0 : decode cX5_dropUnderLast 0 = .ok (.iload_n 1, 1) := by decide +kernel
theorem dX5_dropUnderLast_1 : decode cX5_dropUnderLast 1 = .ok (.ifCond .le 11, 3) := by decide +kernel
theorem dX5_dropUnderLast_4 : decode cX5_dropUnderLast 4 = .ok (.iload_n 1, 1) := by decide +kernel
theorem dX5_dropUnderLast_5 : decode cX5_dropUnderLast 5 = .ok (.aload_n 0, 1) := by decide +kernel
theorem dX5_dropUnderLast_6 : decode cX5_dropUnderLast 6 = .ok (.getfield 18, 3) := by decide +kernel
theorem dX5_dropUnderLast_9 : decode cX5_dropUnderLast 9 = .ok (.if_icmp .lt 4, 3) := by decide +kernel
theorem dX5_dropUnderLast_12 : decode cX5_dropUnderLast 12 = .ok (.return_, 1) := by decide +kernel
theorem dX5_dropUnderLast_13 : decode cX5_dropUnderLast 13 = .ok (.aload_n 0, 1) := by decide +kernel
theorem dX5_dropUnderLast_14 : decode cX5_dropUnderLast 14 = .ok (.getfield 18, 3) := by decide +kernel
theorem dX5_dropUnderLast_17 : decode cX5_dropUnderLast 17 = .ok (.iconst 1, 1) := by decide +kernel
theorem dX5_dropUnderLast_18 : decode cX5_dropUnderLast 18 = .ok (.isub, 1) := by decide +kernel
theorem dX5_dropUnderLast_19 : decode cX5_dropUnderLast 19 = .ok (.istore_n 2, 1) := by decide +kernel
theorem dX5_dropUnderLast_20 : decode cX5_dropUnderLast 20 = .ok (.aload_n 0, 1) := by decide +kernel
theorem dX5_dropUnderLast_21 : decode cX5_dropUnderLast 21 = .ok (.iload_n 2, 1) := by decide +kernel
theorem dX5_dropUnderLast_22 : decode cX5_dropUnderLast 22 = .ok (.invokevirtual 31, 3) := by decide +kernel
theorem dX5_dropUnderLast_25 : decode cX5_dropUnderLast 25 = .ok (.istore_n 3, 1) := by decide +kernel
theorem dX5_dropUnderLast_26 : decode cX5_dropUnderLast 26 = .ok (.aload_n 0, 1) := by decide +kernel
theorem dX5_dropUnderLast_27 : decode cX5_dropUnderLast 27 = .ok (.getfield 15, 3) := by decide +kernel
theorem dX5_dropUnderLast_30 : decode cX5_dropUnderLast 30 = .ok (.iload_n 2, 1) := by decide +kernel
theorem dX5_dropUnderLast_31 : decode cX5_dropUnderLast 31 = .ok (.iload_n 1, 1) := by decide +kernel
theorem dX5_dropUnderLast_32 : decode cX5_dropUnderLast 32 = .ok (.isub, 1) := by decide +kernel
theorem dX5_dropUnderLast_33 : decode cX5_dropUnderLast 33 = .ok (.iaload, 1) := by decide +kernel
theorem dX5_dropUnderLast_34 : decode cX5_dropUnderLast 34 = .ok (.istore 4, 2) := by decide +kernel
theorem dX5_dropUnderLast_36 : decode cX5_dropUnderLast 36 = .ok (.aload_n 0, 1) := by decide +kernel
theorem dX5_dropUnderLast_37 : decode cX5_dropUnderLast 37 = .ok (.getfield 9, 3) := by decide +kernel
theorem dX5_dropUnderLast_40 : decode cX5_dropUnderLast 40 = .ok (.aload_n 0, 1) := by decide +kernel
theorem dX5_dropUnderLast_41 : decode cX5_dropUnderLast 41 = .ok (.getfield 15, 3) := by decide +kernel
theorem dX5_dropUnderLast_44 : decode cX5_dropUnderLast 44 = .ok (.iload_n 2, 1) := by decide +kernel
theorem dX5_dropUnderLast_45 : decode cX5_dropUnderLast 45 = .ok (.iaload, 1) := by decide +kernel
theorem dX5_dropUnderLast_46 : decode cX5_dropUnderLast 46 = .ok (.aload_n 0, 1) := by decide +kernel
theorem dX5_dropUnderLast_47 : decode cX5_dropUnderLast 47 = .ok (.getfield 9, 3) := by decide +kernel
theorem dX5_dropUnderLast_50 : decode cX5_dropUnderLast 50 = .ok (.iload 4, 2) := by decide +kernel
theorem dX5_dropUnderLast_52 : decode cX5_dropUnderLast 52 = .ok (.iload_n 3, 1) := by decide +kernel
theorem dX5_dropUnderLast_53 : decode cX5_dropUnderLast 53 = .ok (.invokestatic 43, 3) := by decide +kernel
theorem dX5_dropUnderLast_56 : decode cX5_dropUnderLast 56 = .ok (.aload_n 0, 1) := by decide +kernel
theorem dX5_dropUnderLast_57 : decode cX5_dropUnderLast 57 = .ok (.dup, 1) := by decide +kernel
theorem dX5_dropUnderLast_58 : decode cX5_dropUnderLast 58 = .ok (.getfield 18, 3) := by decide +kernel
theorem dX5_dropUnderLast_61 : decode cX5_dropUnderLast 61 = .ok (.iload_n 1, 1) := by decide +kernel
theorem dX5_dropUnderLast_62 : decode cX5_dropUnderLast 62 = .ok (.isub, 1) := by decide +kernel
theorem dX5_dropUnderLast_63 : decode cX5_dropUnderLast 63 = .ok (.putfield 18, 3) := by decide +kernel
theorem dX5_dropUnderLast_66 : decode cX5_dropUnderLast 66 = .ok (.aload_n 0, 1) := by decide +kernel
theorem dX5_dropUnderLast_67 : decode cX5_dropUnderLast 67 = .ok (.iload 4, 2) := by decide +kernel
theorem dX5_dropUnderLast_69 : decode cX5_dropUnderLast 69 = .ok (.iload_n 3, 1) := by decide +kernel
theorem dX5_dropUnderLast_70 : decode cX5_dropUnderLast 70 = .ok (.iadd, 1) := by decide +kernel
theorem dX5_dropUnderLast_71 : decode cX5_dropUnderLast 71 = .ok (.putfield 22, 3) := by decide +kernel
theorem dX5_dropUnderLast_74 : decode cX5_dropUnderLast 74 = .ok (.aload_n 0, 1) := by decide +kernel
theorem dX5_dropUnderLast_75 : decode cX5_dropUnderLast 75 = .ok (.getfield 15, 3) := by decide +kernel
theorem dX5_dropUnderLast_78 : decode cX5_dropUnderLast 78 = .ok (.aload_n 0, 1) := by decide +kernel
theorem dX5_dropUnderLast_79 : decode cX5_dropUnderLast 79 = .ok (.getfield 18, 3) := by decide +kernel
theorem dX5_dropUnderLast_82 : decode cX5_dropUnderLast 82 = .ok (.aload_n 0, 1) := by decide +kernel
theorem dX5_dropUnderLast_83 : decode cX5_dropUnderLast 83 = .ok (.getfield 22, 3) := by decide +kernel
theorem dX5_dropUnderLast_86 : decode cX5_dropUnderLast 86 = .ok (.iastore, 1) := by decide +kernel
theorem dX5_dropUnderLast_87 : decode cX5_dropUnderLast 87 = .ok (.return_, 1) := by decide +kernel
theorem dX5_hasRow_0 : decode cX5_hasRow 0 = .ok (.aload_n 0, 1) := by decide +kernel
theorem dX5_hasRow_1 : decode cX5_hasRow 1 = .ok (.iload_n 1, 1) := by decide +kernel
theorem dX5_hasRow_2 : decode cX5_hasRow 2 = .ok (.invokevirtual 31, 3) := by decide +kernel
theorem dX5_hasRow_5 : decode cX5_hasRow 5 = .ok (.istore 4, 2) := by decide +kernel
theorem dX5_hasRow_7 : decode cX5_hasRow 7 = .ok (.iload 4, 2) := by decide +kernel
theorem dX5_hasRow_9 : decode cX5_hasRow 9 = .ok (.aload_n 2, 1) := by decide +kernel
theorem dX5_hasRow_10 : decode cX5_hasRow 10 = .ok (.iload_n 3, 1) := by decide +kernel
theorem dX5_hasRow_11 : decode cX5_hasRow 11 = .ok (.invokevirtual 31, 3) := by decide +kernel
theorem dX5_hasRow_14 : decode cX5_hasRow 14 = .ok (.if_icmp .eq 5, 3) := by decide +kernel
theorem dX5_hasRow_17 : decode cX5_hasRow 17 = .ok (.iconst 0, 1) := by decide +kernel
theorem dX5_hasRow_18 : decode cX5_hasRow 18 = .ok (.ireturn, 1) := by decide +kernel
theorem dX5_hasRow_19 : decode cX5_hasRow 19 = .ok (.iconst 0, 1) := by decide +kernel
theorem dX5_hasRow_20 : decode cX5_hasRow 20 = .ok (.istore 5, 2) := by decide +kernel
theorem dX5_hasRow_22 : decode cX5_hasRow 22 = .ok (.iload 5, 2) := by decide +kernel
theorem dX5_hasRow_24 : decode cX5_hasRow 24 = .ok (.iload 4, 2) := by decide +kernel
theorem dX5_hasRow_26 : decode cX5_hasRow 26 = .ok (.if_icmp .ge 28, 3) := by decide +kernel
theorem dX5_hasRow_29 : decode cX5_hasRow 29 = .ok (.aload_n 0, 1) := by decide +kernel
theorem dX5_hasRow_30 : decode cX5_hasRow 30 = .ok (.iload_n 1, 1) := by decide +kernel
theorem dX5_hasRow_31 : decode cX5_hasRow 31 = .ok (.iload 5, 2) := by decide +kernel
theorem dX5_hasRow_33 : decode cX5_hasRow 33 = .ok (.invokevirtual 35, 3) := by decide +kernel
theorem dX5_hasRow_36 : decode cX5_hasRow 36 = .ok (.aload_n 2, 1) := by decide +kernel
theorem dX5_hasRow_37 : decode cX5_hasRow 37 = .ok (.iload_n 3, 1) := by decide +kernel
theorem dX5_hasRow_38 : decode cX5_hasRow 38 = .ok (.iload 5, 2) := by decide +kernel
theorem dX5_hasRow_40 : decode cX5_hasRow 40 = .ok (.invokevirtual 35, 3) := by decide +kernel
theorem dX5_hasRow_43 : decode cX5_hasRow 43 = .ok (.if_icmp .eq 5, 3) := by decide +kernel
theorem dX5_hasRow_46 : decode cX5_hasRow 46 = .ok (.iconst 0, 1) := by decide +kernel
theorem dX5_hasRow_47 : decode cX5_hasRow 47 = .ok (.ireturn, 1) := by decide +kernel
theorem dX5_hasRow_48 : decode cX5_hasRow 48 = .ok (.iinc 5 1, 3) := by decide +kernel
theorem dX5_hasRow_51 : decode cX5_hasRow 51 = .ok (.goto (-29), 3) := by decide +kernel
theorem dX5_hasRow_54 : decode cX5_hasRow 54 = .ok (.iconst 1, 1) := by decide +kernel
theorem dX5_hasRow_55 : decode cX5_hasRow 55 = .ok (.ireturn, 1) := by decide +kernel
theorem dX6_init_0 : decode cX6_init 0 = .ok (.aload_n 0, 1) := by decide +kernel
theorem dX6_init_1 : decode cX6_init 1 = .ok (.invokespecial 3, 3) := by decide +kernel
theorem dX6_init_4 : decode cX6_init 4 = .ok (.aload_n 0, 1) := by decide +kernel
theorem dX6_init_5 : decode cX6_init 5 = .ok (.aload_n 1, 1) := by decide +kernel
theorem dX6_init_6 : decode cX6_init 6 = .ok (.putfield 9, 3) := by decide +kernel
theorem dX6_init_9 : decode cX6_init 9 = .ok (.return_, 1) := by decide +kernel
theorem dX6_open_0 : decode cX6_open 0 = .ok (.aload_n 0, 1) := by decide +kernel
theorem dX6_open_1 : decode cX6_open 1 = .ok (.aload_n 1, 1) := by decide +kernel
theorem dX6_open_2 : decode cX6_open 2 = .ok (.putfield 9, 3) := by decide +kernel
theorem dX6_open_5 : decode cX6_open 5 = .ok (.aload_n 0, 1) := by decide +kernel
theorem dX6_open_6 : decode cX6_open 6 = .ok (.iload_n 2, 1) := by decide +kernel
theorem dX6_open_7 : decode cX6_open 7 = .ok (.putfield 15, 3) := by decide +kernel
theorem dX6_open_10 : decode cX6_open 10 = .ok (.aload_n 0, 1) := by decide +kernel
theorem dX6_open_11 : decode cX6_open 11 = .ok (.iconst 0, 1) := by decide +kernel
theorem dX6_open_12 : decode cX6_open 12 = .ok (.putfield 19, 3) := by decide +kernel
theorem dX6_open_15 : decode cX6_open 15 = .ok (.aload_n 0, 1) := by decide +kernel
theorem dX6_open_16 : decode cX6_open 16 = .ok (.iconst 0, 1) := by decide +kernel
theorem dX6_open_17 : decode cX6_open 17 = .ok (.putfield 22, 3) := by decide +kernel
theorem dX6_open_20 : decode cX6_open 20 = .ok (.aload_n 0, 1) := by decide +kernel
theorem dX6_open_21 : decode cX6_open 21 = .ok (.iconst 0, 1) := by decide +kernel
theorem dX6_open_22 : decode cX6_open 22 = .ok (.putfield 25, 3) := by decide +kernel
theorem dX6_open_25 : decode cX6_open 25 = .ok (.return_, 1) := by decide +kernel
theorem dX6_advance_0 : decode cX6_advance 0 = .ok (.iconst 0, 1) := by decide +kernel
theorem dX6_advance_1 : decode cX6_advance 1 = .ok (.istore_n 1, 1) := by decide +kernel
theorem dX6_advance_2 : decode cX6_advance 2 = .ok (.iconst 0, 1) := by decide +kernel
theorem dX6_advance_3 : decode cX6_advance 3 = .ok (.istore_n 2, 1) := by decide +kernel
theorem dX6_advance_4 : decode cX6_advance 4 = .ok (.iload_n 2, 1) := by decide +kernel
theorem dX6_advance_5 : decode cX6_advance 5 = .ok (.sipush 4096, 3) := by decide +kernel
theorem dX6_advance_8 : decode cX6_advance 8 = .ok (.if_icmp .gt 114, 3) := by decide +kernel
theorem dX6_advance_11 : decode cX6_advance 11 = .ok (.aload_n 0, 1) := by decide +kernel
theorem dX6_advance_12 : decode cX6_advance 12 = .ok (.invokevirtual 28, 3) := by decide +kernel
theorem dX6_advance_15 : decode cX6_advance 15 = .ok (.aload_n 0, 1) := by decide +kernel
theorem dX6_advance_16 : decode cX6_advance 16 = .ok (.getfield 19, 3) := by decide +kernel
theorem dX6_advance_19 : decode cX6_advance 19 = .ok (.aload_n 0, 1) := by decide +kernel
theorem dX6_advance_20 : decode cX6_advance 20 = .ok (.getfield 15, 3) := by decide +kernel
theorem dX6_advance_23 : decode cX6_advance 23 = .ok (.if_icmp .ne 18, 3) := by decide +kernel
theorem dX6_advance_26 : decode cX6_advance 26 = .ok (.aload_n 0, 1) := by decide +kernel
theorem dX6_advance_27 : decode cX6_advance 27 = .ok (.iload_n 1, 1) := by decide +kernel
theorem dX6_advance_28 : decode cX6_advance 28 = .ok (.ifCond .eq 7, 3) := by decide +kernel
theorem dX6_advance_31 : decode cX6_advance 31 = .ok (.iconst 2, 1) := by decide +kernel
theorem dX6_advance_32 : decode cX6_advance 32 = .ok (.goto 4, 3) := by decide +kernel
theorem dX6_advance_35 : decode cX6_advance 35 = .ok (.iconst 0, 1) := by decide +kernel
theorem dX6_advance_36 : decode cX6_advance 36 = .ok (.putfield 25, 3) := by decide +kernel
theorem dX6_advance_39 : decode cX6_advance 39 = .ok (.iconst 0, 1) := by decide +kernel
theorem dX6_advance_40 : decode cX6_advance 40 = .ok (.ireturn, 1) := by decide +kernel
theorem dX6_advance_41 : decode cX6_advance 41 = .ok (.aload_n 0, 1) := by decide +kernel
theorem dX6_advance_42 : decode cX6_advance 42 = .ok (.invokevirtual 31, 3) := by decide +kernel
theorem dX6_advance_45 : decode cX6_advance 45 = .ok (.ifCond .eq 10, 3) := by decide +kernel
theorem dX6_advance_48 : decode cX6_advance 48 = .ok (.aload_n 0, 1) := by decide +kernel
theorem dX6_advance_49 : decode cX6_advance 49 = .ok (.iconst 1, 1) := by decide +kernel
theorem dX6_advance_50 : decode cX6_advance 50 = .ok (.putfield 25, 3) := by decide +kernel
theorem dX6_advance_53 : decode cX6_advance 53 = .ok (.iconst 0, 1) := by decide +kernel
theorem dX6_advance_54 : decode cX6_advance 54 = .ok (.ireturn, 1) := by decide +kernel
theorem dX6_advance_55 : decode cX6_advance 55 = .ok (.iload_n 1, 1) := by decide +kernel
theorem dX6_advance_56 : decode cX6_advance 56 = .ok (.ifCond .ne 14, 3) := by decide +kernel
theorem dX6_advance_59 : decode cX6_advance 59 = .ok (.aload_n 0, 1) := by decide +kernel
theorem dX6_advance_60 : decode cX6_advance 60 = .ok (.bipush 40, 2) := by decide +kernel
theorem dX6_advance_62 : decode cX6_advance 62 = .ok (.invokevirtual 35, 3) := by decide +kernel
theorem dX6_advance_65 : decode cX6_advance 65 = .ok (.ifCond .ne 5, 3) := by decide +kernel
theorem dX6_advance_68 : decode cX6_advance 68 = .ok (.iconst 1, 1) := by decide +kernel
theorem dX6_advance_69 : decode cX6_advance 69 = .ok (.ireturn, 1) := by decide +kernel
theorem dX6_advance_70 : decode cX6_advance 70 = .ok (.iload_n 1, 1) := by decide +kernel
theorem dX6_advance_71 : decode cX6_advance 71 = .ok (.ifCond .eq 26, 3) := by decide +kernel
theorem dX6_advance_74 : decode cX6_advance 74 = .ok (.aload_n 0, 1) := by decide +kernel
theorem dX6_advance_75 : decode cX6_advance 75 = .ok (.bipush 41, 2) := by decide +kernel
theorem dX6_advance_77 : decode cX6_advance 77 = .ok (.invokevirtual 35, 3) := by decide +kernel
theorem dX6_advance_80 : decode cX6_advance 80 = .ok (.ifCond .ne 17, 3) := by decide +kernel
theorem dX6_advance_83 : decode cX6_advance 83 = .ok (.aload_n 0, 1) := by decide +kernel
theorem dX6_advance_84 : decode cX6_advance 84 = .ok (.invokevirtual 39, 3) := by decide +kernel
theorem dX6_advance_87 : decode cX6_advance 87 = .ok (.ifCond .eq 10, 3) := by decide +kernel
theorem dX6_advance_90 : decode cX6_advance 90 = .ok (.aload_n 0, 1) := by decide +kernel
theorem dX6_advance_91 : decode cX6_advance 91 = .ok (.iconst 3, 1) := by decide +kernel
theorem dX6_advance_92 : decode cX6_advance 92 = .ok (.putfield 25, 3) := by decide +kernel
theorem dX6_advance_95 : decode cX6_advance 95 = .ok (.iconst 0, 1) := by decide +kernel
theorem dX6_advance_96 : decode cX6_advance 96 = .ok (.ireturn, 1) := by decide +kernel
theorem dX6_advance_97 : decode cX6_advance 97 = .ok (.iload_n 1, 1) := by decide +kernel
theorem dX6_advance_98 : decode cX6_advance 98 = .ok (.ifCond .eq 12, 3) := by decide +kernel
theorem dX6_advance_101 : decode cX6_advance 101 = .ok (.aload_n 0, 1) := by decide +kernel
theorem dX6_advance_102 : decode cX6_advance 102 = .ok (.bipush 41, 2) := by decide +kernel
theorem dX6_advance_104 : decode cX6_advance 104 = .ok (.invokevirtual 35, 3) := by decide +kernel

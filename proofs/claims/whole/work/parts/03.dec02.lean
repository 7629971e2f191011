theorem dX11_isKeyword_72 : decode cX11_isKeyword 72 = .ok (.aload_n 0, 1) := by decide +kernel
theorem dX11_isKeyword_73 : decode cX11_isKeyword 73 = .ok (.bipush 46, 2) := by decide +kernel
theorem dX11_isKeyword_75 : decode cX11_isKeyword 75 = .ok (.invokevirtual 216, 3) := by decide +kernel
theorem dX11_isKeyword_78 : decode cX11_isKeyword 78 = .ok (.ifCond .ne 21, 3) := by decide +kernel
theorem dX11_isKeyword_81 : decode cX11_isKeyword 81 = .ok (.aload_n 0, 1) := by decide +kernel
theorem dX11_isKeyword_82 : decode cX11_isKeyword 82 = .ok (.bipush 123, 2) := by decide +kernel
theorem dX11_isKeyword_84 : decode cX11_isKeyword 84 = .ok (.invokevirtual 216, 3) := by decide +kernel
theorem dX11_isKeyword_87 : decode cX11_isKeyword 87 = .ok (.ifCond .ne 12, 3) := by decide +kernel
theorem dX11_isKeyword_90 : decode cX11_isKeyword 90 = .ok (.aload_n 0, 1) := by decide +kernel
theorem dX11_isKeyword_91 : decode cX11_isKeyword 91 = .ok (.bipush 125, 2) := by decide +kernel
theorem dX11_isKeyword_93 : decode cX11_isKeyword 93 = .ok (.invokevirtual 216, 3) := by decide +kernel
theorem dX11_isKeyword_96 : decode cX11_isKeyword 96 = .ok (.ifCond .eq 7, 3) := by decide +kernel
theorem dX11_isKeyword_99 : decode cX11_isKeyword 99 = .ok (.iconst 1, 1) := by decide +kernel
theorem dX11_isKeyword_100 : decode cX11_isKeyword 100 = .ok (.goto 4, 3) := by decide +kernel
theorem dX11_isKeyword_103 : decode cX11_isKeyword 103 = .ok (.iconst 0, 1) := by decide +kernel
theorem dX11_isKeyword_104 : decode cX11_isKeyword 104 = .ok (.ireturn, 1) := by decide +kernel
theorem dX11_isLabel_0 : decode cX11_isLabel 0 = .ok (.iconst 1, 1) := by decide +kernel
theorem dX11_isLabel_1 : decode cX11_isLabel 1 = .ok (.istore_n 1, 1) := by decide +kernel
theorem dX11_isLabel_2 : decode cX11_isLabel 2 = .ok (.aload_n 0, 1) := by decide +kernel
theorem dX11_isLabel_3 : decode cX11_isLabel 3 = .ok (.getfield 210, 3) := by decide +kernel
theorem dX11_isLabel_6 : decode cX11_isLabel 6 = .ok (.istore_n 2, 1) := by decide +kernel
theorem dX11_isLabel_7 : decode cX11_isLabel 7 = .ok (.iload_n 2, 1) := by decide +kernel
theorem dX11_isLabel_8 : decode cX11_isLabel 8 = .ok (.aload_n 0, 1) := by decide +kernel
theorem dX11_isLabel_9 : decode cX11_isLabel 9 = .ok (.getfield 210, 3) := by decide +kernel
theorem dX11_isLabel_12 : decode cX11_isLabel 12 = .ok (.aload_n 0, 1) := by decide +kernel
theorem dX11_isLabel_13 : decode cX11_isLabel 13 = .ok (.getfield 213, 3) := by decide +kernel
theorem dX11_isLabel_16 : decode cX11_isLabel 16 = .ok (.iadd, 1) := by decide +kernel
theorem dX11_isLabel_17 : decode cX11_isLabel 17 = .ok (.if_icmp .ge 92, 3) := by decide +kernel
theorem dX11_isLabel_20 : decode cX11_isLabel 20 = .ok (.aload_n 0, 1) := by decide +kernel
theorem dX11_isLabel_21 : decode cX11_isLabel 21 = .ok (.getfield 7, 3) := by decide +kernel
theorem dX11_isLabel_24 : decode cX11_isLabel 24 = .ok (.iload_n 2, 1) := by decide +kernel
theorem dX11_isLabel_25 : decode cX11_isLabel 25 = .ok (.iaload, 1) := by decide +kernel
theorem dX11_isLabel_26 : decode cX11_isLabel 26 = .ok (.istore_n 3, 1) := by decide +kernel
theorem dX11_isLabel_27 : decode cX11_isLabel 27 = .ok (.iload_n 3, 1) := by decide +kernel
theorem dX11_isLabel_28 : decode cX11_isLabel 28 = .ok (.bipush 97, 2) := by decide +kernel
theorem dX11_isLabel_30 : decode cX11_isLabel 30 = .ok (.if_icmp .lt 9, 3) := by decide +kernel
theorem dX11_isLabel_33 : decode cX11_isLabel 33 = .ok (.iload_n 3, 1) := by decide +kernel
theorem dX11_isLabel_34 : decode cX11_isLabel 34 = .ok (.bipush 122, 2) := by decide +kernel
theorem dX11_isLabel_36 : decode cX11_isLabel 36 = .ok (.if_icmp .le 45, 3) := by decide +kernel
theorem dX11_isLabel_39 : decode cX11_isLabel 39 = .ok (.iload_n 3, 1) := by decide +kernel
theorem dX11_isLabel_40 : decode cX11_isLabel 40 = .ok (.bipush 65, 2) := by decide +kernel
theorem dX11_isLabel_42 : decode cX11_isLabel 42 = .ok (.if_icmp .lt 9, 3) := by decide +kernel
theorem dX11_isLabel_45 : decode cX11_isLabel 45 = .ok (.iload_n 3, 1) := by decide +kernel
theorem dX11_isLabel_46 : decode cX11_isLabel 46 = .ok (.bipush 90, 2) := by decide +kernel
theorem dX11_isLabel_48 : decode cX11_isLabel 48 = .ok (.if_icmp .le 33, 3) := by decide +kernel
theorem dX11_isLabel_51 : decode cX11_isLabel 51 = .ok (.iload_n 3, 1) := by decide +kernel
theorem dX11_isLabel_52 : decode cX11_isLabel 52 = .ok (.bipush 48, 2) := by decide +kernel
theorem dX11_isLabel_54 : decode cX11_isLabel 54 = .ok (.if_icmp .lt 9, 3) := by decide +kernel
theorem dX11_isLabel_57 : decode cX11_isLabel 57 = .ok (.iload_n 3, 1) := by decide +kernel
theorem dX11_isLabel_58 : decode cX11_isLabel 58 = .ok (.bipush 57, 2) := by decide +kernel
theorem dX11_isLabel_60 : decode cX11_isLabel 60 = .ok (.if_icmp .le 21, 3) := by decide +kernel
theorem dX11_isLabel_63 : decode cX11_isLabel 63 = .ok (.iload_n 3, 1) := by decide +kernel
theorem dX11_isLabel_64 : decode cX11_isLabel 64 = .ok (.bipush 46, 2) := by decide +kernel
theorem dX11_isLabel_66 : decode cX11_isLabel 66 = .ok (.if_icmp .eq 15, 3) := by decide +kernel
theorem dX11_isLabel_69 : decode cX11_isLabel 69 = .ok (.iload_n 3, 1) := by decide +kernel
theorem dX11_isLabel_70 : decode cX11_isLabel 70 = .ok (.bipush 45, 2) := by decide +kernel
theorem dX11_isLabel_72 : decode cX11_isLabel 72 = .ok (.if_icmp .eq 9, 3) := by decide +kernel
theorem dX11_isLabel_75 : decode cX11_isLabel 75 = .ok (.iload_n 3, 1) := by decide +kernel
theorem dX11_isLabel_76 : decode cX11_isLabel 76 = .ok (.bipush 95, 2) := by decide +kernel
theorem dX11_isLabel_78 : decode cX11_isLabel 78 = .ok (.if_icmp .ne 7, 3) := by decide +kernel
theorem dX11_isLabel_81 : decode cX11_isLabel 81 = .ok (.iconst 1, 1) := by decide +kernel
theorem dX11_isLabel_82 : decode cX11_isLabel 82 = .ok (.goto 4, 3) := by decide +kernel
theorem dX11_isLabel_85 : decode cX11_isLabel 85 = .ok (.iconst 0, 1) := by decide +kernel
theorem dX11_isLabel_86 : decode cX11_isLabel 86 = .ok (.istore 4, 2) := by decide +kernel
theorem dX11_isLabel_88 : decode cX11_isLabel 88 = .ok (.iload_n 1, 1) := by decide +kernel
theorem dX11_isLabel_89 : decode cX11_isLabel 89 = .ok (.ifCond .eq 12, 3) := by decide +kernel
theorem dX11_isLabel_92 : decode cX11_isLabel 92 = .ok (.iload 4, 2) := by decide +kernel
theorem dX11_isLabel_94 : decode cX11_isLabel 94 = .ok (.ifCond .eq 7, 3) := by decide +kernel
theorem dX11_isLabel_97 : decode cX11_isLabel 97 = .ok (.iconst 1, 1) := by decide +kernel
theorem dX11_isLabel_98 : decode cX11_isLabel 98 = .ok (.goto 4, 3) := by decide +kernel
theorem dX11_isLabel_101 : decode cX11_isLabel 101 = .ok (.iconst 0, 1) := by decide +kernel
theorem dX11_isLabel_102 : decode cX11_isLabel 102 = .ok (.istore_n 1, 1) := by decide +kernel
theorem dX11_isLabel_103 : decode cX11_isLabel 103 = .ok (.iinc 2 1, 3) := by decide +kernel
theorem dX11_isLabel_106 : decode cX11_isLabel 106 = .ok (.goto (-99), 3) := by decide +kernel
theorem dX11_isLabel_109 : decode cX11_isLabel 109 = .ok (.iload_n 1, 1) := by decide +kernel
theorem dX11_isLabel_110 : decode cX11_isLabel 110 = .ok (.ireturn, 1) := by decide +kernel
theorem dX11_same_0 : decode cX11_same 0 = .ok (.iload_n 2, 1) := by decide +kernel
theorem dX11_same_1 : decode cX11_same 1 = .ok (.aload_n 0, 1) := by decide +kernel
theorem dX11_same_2 : decode cX11_same 2 = .ok (.getfield 213, 3) := by decide +kernel
theorem dX11_same_5 : decode cX11_same 5 = .ok (.if_icmp .ne 7, 3) := by decide +kernel
theorem dX11_same_8 : decode cX11_same 8 = .ok (.iconst 1, 1) := by decide +kernel
theorem dX11_same_9 : decode cX11_same 9 = .ok (.goto 4, 3) := by decide +kernel
theorem dX11_same_12 : decode cX11_same 12 = .ok (.iconst 0, 1) := by decide +kernel
theorem dX11_same_13 : decode cX11_same 13 = .ok (.istore_n 3, 1) := by decide +kernel
theorem dX11_same_14 : decode cX11_same 14 = .ok (.iconst 0, 1) := by decide +kernel
theorem dX11_same_15 : decode cX11_same 15 = .ok (.istore 4, 2) := by decide +kernel
theorem dX11_same_17 : decode cX11_same 17 = .ok (.iload 4, 2) := by decide +kernel
theorem dX11_same_19 : decode cX11_same 19 = .ok (.aload_n 0, 1) := by decide +kernel
theorem dX11_same_20 : decode cX11_same 20 = .ok (.getfield 213, 3) := by decide +kernel
theorem dX11_same_23 : decode cX11_same 23 = .ok (.if_icmp .ge 43, 3) := by decide +kernel
theorem dX11_same_26 : decode cX11_same 26 = .ok (.iload_n 3, 1) := by decide +kernel
theorem dX11_same_27 : decode cX11_same 27 = .ok (.ifCond .eq 39, 3) := by decide +kernel
theorem dX11_same_30 : decode cX11_same 30 = .ok (.aload_n 0, 1) := by decide +kernel
theorem dX11_same_31 : decode cX11_same 31 = .ok (.getfield 7, 3) := by decide +kernel
theorem dX11_same_34 : decode cX11_same 34 = .ok (.aload_n 0, 1) := by decide +kernel
theorem dX11_same_35 : decode cX11_same 35 = .ok (.getfield 210, 3) := by decide +kernel
theorem dX11_same_38 : decode cX11_same 38 = .ok (.iload 4, 2) := by decide +kernel
theorem dX11_same_40 : decode cX11_same 40 = .ok (.iadd, 1) := by decide +kernel
theorem dX11_same_41 : decode cX11_same 41 = .ok (.iaload, 1) := by decide +kernel
theorem dX11_same_42 : decode cX11_same 42 = .ok (.aload_n 0, 1) := by decide +kernel
theorem dX11_same_43 : decode cX11_same 43 = .ok (.getfield 7, 3) := by decide +kernel
theorem dX11_same_46 : decode cX11_same 46 = .ok (.iload_n 1, 1) := by decide +kernel
theorem dX11_same_47 : decode cX11_same 47 = .ok (.iload 4, 2) := by decide +kernel
theorem dX11_same_49 : decode cX11_same 49 = .ok (.iadd, 1) := by decide +kernel
theorem dX11_same_50 : decode cX11_same 50 = .ok (.iaload, 1) := by decide +kernel
theorem dX11_same_51 : decode cX11_same 51 = .ok (.if_icmp .ne 7, 3) := by decide +kernel
theorem dX11_same_54 : decode cX11_same 54 = .ok (.iconst 1, 1) := by decide +kernel
theorem dX11_same_55 : decode cX11_same 55 = .ok (.goto 4, 3) := by decide +kernel
theorem dX11_same_58 : decode cX11_same 58 = .ok (.iconst 0, 1) := by decide +kernel
theorem dX11_same_59 : decode cX11_same 59 = .ok (.istore_n 3, 1) := by decide +kernel
theorem dX11_same_60 : decode cX11_same 60 = .ok (.iinc 4 1, 3) := by decide +kernel
theorem dX11_same_63 : decode cX11_same 63 = .ok (.goto (-46), 3) := by decide +kernel
theorem dX11_same_66 : decode cX11_same 66 = .ok (.iload_n 3, 1) := by decide +kernel
theorem dX11_same_67 : decode cX11_same 67 = .ok (.ireturn, 1) := by decide +kernel
theorem dX11_symbolHere_0 : decode cX11_symbolHere 0 = .ok (.iconst 0, 1) := by decide +kernel
theorem dX11_symbolHere_1 : decode cX11_symbolHere 1 = .ok (.istore_n 1, 1) := by decide +kernel
theorem dX11_symbolHere_2 : decode cX11_symbolHere 2 = .ok (.iload_n 1, 1) := by decide +kernel
theorem dX11_symbolHere_3 : decode cX11_symbolHere 3 = .ok (.aload_n 0, 1) := by decide +kernel
theorem dX11_symbolHere_4 : decode cX11_symbolHere 4 = .ok (.getfield 26, 3) := by decide +kernel
theorem dX11_symbolHere_7 : decode cX11_symbolHere 7 = .ok (.aload_n 0, 1) := by decide +kernel
theorem dX11_symbolHere_8 : decode cX11_symbolHere 8 = .ok (.getfield 219, 3) := by decide +kernel
theorem dX11_symbolHere_11 : decode cX11_symbolHere 11 = .ok (.iaload, 1) := by decide +kernel
theorem dX11_symbolHere_12 : decode cX11_symbolHere 12 = .ok (.if_icmp .ge 48, 3) := by decide +kernel
theorem dX11_symbolHere_15 : decode cX11_symbolHere 15 = .ok (.aload_n 0, 1) := by decide +kernel
theorem dX11_symbolHere_16 : decode cX11_symbolHere 16 = .ok (.aload_n 0, 1) := by decide +kernel
theorem dX11_symbolHere_17 : decode cX11_symbolHere 17 = .ok (.getfield 16, 3) := by decide +kernel
theorem dX11_symbolHere_20 : decode cX11_symbolHere 20 = .ok (.sipush 300, 3) := by decide +kernel
theorem dX11_symbolHere_23 : decode cX11_symbolHere 23 = .ok (.aload_n 0, 1) := by decide +kernel
theorem dX11_symbolHere_24 : decode cX11_symbolHere 24 = .ok (.getfield 219, 3) := by decide +kernel
theorem dX11_symbolHere_27 : decode cX11_symbolHere 27 = .ok (.imul, 1) := by decide +kernel
theorem dX11_symbolHere_28 : decode cX11_symbolHere 28 = .ok (.iload_n 1, 1) := by decide +kernel
theorem dX11_symbolHere_29 : decode cX11_symbolHere 29 = .ok (.iadd, 1) := by decide +kernel
theorem dX11_symbolHere_30 : decode cX11_symbolHere 30 = .ok (.iaload, 1) := by decide +kernel
theorem dX11_symbolHere_31 : decode cX11_symbolHere 31 = .ok (.aload_n 0, 1) := by decide +kernel
theorem dX11_symbolHere_32 : decode cX11_symbolHere 32 = .ok (.getfield 19, 3) := by decide +kernel
theorem dX11_symbolHere_35 : decode cX11_symbolHere 35 = .ok (.sipush 300, 3) := by decide +kernel
theorem dX11_symbolHere_38 : decode cX11_symbolHere 38 = .ok (.aload_n 0, 1) := by decide +kernel
theorem dX11_symbolHere_39 : decode cX11_symbolHere 39 = .ok (.getfield 219, 3) := by decide +kernel
theorem dX11_symbolHere_42 : decode cX11_symbolHere 42 = .ok (.imul, 1) := by decide +kernel
theorem dX11_symbolHere_43 : decode cX11_symbolHere 43 = .ok (.iload_n 1, 1) := by decide +kernel
theorem dX11_symbolHere_44 : decode cX11_symbolHere 44 = .ok (.iadd, 1) := by decide +kernel
theorem dX11_symbolHere_45 : decode cX11_symbolHere 45 = .ok (.iaload, 1) := by decide +kernel
theorem dX11_symbolHere_46 : decode cX11_symbolHere 46 = .ok (.invokevirtual 222, 3) := by decide +kernel
theorem dX11_symbolHere_49 : decode cX11_symbolHere 49 = .ok (.ifCond .eq 5, 3) := by decide +kernel
theorem dX11_symbolHere_52 : decode cX11_symbolHere 52 = .ok (.iload_n 1, 1) := by decide +kernel
theorem dX11_symbolHere_53 : decode cX11_symbolHere 53 = .ok (.ireturn, 1) := by decide +kernel
theorem dX11_symbolHere_54 : decode cX11_symbolHere 54 = .ok (.iinc 1 1, 3) := by decide +kernel
theorem dX11_symbolHere_57 : decode cX11_symbolHere 57 = .ok (.goto (-55), 3) := by decide +kernel
theorem dX11_symbolHere_60 : decode cX11_symbolHere 60 = .ok (.iconst (-1), 1) := by decide +kernel
theorem dX11_symbolHere_61 : decode cX11_symbolHere 61 = .ok (.ireturn, 1) := by decide +kernel
theorem dX11_labelHere_0 : decode cX11_labelHere 0 = .ok (.iconst 0, 1) := by decide +kernel
theorem dX11_labelHere_1 : decode cX11_labelHere 1 = .ok (.istore_n 1, 1) := by decide +kernel
theorem dX11_labelHere_2 : decode cX11_labelHere 2 = .ok (.iload_n 1, 1) := by decide +kernel
theorem dX11_labelHere_3 : decode cX11_labelHere 3 = .ok (.aload_n 0, 1) := by decide +kernel
theorem dX11_labelHere_4 : decode cX11_labelHere 4 = .ok (.getfield 53, 3) := by decide +kernel
theorem dX11_labelHere_7 : decode cX11_labelHere 7 = .ok (.aload_n 0, 1) := by decide +kernel
theorem dX11_labelHere_8 : decode cX11_labelHere 8 = .ok (.getfield 219, 3) := by decide +kernel
theorem dX11_labelHere_11 : decode cX11_labelHere 11 = .ok (.iaload, 1) := by decide +kernel
theorem dX11_labelHere_12 : decode cX11_labelHere 12 = .ok (.if_icmp .ge 48, 3) := by decide +kernel
theorem dX11_labelHere_15 : decode cX11_labelHere 15 = .ok (.aload_n 0, 1) := by decide +kernel
theorem dX11_labelHere_16 : decode cX11_labelHere 16 = .ok (.aload_n 0, 1) := by decide +kernel
theorem dX11_labelHere_17 : decode cX11_labelHere 17 = .ok (.getfield 32, 3) := by decide +kernel
theorem dX11_labelHere_20 : decode cX11_labelHere 20 = .ok (.sipush 200, 3) := by decide +kernel
theorem dX11_labelHere_23 : decode cX11_labelHere 23 = .ok (.aload_n 0, 1) := by decide +kernel
theorem dX11_labelHere_24 : decode cX11_labelHere 24 = .ok (.getfield 219, 3) := by decide +kernel
theorem dX11_labelHere_27 : decode cX11_labelHere 27 = .ok (.imul, 1) := by decide +kernel
theorem dX11_labelHere_28 : decode cX11_labelHere 28 = .ok (.iload_n 1, 1) := by decide +kernel
theorem dX11_labelHere_29 : decode cX11_labelHere 29 = .ok (.iadd, 1) := by decide +kernel
theorem dX11_labelHere_30 : decode cX11_labelHere 30 = .ok (.iaload, 1) := by decide +kernel
theorem dX11_labelHere_31 : decode cX11_labelHere 31 = .ok (.aload_n 0, 1) := by decide +kernel
theorem dX11_labelHere_32 : decode cX11_labelHere 32 = .ok (.getfield 35, 3) := by decide +kernel
theorem dX11_labelHere_35 : decode cX11_labelHere 35 = .ok (.sipush 200, 3) := by decide +kernel
theorem dX11_labelHere_38 : decode cX11_labelHere 38 = .ok (.aload_n 0, 1) := by decide +kernel
theorem dX11_labelHere_39 : decode cX11_labelHere 39 = .ok (.getfield 219, 3) := by decide +kernel
theorem dX11_labelHere_42 : decode cX11_labelHere 42 = .ok (.imul, 1) := by decide +kernel
theorem dX11_labelHere_43 : decode cX11_labelHere 43 = .ok (.iload_n 1, 1) := by decide +kernel
theorem dX11_labelHere_44 : decode cX11_labelHere 44 = .ok (.iadd, 1) := by decide +kernel
theorem dX11_labelHere_45 : decode cX11_labelHere 45 = .ok (.iaload, 1) := by decide +kernel
theorem dX11_labelHere_46 : decode cX11_labelHere 46 = .ok (.invokevirtual 222, 3) := by decide +kernel
theorem dX11_labelHere_49 : decode cX11_labelHere 49 = .ok (.ifCond .eq 5, 3) := by decide +kernel
theorem dX11_labelHere_52 : decode cX11_labelHere 52 = .ok (.iload_n 1, 1) := by decide +kernel
theorem dX11_labelHere_53 : decode cX11_labelHere 53 = .ok (.ireturn, 1) := by decide +kernel
theorem dX11_labelHere_54 : decode cX11_labelHere 54 = .ok (.iinc 1 1, 3) := by decide +kernel
theorem dX11_labelHere_57 : decode cX11_labelHere 57 = .ok (.goto (-55), 3) := by decide +kernel
theorem dX11_labelHere_60 : decode cX11_labelHere 60 = .ok (.iconst (-1), 1) := by decide +kernel
theorem dX11_labelHere_61 : decode cX11_labelHere 61 = .ok (.ireturn, 1) := by decide +kernel
theorem dX11_beginBook_0 : decode cX11_beginBook 0 = .ok (.aload_n 0, 1) := by decide +kernel
theorem dX11_beginBook_1 : decode cX11_beginBook 1 = .ok (.iconst 1, 1) := by decide +kernel
theorem dX11_beginBook_2 : decode cX11_beginBook 2 = .ok (.aload_n 0, 1) := by decide +kernel
theorem dX11_beginBook_3 : decode cX11_beginBook 3 = .ok (.getfield 226, 3) := by decide +kernel
theorem dX11_beginBook_6 : decode cX11_beginBook 6 = .ok (.isub, 1) := by decide +kernel
theorem dX11_beginBook_7 : decode cX11_beginBook 7 = .ok (.putfield 219, 3) := by decide +kernel
theorem dX11_beginBook_10 : decode cX11_beginBook 10 = .ok (.aload_n 0, 1) := by decide +kernel
theorem dX11_beginBook_11 : decode cX11_beginBook 11 = .ok (.getfield 26, 3) := by decide +kernel
theorem dX11_beginBook_14 : decode cX11_beginBook 14 = .ok (.aload_n 0, 1) := by decide +kernel
theorem dX11_beginBook_15 : decode cX11_beginBook 15 = .ok (.getfield 219, 3) := by decide +kernel
theorem dX11_beginBook_18 : decode cX11_beginBook 18 = .ok (.iconst 0, 1) := by decide +kernel
theorem dX11_beginBook_19 : decode cX11_beginBook 19 = .ok (.iastore, 1) := by decide +kernel
theorem dX11_beginBook_20 : decode cX11_beginBook 20 = .ok (.aload_n 0, 1) := by decide +kernel
theorem dX11_beginBook_21 : decode cX11_beginBook 21 = .ok (.getfield 53, 3) := by decide +kernel
theorem dX11_beginBook_24 : decode cX11_beginBook 24 = .ok (.aload_n 0, 1) := by decide +kernel
theorem dX11_beginBook_25 : decode cX11_beginBook 25 = .ok (.getfield 219, 3) := by decide +kernel
theorem dX11_beginBook_28 : decode cX11_beginBook 28 = .ok (.iconst 0, 1) := by decide +kernel
theorem dX11_beginBook_29 : decode cX11_beginBook 29 = .ok (.iastore, 1) := by decide +kernel
theorem dX11_beginBook_30 : decode cX11_beginBook 30 = .ok (.aload_n 0, 1) := by decide +kernel
theorem dX11_beginBook_31 : decode cX11_beginBook 31 = .ok (.getfield 84, 3) := by decide +kernel
theorem dX11_beginBook_34 : decode cX11_beginBook 34 = .ok (.aload_n 0, 1) := by decide +kernel
theorem dX11_beginBook_35 : decode cX11_beginBook 35 = .ok (.getfield 219, 3) := by decide +kernel
theorem dX11_beginBook_38 : decode cX11_beginBook 38 = .ok (.iconst 0, 1) := by decide +kernel
theorem dX11_beginBook_39 : decode cX11_beginBook 39 = .ok (.iastore, 1) := by decide +kernel
theorem dX11_beginBook_40 : decode cX11_beginBook 40 = .ok (.aload_n 0, 1) := by decide +kernel
theorem dX11_beginBook_41 : decode cX11_beginBook 41 = .ok (.iconst 0, 1) := by decide +kernel
theorem dX11_beginBook_42 : decode cX11_beginBook 42 = .ok (.putfield 203, 3) := by decide +kernel
theorem dX11_beginBook_45 : decode cX11_beginBook 45 = .ok (.aload_n 0, 1) := by decide +kernel
theorem dX11_beginBook_46 : decode cX11_beginBook 46 = .ok (.iconst 0, 1) := by decide +kernel
theorem dX11_beginBook_47 : decode cX11_beginBook 47 = .ok (.putfield 229, 3) := by decide +kernel
theorem dX11_beginBook_50 : decode cX11_beginBook 50 = .ok (.aload_n 0, 1) := by decide +kernel
theorem dX11_beginBook_51 : decode cX11_beginBook 51 = .ok (.iconst 0, 1) := by decide +kernel
theorem dX11_beginBook_52 : decode cX11_beginBook 52 = .ok (.putfield 232, 3) := by decide +kernel
theorem dX11_beginBook_55 : decode cX11_beginBook 55 = .ok (.aload_n 0, 1) := by decide +kernel
theorem dX11_beginBook_56 : decode cX11_beginBook 56 = .ok (.iconst 0, 1) := by decide +kernel
theorem dX11_beginBook_57 : decode cX11_beginBook 57 = .ok (.putfield 235, 3) := by decide +kernel
theorem dX11_beginBook_60 : decode cX11_beginBook 60 = .ok (.aload_n 0, 1) := by decide +kernel
theorem dX11_beginBook_61 : decode cX11_beginBook 61 = .ok (.iconst 0, 1) := by decide +kernel
theorem dX11_beginBook_62 : decode cX11_beginBook 62 = .ok (.putfield 238, 3) := by decide +kernel
theorem dX11_beginBook_65 : decode cX11_beginBook 65 = .ok (.aload_n 0, 1) := by decide +kernel
theorem dX11_beginBook_66 : decode cX11_beginBook 66 = .ok (.iconst 0, 1) := by decide +kernel
theorem dX11_beginBook_67 : decode cX11_beginBook 67 = .ok (.putfield 241, 3) := by decide +kernel
theorem dX11_beginBook_70 : decode cX11_beginBook 70 = .ok (.iconst 0, 1) := by decide +kernel
theorem dX11_beginBook_71 : decode cX11_beginBook 71 = .ok (.istore_n 1, 1) := by decide +kernel
theorem dX11_beginBook_72 : decode cX11_beginBook 72 = .ok (.iload_n 1, 1) := by decide +kernel
theorem dX11_beginBook_73 : decode cX11_beginBook 73 = .ok (.sipush 300, 3) := by decide +kernel
theorem dX11_beginBook_76 : decode cX11_beginBook 76 = .ok (.if_icmp .ge 23, 3) := by decide +kernel
theorem dX11_beginBook_79 : decode cX11_beginBook 79 = .ok (.aload_n 0, 1) := by decide +kernel
theorem dX11_beginBook_80 : decode cX11_beginBook 80 = .ok (.getfield 87, 3) := by decide +kernel
theorem dX11_beginBook_83 : decode cX11_beginBook 83 = .ok (.iload_n 1, 1) := by decide +kernel
theorem dX11_beginBook_84 : decode cX11_beginBook 84 = .ok (.iconst (-1), 1) := by decide +kernel
theorem dX11_beginBook_85 : decode cX11_beginBook 85 = .ok (.iastore, 1) := by decide +kernel
theorem dX11_beginBook_86 : decode cX11_beginBook 86 = .ok (.aload_n 0, 1) := by decide +kernel
theorem dX11_beginBook_87 : decode cX11_beginBook 87 = .ok (.getfield 90, 3) := by decide +kernel
theorem dX11_beginBook_90 : decode cX11_beginBook 90 = .ok (.iload_n 1, 1) := by decide +kernel
theorem dX11_beginBook_91 : decode cX11_beginBook 91 = .ok (.iconst (-1), 1) := by decide +kernel
theorem dX11_beginBook_92 : decode cX11_beginBook 92 = .ok (.iastore, 1) := by decide +kernel
theorem dX11_beginBook_93 : decode cX11_beginBook 93 = .ok (.iinc 1 1, 3) := by decide +kernel
theorem dX11_beginBook_96 : decode cX11_beginBook 96 = .ok (.goto (-24), 3) := by decide +kernel
theorem dX11_beginBook_99 : decode cX11_beginBook 99 = .ok (.iconst 0, 1) := by decide +kernel
theorem dX11_beginBook_100 : decode cX11_beginBook 100 = .ok (.istore_n 1, 1) := by decide +kernel
theorem dX11_beginBook_101 : decode cX11_beginBook 101 = .ok (.iload_n 1, 1) := by decide +kernel
theorem dX11_beginBook_102 : decode cX11_beginBook 102 = .ok (.sipush 200, 3) := by decide +kernel
theorem dX11_beginBook_105 : decode cX11_beginBook 105 = .ok (.if_icmp .ge 16, 3) := by decide +kernel
theorem dX11_beginBook_108 : decode cX11_beginBook 108 = .ok (.aload_n 0, 1) := by decide +kernel
theorem dX11_beginBook_109 : decode cX11_beginBook 109 = .ok (.getfield 93, 3) := by decide +kernel
theorem dX11_beginBook_112 : decode cX11_beginBook 112 = .ok (.iload_n 1, 1) := by decide +kernel
theorem dX11_beginBook_113 : decode cX11_beginBook 113 = .ok (.iconst 0, 1) := by decide +kernel
theorem dX11_beginBook_114 : decode cX11_beginBook 114 = .ok (.bastore, 1) := by decide +kernel
theorem dX11_beginBook_115 : decode cX11_beginBook 115 = .ok (.iinc 1 1, 3) := by decide +kernel
theorem dX11_beginBook_118 : decode cX11_beginBook 118 = .ok (.goto (-17), 3) := by decide +kernel
theorem dX11_beginBook_121 : decode cX11_beginBook 121 = .ok (.return_, 1) := by decide +kernel
theorem dX11_readBook_0 : decode cX11_readBook 0 = .ok (.aload_n 0, 1) := by decide +kernel
theorem dX11_readBook_1 : decode cX11_readBook 1 = .ok (.invokevirtual 244, 3) := by decide +kernel
theorem dX11_readBook_4 : decode cX11_readBook 4 = .ok (.iconst 0, 1) := by decide +kernel
theorem dX11_readBook_5 : decode cX11_readBook 5 = .ok (.istore_n 1, 1) := by decide +kernel
theorem dX11_readBook_6 : decode cX11_readBook 6 = .ok (.aload_n 0, 1) := by decide +kernel
theorem dX11_readBook_7 : decode cX11_readBook 7 = .ok (.invokevirtual 247, 3) := by decide +kernel
theorem dX11_readBook_10 : decode cX11_readBook 10 = .ok (.ifCond .eq 104, 3) := by decide +kernel
theorem dX11_readBook_13 : decode cX11_readBook 13 = .ok (.aload_n 0, 1) := by decide +kernel
theorem dX11_readBook_14 : decode cX11_readBook 14 = .ok (.invokevirtual 251, 3) := by decide +kernel
theorem dX11_readBook_17 : decode cX11_readBook 17 = .ok (.ifCond .eq 5, 3) := by decide +kernel
theorem dX11_readBook_20 : decode cX11_readBook 20 = .ok (.iconst 1, 1) := by decide +kernel
theorem dX11_readBook_21 : decode cX11_readBook 21 = .ok (.ireturn, 1) := by decide +kernel
theorem dX11_readBook_22 : decode cX11_readBook 22 = .ok (.iload_n 1, 1) := by decide +kernel
theorem dX11_readBook_23 : decode cX11_readBook 23 = .ok (.ifCond .eq 47, 3) := by decide +kernel
theorem dX11_readBook_26 : decode cX11_readBook 26 = .ok (.aload_n 0, 1) := by decide +kernel
theorem dX11_readBook_27 : decode cX11_readBook 27 = .ok (.bipush 41, 2) := by decide +kernel
theorem dX11_readBook_29 : decode cX11_readBook 29 = .ok (.invokevirtual 216, 3) := by decide +kernel
theorem dX11_readBook_32 : decode cX11_readBook 32 = .ok (.istore_n 2, 1) := by decide +kernel
theorem dX11_readBook_33 : decode cX11_readBook 33 = .ok (.iload_n 2, 1) := by decide +kernel
theorem dX11_readBook_34 : decode cX11_readBook 34 = .ok (.ifCond .ne 23, 3) := by decide +kernel
theorem dX11_readBook_37 : decode cX11_readBook 37 = .ok (.aload_n 0, 1) := by decide +kernel
theorem dX11_readBook_38 : decode cX11_readBook 38 = .ok (.bipush 40, 2) := by decide +kernel
theorem dX11_readBook_40 : decode cX11_readBook 40 = .ok (.invokevirtual 254, 3) := by decide +kernel
theorem dX11_readBook_43 : decode cX11_readBook 43 = .ok (.ifCond .ne 12, 3) := by decide +kernel
theorem dX11_readBook_46 : decode cX11_readBook 46 = .ok (.aload_n 0, 1) := by decide +kernel
theorem dX11_readBook_47 : decode cX11_readBook 47 = .ok (.bipush 41, 2) := by decide +kernel
theorem dX11_readBook_49 : decode cX11_readBook 49 = .ok (.invokevirtual 254, 3) := by decide +kernel
theorem dX11_readBook_52 : decode cX11_readBook 52 = .ok (.ifCond .eq 5, 3) := by decide +kernel
theorem dX11_readBook_55 : decode cX11_readBook 55 = .ok (.iconst 3, 1) := by decide +kernel
theorem dX11_readBook_56 : decode cX11_readBook 56 = .ok (.ireturn, 1) := by decide +kernel
theorem dX11_readBook_57 : decode cX11_readBook 57 = .ok (.iload_n 2, 1) := by decide +kernel
theorem dX11_readBook_58 : decode cX11_readBook 58 = .ok (.ifCond .ne 7, 3) := by decide +kernel
theorem dX11_readBook_61 : decode cX11_readBook 61 = .ok (.iconst 1, 1) := by decide +kernel
theorem dX11_readBook_62 : decode cX11_readBook 62 = .ok (.goto 4, 3) := by decide +kernel
theorem dX11_readBook_65 : decode cX11_readBook 65 = .ok (.iconst 0, 1) := by decide +kernel
theorem dX11_readBook_66 : decode cX11_readBook 66 = .ok (.istore_n 1, 1) := by decide +kernel
theorem dX11_readBook_67 : decode cX11_readBook 67 = .ok (.goto (-61), 3) := by decide +kernel
theorem dX11_readBook_70 : decode cX11_readBook 70 = .ok (.aload_n 0, 1) := by decide +kernel
theorem dX11_readBook_71 : decode cX11_readBook 71 = .ok (.bipush 40, 2) := by decide +kernel
theorem dX11_readBook_73 : decode cX11_readBook 73 = .ok (.invokevirtual 216, 3) := by decide +kernel
theorem dX11_readBook_76 : decode cX11_readBook 76 = .ok (.ifCond .eq 8, 3) := by decide +kernel
theorem dX11_readBook_79 : decode cX11_readBook 79 = .ok (.iconst 1, 1) := by decide +kernel
theorem dX11_readBook_80 : decode cX11_readBook 80 = .ok (.istore_n 1, 1) := by decide +kernel
theorem dX11_readBook_81 : decode cX11_readBook 81 = .ok (.goto (-75), 3) := by decide +kernel
theorem dX11_readBook_84 : decode cX11_readBook 84 = .ok (.aload_n 0, 1) := by decide +kernel
theorem dX11_readBook_85 : decode cX11_readBook 85 = .ok (.invokevirtual 257, 3) := by decide +kernel
theorem dX11_readBook_88 : decode cX11_readBook 88 = .ok (.ifCond .eq 12, 3) := by decide +kernel
theorem dX11_readBook_91 : decode cX11_readBook 91 = .ok (.aload_n 0, 1) := by decide +kernel
theorem dX11_readBook_92 : decode cX11_readBook 92 = .ok (.invokevirtual 260, 3) := by decide +kernel
theorem dX11_readBook_95 : decode cX11_readBook 95 = .ok (.ifCond .ne 5, 3) := by decide +kernel
theorem dX11_readBook_98 : decode cX11_readBook 98 = .ok (.iconst 3, 1) := by decide +kernel
theorem dX11_readBook_99 : decode cX11_readBook 99 = .ok (.ireturn, 1) := by decide +kernel
theorem dX11_readBook_100 : decode cX11_readBook 100 = .ok (.aload_n 0, 1) := by decide +kernel
theorem dX11_readBook_101 : decode cX11_readBook 101 = .ok (.invokevirtual 263, 3) := by decide +kernel
theorem dX11_readBook_104 : decode cX11_readBook 104 = .ok (.istore_n 2, 1) := by decide +kernel
theorem dX11_readBook_105 : decode cX11_readBook 105 = .ok (.iload_n 2, 1) := by decide +kernel
theorem dX11_readBook_106 : decode cX11_readBook 106 = .ok (.ifCond .le 5, 3) := by decide +kernel
theorem dX11_readBook_109 : decode cX11_readBook 109 = .ok (.iload_n 2, 1) := by decide +kernel
theorem dX11_readBook_110 : decode cX11_readBook 110 = .ok (.ireturn, 1) := by decide +kernel
theorem dX11_readBook_111 : decode cX11_readBook 111 = .ok (.goto (-105), 3) := by decide +kernel
theorem dX11_readBook_114 : decode cX11_readBook 114 = .ok (.aload_n 0, 1) := by decide +kernel
theorem dX11_readBook_115 : decode cX11_readBook 115 = .ok (.aload_n 0, 1) := by decide +kernel
theorem dX11_readBook_116 : decode cX11_readBook 116 = .ok (.getfield 197, 3) := by decide +kernel
theorem dX11_readBook_119 : decode cX11_readBook 119 = .ok (.putfield 210, 3) := by decide +kernel
theorem dX11_readBook_122 : decode cX11_readBook 122 = .ok (.iload_n 1, 1) := by decide +kernel
theorem dX11_readBook_123 : decode cX11_readBook 123 = .ok (.ifCond .ne 17, 3) := by decide +kernel
theorem dX11_readBook_126 : decode cX11_readBook 126 = .ok (.aload_n 0, 1) := by decide +kernel
theorem dX11_readBook_127 : decode cX11_readBook 127 = .ok (.getfield 232, 3) := by decide +kernel
theorem dX11_readBook_130 : decode cX11_readBook 130 = .ok (.ifCond .ne 10, 3) := by decide +kernel
theorem dX11_readBook_133 : decode cX11_readBook 133 = .ok (.aload_n 0, 1) := by decide +kernel
theorem dX11_readBook_134 : decode cX11_readBook 134 = .ok (.getfield 229, 3) := by decide +kernel
theorem dX11_readBook_137 : decode cX11_readBook 137 = .ok (.ifCond .le 7, 3) := by decide +kernel
theorem dX11_readBook_140 : decode cX11_readBook 140 = .ok (.iconst 2, 1) := by decide +kernel
theorem dX11_readBook_141 : decode cX11_readBook 141 = .ok (.goto 4, 3) := by decide +kernel
theorem dX11_readBook_144 : decode cX11_readBook 144 = .ok (.iconst 0, 1) := by decide +kernel
theorem dX11_readBook_145 : decode cX11_readBook 145 = .ok (.ireturn, 1) := by decide +kernel
theorem dX11_token_0 : decode cX11_token 0 = .ok (.aload_n 0, 1) := by decide +kernel
theorem dX11_token_1 : decode cX11_token 1 = .ok (.getfield 232, 3) := by decide +kernel
theorem dX11_token_4 : decode cX11_token 4 = .ok (.tableswitch 74 0 6 #[44, 49, 54, 54, 59, 64, 69], 44) := by decide +kernel
theorem dX11_token_48 : decode cX11_token 48 = .ok (.aload_n 0, 1) := by decide +kernel
theorem dX11_token_49 : decode cX11_token 49 = .ok (.invokevirtual 267, 3) := by decide +kernel
theorem dX11_token_52 : decode cX11_token 52 = .ok (.ireturn, 1) := by decide +kernel
theorem dX11_token_53 : decode cX11_token 53 = .ok (.aload_n 0, 1) := by decide +kernel
theorem dX11_token_54 : decode cX11_token 54 = .ok (.invokevirtual 270, 3) := by decide +kernel
theorem dX11_token_57 : decode cX11_token 57 = .ok (.ireturn, 1) := by decide +kernel
theorem dX11_token_58 : decode cX11_token 58 = .ok (.aload_n 0, 1) := by decide +kernel
theorem dX11_token_59 : decode cX11_token 59 = .ok (.invokevirtual 273, 3) := by decide +kernel
theorem dX11_token_62 : decode cX11_token 62 = .ok (.ireturn, 1) := by decide +kernel
theorem dX11_token_63 : decode cX11_token 63 = .ok (.aload_n 0, 1) := by decide +kernel
theorem dX11_token_64 : decode cX11_token 64 = .ok (.invokevirtual 276, 3) := by decide +kernel
theorem dX11_token_67 : decode cX11_token 67 = .ok (.ireturn, 1) := by decide +kernel
theorem dX11_token_68 : decode cX11_token 68 = .ok (.aload_n 0, 1) := by decide +kernel
theorem dX11_token_69 : decode cX11_token 69 = .ok (.invokevirtual 279, 3) := by decide +kernel
theorem dX11_token_72 : decode cX11_token 72 = .ok (.ireturn, 1) := by decide +kernel
theorem dX11_token_73 : decode cX11_token 73 = .ok (.aload_n 0, 1) := by decide +kernel
theorem dX11_token_74 : decode cX11_token 74 = .ok (.invokevirtual 282, 3) := by decide +kernel
theorem dX11_token_77 : decode cX11_token 77 = .ok (.ireturn, 1) := by decide +kernel
theorem dX11_token_78 : decode cX11_token 78 = .ok (.aload_n 0, 1) := by decide +kernel
theorem dX11_token_79 : decode cX11_token 79 = .ok (.invokevirtual 285, 3) := by decide +kernel
theorem dX11_token_82 : decode cX11_token 82 = .ok (.ireturn, 1) := by decide +kernel
theorem dX11_outside_0 : decode cX11_outside 0 = .ok (.aload_n 0, 1) := by decide +kernel
theorem dX11_outside_1 : decode cX11_outside 1 = .ok (.iconst 0, 1) := by decide +kernel
theorem dX11_outside_2 : decode cX11_outside 2 = .ok (.putfield 288, 3) := by decide +kernel
theorem dX11_outside_5 : decode cX11_outside 5 = .ok (.aload_n 0, 1) := by decide +kernel
theorem dX11_outside_6 : decode cX11_outside 6 = .ok (.bipush 99, 2) := by decide +kernel
theorem dX11_outside_8 : decode cX11_outside 8 = .ok (.invokevirtual 216, 3) := by decide +kernel
theorem dX11_outside_11 : decode cX11_outside 11 = .ok (.ifCond .eq 21, 3) := by decide +kernel
theorem dX11_outside_14 : decode cX11_outside 14 = .ok (.aload_n 0, 1) := by decide +kernel
theorem dX11_outside_15 : decode cX11_outside 15 = .ok (.iconst 2, 1) := by decide +kernel
theorem dX11_outside_16 : decode cX11_outside 16 = .ok (.putfield 232, 3) := by decide +kernel
theorem dX11_outside_19 : decode cX11_outside 19 = .ok (.aload_n 0, 1) := by decide +kernel
theorem dX11_outside_20 : decode cX11_outside 20 = .ok (.getfield 229, 3) := by decide +kernel
theorem dX11_outside_23 : decode cX11_outside 23 = .ok (.ifCond .le 7, 3) := by decide +kernel
theorem dX11_outside_26 : decode cX11_outside 26 = .ok (.iconst 3, 1) := by decide +kernel
theorem dX11_outside_27 : decode cX11_outside 27 = .ok (.goto 4, 3) := by decide +kernel
theorem dX11_outside_30 : decode cX11_outside 30 = .ok (.iconst 0, 1) := by decide +kernel
theorem dX11_outside_31 : decode cX11_outside 31 = .ok (.ireturn, 1) := by decide +kernel
theorem dX11_outside_32 : decode cX11_outside 32 = .ok (.aload_n 0, 1) := by decide +kernel
theorem dX11_outside_33 : decode cX11_outside 33 = .ok (.bipush 118, 2) := by decide +kernel
theorem dX11_outside_35 : decode cX11_outside 35 = .ok (.invokevirtual 216, 3) := by decide +kernel
theorem dX11_outside_38 : decode cX11_outside 38 = .ok (.ifCond .ne 12, 3) := by decide +kernel
theorem dX11_outside_41 : decode cX11_outside 41 = .ok (.aload_n 0, 1) := by decide +kernel
theorem dX11_outside_42 : decode cX11_outside 42 = .ok (.bipush 100, 2) := by decide +kernel
theorem dX11_outside_44 : decode cX11_outside 44 = .ok (.invokevirtual 216, 3) := by decide +kernel
theorem dX11_outside_47 : decode cX11_outside 47 = .ok (.ifCond .eq 23, 3) := by decide +kernel
theorem dX11_outside_50 : decode cX11_outside 50 = .ok (.aload_n 0, 1) := by decide +kernel
theorem dX11_outside_51 : decode cX11_outside 51 = .ok (.aload_n 0, 1) := by decide +kernel
theorem dX11_outside_52 : decode cX11_outside 52 = .ok (.bipush 118, 2) := by decide +kernel
theorem dX11_outside_54 : decode cX11_outside 54 = .ok (.invokevirtual 216, 3) := by decide +kernel
theorem dX11_outside_57 : decode cX11_outside 57 = .ok (.ifCond .eq 7, 3) := by decide +kernel
theorem dX11_outside_60 : decode cX11_outside 60 = .ok (.iconst 3, 1) := by decide +kernel
theorem dX11_outside_61 : decode cX11_outside 61 = .ok (.goto 4, 3) := by decide +kernel
theorem dX11_outside_64 : decode cX11_outside 64 = .ok (.iconst 4, 1) := by decide +kernel
theorem dX11_outside_65 : decode cX11_outside 65 = .ok (.putfield 232, 3) := by decide +kernel
theorem dX11_outside_68 : decode cX11_outside 68 = .ok (.iconst 0, 1) := by decide +kernel
theorem dX11_outside_69 : decode cX11_outside 69 = .ok (.ireturn, 1) := by decide +kernel
theorem dX11_outside_70 : decode cX11_outside 70 = .ok (.aload_n 0, 1) := by decide +kernel
theorem dX11_outside_71 : decode cX11_outside 71 = .ok (.bipush 123, 2) := by decide +kernel
theorem dX11_outside_73 : decode cX11_outside 73 = .ok (.invokevirtual 216, 3) := by decide +kernel
theorem dX11_outside_76 : decode cX11_outside 76 = .ok (.ifCond .eq 29, 3) := by decide +kernel
theorem dX11_outside_79 : decode cX11_outside 79 = .ok (.aload_n 0, 1) := by decide +kernel
theorem dX11_outside_80 : decode cX11_outside 80 = .ok (.dup, 1) := by decide +kernel
theorem dX11_outside_81 : decode cX11_outside 81 = .ok (.getfield 229, 3) := by decide +kernel
theorem dX11_outside_84 : decode cX11_outside 84 = .ok (.iconst 1, 1) := by decide +kernel
theorem dX11_outside_85 : decode cX11_outside 85 = .ok (.iadd, 1) := by decide +kernel
theorem dX11_outside_86 : decode cX11_outside 86 = .ok (.putfield 229, 3) := by decide +kernel
theorem dX11_outside_89 : decode cX11_outside 89 = .ok (.aload_n 0, 1) := by decide +kernel
theorem dX11_outside_90 : decode cX11_outside 90 = .ok (.getfield 229, 3) := by decide +kernel
theorem dX11_outside_93 : decode cX11_outside 93 = .ok (.bipush 16, 2) := by decide +kernel
theorem dX11_outside_95 : decode cX11_outside 95 = .ok (.if_icmp .le 8, 3) := by decide +kernel
theorem dX11_outside_98 : decode cX11_outside 98 = .ok (.bipush 7, 2) := by decide +kernel
theorem dX11_outside_100 : decode cX11_outside 100 = .ok (.goto 4, 3) := by decide +kernel
theorem dX11_outside_103 : decode cX11_outside 103 = .ok (.iconst 0, 1) := by decide +kernel
theorem dX11_outside_104 : decode cX11_outside 104 = .ok (.ireturn, 1) := by decide +kernel
theorem dX11_outside_105 : decode cX11_outside 105 = .ok (.aload_n 0, 1) := by decide +kernel
theorem dX11_outside_106 : decode cX11_outside 106 = .ok (.bipush 125, 2) := by decide +kernel
theorem dX11_outside_108 : decode cX11_outside 108 = .ok (.invokevirtual 216, 3) := by decide +kernel
theorem dX11_outside_111 : decode cX11_outside 111 = .ok (.ifCond .eq 18, 3) := by decide +kernel
theorem dX11_outside_114 : decode cX11_outside 114 = .ok (.aload_n 0, 1) := by decide +kernel
theorem dX11_outside_115 : decode cX11_outside 115 = .ok (.getfield 229, 3) := by decide +kernel
theorem dX11_outside_118 : decode cX11_outside 118 = .ok (.ifCond .ne 5, 3) := by decide +kernel
theorem dX11_outside_121 : decode cX11_outside 121 = .ok (.iconst 3, 1) := by decide +kernel
theorem dX11_outside_122 : decode cX11_outside 122 = .ok (.ireturn, 1) := by decide +kernel
theorem dX11_outside_123 : decode cX11_outside 123 = .ok (.aload_n 0, 1) := by decide +kernel
theorem dX11_outside_124 : decode cX11_outside 124 = .ok (.invokevirtual 291, 3) := by decide +kernel
theorem dX11_outside_127 : decode cX11_outside 127 = .ok (.iconst 0, 1) := by decide +kernel
theorem dX11_outside_128 : decode cX11_outside 128 = .ok (.ireturn, 1) := by decide +kernel
theorem dX11_outside_129 : decode cX11_outside 129 = .ok (.aload_n 0, 1) := by decide +kernel
theorem dX11_outside_130 : decode cX11_outside 130 = .ok (.invokevirtual 257, 3) := by decide +kernel
theorem dX11_outside_133 : decode cX11_outside 133 = .ok (.ifCond .eq 5, 3) := by decide +kernel
theorem dX11_outside_136 : decode cX11_outside 136 = .ok (.iconst 3, 1) := by decide +kernel
theorem dX11_outside_137 : decode cX11_outside 137 = .ok (.ireturn, 1) := by decide +kernel
theorem dX11_outside_138 : decode cX11_outside 138 = .ok (.aload_n 0, 1) := by decide +kernel
theorem dX11_outside_139 : decode cX11_outside 139 = .ok (.getfield 53, 3) := by decide +kernel
theorem dX11_outside_142 : decode cX11_outside 142 = .ok (.aload_n 0, 1) := by decide +kernel
theorem dX11_outside_143 : decode cX11_outside 143 = .ok (.getfield 219, 3) := by decide +kernel
theorem dX11_outside_146 : decode cX11_outside 146 = .ok (.iaload, 1) := by decide +kernel
theorem dX11_outside_147 : decode cX11_outside 147 = .ok (.sipush 200, 3) := by decide +kernel
theorem dX11_outside_150 : decode cX11_outside 150 = .ok (.if_icmp .ne 6, 3) := by decide +kernel
theorem dX11_outside_153 : decode cX11_outside 153 = .ok (.bipush 7, 2) := by decide +kernel
theorem dX11_outside_155 : decode cX11_outside 155 = .ok (.ireturn, 1) := by decide +kernel
theorem dX11_outside_156 : decode cX11_outside 156 = .ok (.aload_n 0, 1) := by decide +kernel
theorem dX11_outside_157 : decode cX11_outside 157 = .ok (.invokevirtual 294, 3) := by decide +kernel
theorem dX11_outside_160 : decode cX11_outside 160 = .ok (.ifCond .eq 17, 3) := by decide +kernel
theorem dX11_outside_163 : decode cX11_outside 163 = .ok (.aload_n 0, 1) := by decide +kernel
theorem dX11_outside_164 : decode cX11_outside 164 = .ok (.invokevirtual 297, 3) := by decide +kernel
theorem dX11_outside_167 : decode cX11_outside 167 = .ok (.ifCond .ge 10, 3) := by decide +kernel
theorem dX11_outside_170 : decode cX11_outside 170 = .ok (.aload_n 0, 1) := by decide +kernel
theorem dX11_outside_171 : decode cX11_outside 171 = .ok (.invokevirtual 300, 3) := by decide +kernel
theorem dX11_outside_174 : decode cX11_outside 174 = .ok (.ifCond .lt 5, 3) := by decide +kernel
theorem dX11_outside_177 : decode cX11_outside 177 = .ok (.iconst 4, 1) := by decide +kernel
theorem dX11_outside_178 : decode cX11_outside 178 = .ok (.ireturn, 1) := by decide +kernel
theorem dX11_outside_179 : decode cX11_outside 179 = .ok (.sipush 200, 3) := by decide +kernel
theorem dX11_outside_182 : decode cX11_outside 182 = .ok (.aload_n 0, 1) := by decide +kernel
theorem dX11_outside_183 : decode cX11_outside 183 = .ok (.getfield 219, 3) := by decide +kernel
theorem dX11_outside_186 : decode cX11_outside 186 = .ok (.imul, 1) := by decide +kernel
theorem dX11_outside_187 : decode cX11_outside 187 = .ok (.aload_n 0, 1) := by decide +kernel
theorem dX11_outside_188 : decode cX11_outside 188 = .ok (.getfield 53, 3) := by decide +kernel
theorem dX11_outside_191 : decode cX11_outside 191 = .ok (.aload_n 0, 1) := by decide +kernel
theorem dX11_outside_192 : decode cX11_outside 192 = .ok (.getfield 219, 3) := by decide +kernel
theorem dX11_outside_195 : decode cX11_outside 195 = .ok (.iaload, 1) := by decide +kernel
theorem dX11_outside_196 : decode cX11_outside 196 = .ok (.iadd, 1) := by decide +kernel
theorem dX11_outside_197 : decode cX11_outside 197 = .ok (.istore_n 1, 1) := by decide +kernel
theorem dX11_outside_198 : decode cX11_outside 198 = .ok (.aload_n 0, 1) := by decide +kernel
theorem dX11_outside_199 : decode cX11_outside 199 = .ok (.getfield 32, 3) := by decide +kernel
theorem dX11_outside_202 : decode cX11_outside 202 = .ok (.iload_n 1, 1) := by decide +kernel
theorem dX11_outside_203 : decode cX11_outside 203 = .ok (.aload_n 0, 1) := by decide +kernel
theorem dX11_outside_204 : decode cX11_outside 204 = .ok (.getfield 210, 3) := by decide +kernel
theorem dX11_outside_207 : decode cX11_outside 207 = .ok (.iastore, 1) := by decide +kernel
theorem dX11_outside_208 : decode cX11_outside 208 = .ok (.aload_n 0, 1) := by decide +kernel
theorem dX11_outside_209 : decode cX11_outside 209 = .ok (.getfield 35, 3) := by decide +kernel
theorem dX11_outside_212 : decode cX11_outside 212 = .ok (.iload_n 1, 1) := by decide +kernel
theorem dX11_outside_213 : decode cX11_outside 213 = .ok (.aload_n 0, 1) := by decide +kernel
theorem dX11_outside_214 : decode cX11_outside 214 = .ok (.getfield 213, 3) := by decide +kernel
theorem dX11_outside_217 : decode cX11_outside 217 = .ok (.iastore, 1) := by decide +kernel
theorem dX11_outside_218 : decode cX11_outside 218 = .ok (.aload_n 0, 1) := by decide +kernel
theorem dX11_outside_219 : decode cX11_outside 219 = .ok (.iconst 1, 1) := by decide +kernel
theorem dX11_outside_220 : decode cX11_outside 220 = .ok (.putfield 232, 3) := by decide +kernel
theorem dX11_outside_223 : decode cX11_outside 223 = .ok (.iconst 0, 1) := by decide +kernel
theorem dX11_outside_224 : decode cX11_outside 224 = .ok (.ireturn, 1) := by decide +kernel
theorem dX11_closeBlock_0 : decode cX11_closeBlock 0 = .ok (.iconst 0, 1) := by decide +kernel
theorem dX11_closeBlock_1 : decode cX11_closeBlock 1 = .ok (.istore_n 1, 1) := by decide +kernel
theorem dX11_closeBlock_2 : decode cX11_closeBlock 2 = .ok (.iload_n 1, 1) := by decide +kernel
theorem dX11_closeBlock_3 : decode cX11_closeBlock 3 = .ok (.aload_n 0, 1) := by decide +kernel
theorem dX11_closeBlock_4 : decode cX11_closeBlock 4 = .ok (.getfield 26, 3) := by decide +kernel
theorem dX11_closeBlock_7 : decode cX11_closeBlock 7 = .ok (.aload_n 0, 1) := by decide +kernel
theorem dX11_closeBlock_8 : decode cX11_closeBlock 8 = .ok (.getfield 219, 3) := by decide +kernel
theorem dX11_closeBlock_11 : decode cX11_closeBlock 11 = .ok (.iaload, 1) := by decide +kernel
theorem dX11_closeBlock_12 : decode cX11_closeBlock 12 = .ok (.if_icmp .ge 38, 3) := by decide +kernel
theorem dX11_closeBlock_15 : decode cX11_closeBlock 15 = .ok (.aload_n 0, 1) := by decide +kernel
theorem dX11_closeBlock_16 : decode cX11_closeBlock 16 = .ok (.getfield 87, 3) := by decide +kernel
theorem dX11_closeBlock_19 : decode cX11_closeBlock 19 = .ok (.iload_n 1, 1) := by decide +kernel
theorem dX11_closeBlock_20 : decode cX11_closeBlock 20 = .ok (.aload_n 0, 1) := by decide +kernel
theorem dX11_closeBlock_21 : decode cX11_closeBlock 21 = .ok (.getfield 87, 3) := by decide +kernel
theorem dX11_closeBlock_24 : decode cX11_closeBlock 24 = .ok (.iload_n 1, 1) := by decide +kernel
theorem dX11_closeBlock_25 : decode cX11_closeBlock 25 = .ok (.iaload, 1) := by decide +kernel
theorem dX11_closeBlock_26 : decode cX11_closeBlock 26 = .ok (.aload_n 0, 1) := by decide +kernel
theorem dX11_closeBlock_27 : decode cX11_closeBlock 27 = .ok (.getfield 229, 3) := by decide +kernel
theorem dX11_closeBlock_30 : decode cX11_closeBlock 30 = .ok (.if_icmp .ne 7, 3) := by decide +kernel
theorem dX11_closeBlock_33 : decode cX11_closeBlock 33 = .ok (.iconst (-1), 1) := by decide +kernel
theorem dX11_closeBlock_34 : decode cX11_closeBlock 34 = .ok (.goto 9, 3) := by decide +kernel
theorem dX11_closeBlock_37 : decode cX11_closeBlock 37 = .ok (.aload_n 0, 1) := by decide +kernel
theorem dX11_closeBlock_38 : decode cX11_closeBlock 38 = .ok (.getfield 87, 3) := by decide +kernel
theorem dX11_closeBlock_41 : decode cX11_closeBlock 41 = .ok (.iload_n 1, 1) := by decide +kernel
theorem dX11_closeBlock_42 : decode cX11_closeBlock 42 = .ok (.iaload, 1) := by decide +kernel
theorem dX11_closeBlock_43 : decode cX11_closeBlock 43 = .ok (.iastore, 1) := by decide +kernel
theorem dX11_closeBlock_44 : decode cX11_closeBlock 44 = .ok (.iinc 1 1, 3) := by decide +kernel
theorem dX11_closeBlock_47 : decode cX11_closeBlock 47 = .ok (.goto (-45), 3) := by decide +kernel
theorem dX11_closeBlock_50 : decode cX11_closeBlock 50 = .ok (.iconst 0, 1) := by decide +kernel
theorem dX11_closeBlock_51 : decode cX11_closeBlock 51 = .ok (.istore_n 1, 1) := by decide +kernel
theorem dX11_closeBlock_52 : decode cX11_closeBlock 52 = .ok (.iload_n 1, 1) := by decide +kernel
theorem dX11_closeBlock_53 : decode cX11_closeBlock 53 = .ok (.aload_n 0, 1) := by decide +kernel
theorem dX11_closeBlock_54 : decode cX11_closeBlock 54 = .ok (.getfield 53, 3) := by decide +kernel
theorem dX11_closeBlock_57 : decode cX11_closeBlock 57 = .ok (.aload_n 0, 1) := by decide +kernel
theorem dX11_closeBlock_58 : decode cX11_closeBlock 58 = .ok (.getfield 219, 3) := by decide +kernel
theorem dX11_closeBlock_61 : decode cX11_closeBlock 61 = .ok (.iaload, 1) := by decide +kernel
theorem dX11_closeBlock_62 : decode cX11_closeBlock 62 = .ok (.if_icmp .ge 86, 3) := by decide +kernel
theorem dX11_closeBlock_65 : decode cX11_closeBlock 65 = .ok (.sipush 200, 3) := by decide +kernel
theorem dX11_closeBlock_68 : decode cX11_closeBlock 68 = .ok (.aload_n 0, 1) := by decide +kernel
theorem dX11_closeBlock_69 : decode cX11_closeBlock 69 = .ok (.getfield 219, 3) := by decide +kernel
theorem dX11_closeBlock_72 : decode cX11_closeBlock 72 = .ok (.imul, 1) := by decide +kernel
theorem dX11_closeBlock_73 : decode cX11_closeBlock 73 = .ok (.iload_n 1, 1) := by decide +kernel
theorem dX11_closeBlock_74 : decode cX11_closeBlock 74 = .ok (.iadd, 1) := by decide +kernel
theorem dX11_closeBlock_75 : decode cX11_closeBlock 75 = .ok (.istore_n 2, 1) := by decide +kernel
theorem dX11_closeBlock_76 : decode cX11_closeBlock 76 = .ok (.aload_n 0, 1) := by decide +kernel
theorem dX11_closeBlock_77 : decode cX11_closeBlock 77 = .ok (.getfield 93, 3) := by decide +kernel
theorem dX11_closeBlock_80 : decode cX11_closeBlock 80 = .ok (.iload_n 1, 1) := by decide +kernel
theorem dX11_closeBlock_81 : decode cX11_closeBlock 81 = .ok (.baload, 1) := by decide +kernel
theorem dX11_closeBlock_82 : decode cX11_closeBlock 82 = .ok (.ifCond .eq 60, 3) := by decide +kernel
theorem dX11_closeBlock_85 : decode cX11_closeBlock 85 = .ok (.aload_n 0, 1) := by decide +kernel
theorem dX11_closeBlock_86 : decode cX11_closeBlock 86 = .ok (.getfield 38, 3) := by decide +kernel
theorem dX11_closeBlock_89 : decode cX11_closeBlock 89 = .ok (.iload_n 2, 1) := by decide +kernel
theorem dX11_closeBlock_90 : decode cX11_closeBlock 90 = .ok (.iaload, 1) := by decide +kernel
theorem dX11_closeBlock_91 : decode cX11_closeBlock 91 = .ok (.aload_n 0, 1) := by decide +kernel
theorem dX11_closeBlock_92 : decode cX11_closeBlock 92 = .ok (.getfield 229, 3) := by decide +kernel
theorem dX11_closeBlock_95 : decode cX11_closeBlock 95 = .ok (.if_icmp .ne 47, 3) := by decide +kernel
theorem dX11_closeBlock_98 : decode cX11_closeBlock 98 = .ok (.aload_n 0, 1) := by decide +kernel
theorem dX11_closeBlock_99 : decode cX11_closeBlock 99 = .ok (.getfield 93, 3) := by decide +kernel
theorem dX11_closeBlock_102 : decode cX11_closeBlock 102 = .ok (.iload_n 1, 1) := by decide +kernel
theorem dX11_closeBlock_103 : decode cX11_closeBlock 103 = .ok (.iconst 0, 1) := by decide +kernel
theorem dX11_closeBlock_104 : decode cX11_closeBlock 104 = .ok (.bastore, 1) := by decide +kernel
theorem dX11_closeBlock_105 : decode cX11_closeBlock 105 = .ok (.aload_n 0, 1) := by decide +kernel
theorem dX11_closeBlock_106 : decode cX11_closeBlock 106 = .ok (.getfield 29, 3) := by decide +kernel
theorem dX11_closeBlock_109 : decode cX11_closeBlock 109 = .ok (.iload_n 2, 1) := by decide +kernel
theorem dX11_closeBlock_110 : decode cX11_closeBlock 110 = .ok (.iaload, 1) := by decide +kernel
theorem dX11_closeBlock_111 : decode cX11_closeBlock 111 = .ok (.ifCond .ne 31, 3) := by decide +kernel
theorem dX11_closeBlock_114 : decode cX11_closeBlock 114 = .ok (.aload_n 0, 1) := by decide +kernel
theorem dX11_closeBlock_115 : decode cX11_closeBlock 115 = .ok (.getfield 90, 3) := by decide +kernel
theorem dX11_closeBlock_118 : decode cX11_closeBlock 118 = .ok (.aload_n 0, 1) := by decide +kernel
theorem dX11_closeBlock_119 : decode cX11_closeBlock 119 = .ok (.getfield 56, 3) := by decide +kernel
theorem dX11_closeBlock_122 : decode cX11_closeBlock 122 = .ok (.sipush 4096, 3) := by decide +kernel
theorem dX11_closeBlock_125 : decode cX11_closeBlock 125 = .ok (.aload_n 0, 1) := by decide +kernel
theorem dX11_closeBlock_126 : decode cX11_closeBlock 126 = .ok (.getfield 219, 3) := by decide +kernel
theorem dX11_closeBlock_129 : decode cX11_closeBlock 129 = .ok (.imul, 1) := by decide +kernel
theorem dX11_closeBlock_130 : decode cX11_closeBlock 130 = .ok (.aload_n 0, 1) := by decide +kernel
theorem dX11_closeBlock_131 : decode cX11_closeBlock 131 = .ok (.getfield 41, 3) := by decide +kernel
theorem dX11_closeBlock_134 : decode cX11_closeBlock 134 = .ok (.iload_n 2, 1) := by decide +kernel
theorem dX11_closeBlock_135 : decode cX11_closeBlock 135 = .ok (.iaload, 1) := by decide +kernel
theorem dX11_closeBlock_136 : decode cX11_closeBlock 136 = .ok (.iadd, 1) := by decide +kernel
theorem dX11_closeBlock_137 : decode cX11_closeBlock 137 = .ok (.iconst 1, 1) := by decide +kernel
theorem dX11_closeBlock_138 : decode cX11_closeBlock 138 = .ok (.iadd, 1) := by decide +kernel
theorem dX11_closeBlock_139 : decode cX11_closeBlock 139 = .ok (.iaload, 1) := by decide +kernel
theorem dX11_closeBlock_140 : decode cX11_closeBlock 140 = .ok (.iconst (-1), 1) := by decide +kernel
theorem dX11_closeBlock_141 : decode cX11_closeBlock 141 = .ok (.iastore, 1) := by decide +kernel
theorem dX11_closeBlock_142 : decode cX11_closeBlock 142 = .ok (.iinc 1 1, 3) := by decide +kernel
theorem dX11_closeBlock_145 : decode cX11_closeBlock 145 = .ok (.goto (-93), 3) := by decide +kernel
theorem dX11_closeBlock_148 : decode cX11_closeBlock 148 = .ok (.aload_n 0, 1) := by decide +kernel
theorem dX11_closeBlock_149 : decode cX11_closeBlock 149 = .ok (.getfield 241, 3) := by decide +kernel
theorem dX11_closeBlock_152 : decode cX11_closeBlock 152 = .ok (.ifCond .le 57, 3) := by decide +kernel
theorem dX11_closeBlock_155 : decode cX11_closeBlock 155 = .ok (.aload_n 0, 1) := by decide +kernel
theorem dX11_closeBlock_156 : decode cX11_closeBlock 156 = .ok (.getfield 99, 3) := by decide +kernel
theorem dX11_closeBlock_159 : decode cX11_closeBlock 159 = .ok (.aload_n 0, 1) := by decide +kernel
theorem dX11_closeBlock_160 : decode cX11_closeBlock 160 = .ok (.getfield 241, 3) := by decide +kernel
theorem dX11_closeBlock_163 : decode cX11_closeBlock 163 = .ok (.iconst 1, 1) := by decide +kernel
theorem dX11_closeBlock_164 : decode cX11_closeBlock 164 = .ok (.isub, 1) := by decide +kernel
theorem dX11_closeBlock_165 : decode cX11_closeBlock 165 = .ok (.iaload, 1) := by decide +kernel
theorem dX11_closeBlock_166 : decode cX11_closeBlock 166 = .ok (.aload_n 0, 1) := by decide +kernel
theorem dX11_closeBlock_167 : decode cX11_closeBlock 167 = .ok (.getfield 229, 3) := by decide +kernel
theorem dX11_closeBlock_170 : decode cX11_closeBlock 170 = .ok (.if_icmp .ne 39, 3) := by decide +kernel
theorem dX11_closeBlock_173 : decode cX11_closeBlock 173 = .ok (.aload_n 0, 1) := by decide +kernel
theorem dX11_closeBlock_174 : decode cX11_closeBlock 174 = .ok (.dup, 1) := by decide +kernel
theorem dX11_closeBlock_175 : decode cX11_closeBlock 175 = .ok (.getfield 241, 3) := by decide +kernel
theorem dX11_closeBlock_178 : decode cX11_closeBlock 178 = .ok (.iconst 1, 1) := by decide +kernel
theorem dX11_closeBlock_179 : decode cX11_closeBlock 179 = .ok (.isub, 1) := by decide +kernel
theorem dX11_closeBlock_180 : decode cX11_closeBlock 180 = .ok (.putfield 241, 3) := by decide +kernel
theorem dX11_closeBlock_183 : decode cX11_closeBlock 183 = .ok (.aload_n 0, 1) := by decide +kernel
theorem dX11_closeBlock_184 : decode cX11_closeBlock 184 = .ok (.getfield 81, 3) := by decide +kernel
theorem dX11_closeBlock_187 : decode cX11_closeBlock 187 = .ok (.aload_n 0, 1) := by decide +kernel
theorem dX11_closeBlock_188 : decode cX11_closeBlock 188 = .ok (.getfield 96, 3) := by decide +kernel
theorem dX11_closeBlock_191 : decode cX11_closeBlock 191 = .ok (.aload_n 0, 1) := by decide +kernel
theorem dX11_closeBlock_192 : decode cX11_closeBlock 192 = .ok (.getfield 241, 3) := by decide +kernel
theorem dX11_closeBlock_195 : decode cX11_closeBlock 195 = .ok (.iaload, 1) := by decide +kernel
theorem dX11_closeBlock_196 : decode cX11_closeBlock 196 = .ok (.aload_n 0, 1) := by decide +kernel
theorem dX11_closeBlock_197 : decode cX11_closeBlock 197 = .ok (.getfield 53, 3) := by decide +kernel
theorem dX11_closeBlock_200 : decode cX11_closeBlock 200 = .ok (.aload_n 0, 1) := by decide +kernel
theorem dX11_closeBlock_201 : decode cX11_closeBlock 201 = .ok (.getfield 219, 3) := by decide +kernel
theorem dX11_closeBlock_204 : decode cX11_closeBlock 204 = .ok (.iaload, 1) := by decide +kernel
theorem dX11_closeBlock_205 : decode cX11_closeBlock 205 = .ok (.iastore, 1) := by decide +kernel
theorem dX11_closeBlock_206 : decode cX11_closeBlock 206 = .ok (.goto (-58), 3) := by decide +kernel
theorem dX11_closeBlock_209 : decode cX11_closeBlock 209 = .ok (.aload_n 0, 1) := by decide +kernel
theorem dX11_closeBlock_210 : decode cX11_closeBlock 210 = .ok (.dup, 1) := by decide +kernel
theorem dX11_closeBlock_211 : decode cX11_closeBlock 211 = .ok (.getfield 229, 3) := by decide +kernel
theorem dX11_closeBlock_214 : decode cX11_closeBlock 214 = .ok (.iconst 1, 1) := by decide +kernel
theorem dX11_closeBlock_215 : decode cX11_closeBlock 215 = .ok (.isub, 1) := by decide +kernel
theorem dX11_closeBlock_216 : decode cX11_closeBlock 216 = .ok (.putfield 229, 3) := by decide +kernel
theorem dX11_closeBlock_219 : decode cX11_closeBlock 219 = .ok (.return_, 1) := by decide +kernel
theorem dX11_kindOf_0 : decode cX11_kindOf 0 = .ok (.aload_n 0, 1) := by decide +kernel
theorem dX11_kindOf_1 : decode cX11_kindOf 1 = .ok (.bipush 102, 2) := by decide +kernel
theorem dX11_kindOf_3 : decode cX11_kindOf 3 = .ok (.invokevirtual 216, 3) := by decide +kernel
theorem dX11_kindOf_6 : decode cX11_kindOf 6 = .ok (.ifCond .eq 7, 3) := by decide +kernel
theorem dX11_kindOf_9 : decode cX11_kindOf 9 = .ok (.iconst 0, 1) := by decide +kernel
theorem dX11_kindOf_10 : decode cX11_kindOf 10 = .ok (.goto 43, 3) := by decide +kernel
theorem dX11_kindOf_13 : decode cX11_kindOf 13 = .ok (.aload_n 0, 1) := by decide +kernel
theorem dX11_kindOf_14 : decode cX11_kindOf 14 = .ok (.bipush 101, 2) := by decide +kernel
theorem dX11_kindOf_16 : decode cX11_kindOf 16 = .ok (.invokevirtual 216, 3) := by decide +kernel
theorem dX11_kindOf_19 : decode cX11_kindOf 19 = .ok (.ifCond .eq 7, 3) := by decide +kernel
theorem dX11_kindOf_22 : decode cX11_kindOf 22 = .ok (.iconst 1, 1) := by decide +kernel
theorem dX11_kindOf_23 : decode cX11_kindOf 23 = .ok (.goto 30, 3) := by decide +kernel
theorem dX11_kindOf_26 : decode cX11_kindOf 26 = .ok (.aload_n 0, 1) := by decide +kernel
theorem dX11_kindOf_27 : decode cX11_kindOf 27 = .ok (.bipush 97, 2) := by decide +kernel
theorem dX11_kindOf_29 : decode cX11_kindOf 29 = .ok (.invokevirtual 216, 3) := by decide +kernel
theorem dX11_kindOf_32 : decode cX11_kindOf 32 = .ok (.ifCond .eq 7, 3) := by decide +kernel
theorem dX11_kindOf_35 : decode cX11_kindOf 35 = .ok (.iconst 2, 1) := by decide +kernel
theorem dX11_kindOf_36 : decode cX11_kindOf 36 = .ok (.goto 17, 3) := by decide +kernel
theorem dX11_kindOf_39 : decode cX11_kindOf 39 = .ok (.aload_n 0, 1) := by decide +kernel
theorem dX11_kindOf_40 : decode cX11_kindOf 40 = .ok (.bipush 112, 2) := by decide +kernel
theorem dX11_kindOf_42 : decode cX11_kindOf 42 = .ok (.invokevirtual 216, 3) := by decide +kernel
theorem dX11_kindOf_45 : decode cX11_kindOf 45 = .ok (.ifCond .eq 7, 3) := by decide +kernel
theorem dX11_kindOf_48 : decode cX11_kindOf 48 = .ok (.iconst 3, 1) := by decide +kernel
theorem dX11_kindOf_49 : decode cX11_kindOf 49 = .ok (.goto 4, 3) := by decide +kernel
theorem dX11_kindOf_52 : decode cX11_kindOf 52 = .ok (.iconst (-1), 1) := by decide +kernel
theorem dX11_kindOf_53 : decode cX11_kindOf 53 = .ok (.istore_n 1, 1) := by decide +kernel
theorem dX11_kindOf_54 : decode cX11_kindOf 54 = .ok (.iload_n 1, 1) := by decide +kernel
theorem dX11_kindOf_55 : decode cX11_kindOf 55 = .ok (.ifCond .ge 5, 3) := by decide +kernel
theorem dX11_kindOf_58 : decode cX11_kindOf 58 = .ok (.iconst 3, 1) := by decide +kernel
theorem dX11_kindOf_59 : decode cX11_kindOf 59 = .ok (.ireturn, 1) := by decide +kernel
theorem dX11_kindOf_60 : decode cX11_kindOf 60 = .ok (.sipush 200, 3) := by decide +kernel
theorem dX11_kindOf_63 : decode cX11_kindOf 63 = .ok (.aload_n 0, 1) := by decide +kernel
theorem dX11_kindOf_64 : decode cX11_kindOf 64 = .ok (.getfield 219, 3) := by decide +kernel
theorem dX11_kindOf_67 : decode cX11_kindOf 67 = .ok (.imul, 1) := by decide +kernel
theorem dX11_kindOf_68 : decode cX11_kindOf 68 = .ok (.aload_n 0, 1) := by decide +kernel
theorem dX11_kindOf_69 : decode cX11_kindOf 69 = .ok (.getfield 53, 3) := by decide +kernel
theorem dX11_kindOf_72 : decode cX11_kindOf 72 = .ok (.aload_n 0, 1) := by decide +kernel
theorem dX11_kindOf_73 : decode cX11_kindOf 73 = .ok (.getfield 219, 3) := by decide +kernel
theorem dX11_kindOf_76 : decode cX11_kindOf 76 = .ok (.iaload, 1) := by decide +kernel
theorem dX11_kindOf_77 : decode cX11_kindOf 77 = .ok (.iadd, 1) := by decide +kernel
theorem dX11_kindOf_78 : decode cX11_kindOf 78 = .ok (.istore_n 2, 1) := by decide +kernel
theorem dX11_kindOf_79 : decode cX11_kindOf 79 = .ok (.aload_n 0, 1) := by decide +kernel
theorem dX11_kindOf_80 : decode cX11_kindOf 80 = .ok (.getfield 29, 3) := by decide +kernel
theorem dX11_kindOf_83 : decode cX11_kindOf 83 = .ok (.iload_n 2, 1) := by decide +kernel
theorem dX11_kindOf_84 : decode cX11_kindOf 84 = .ok (.iload_n 1, 1) := by decide +kernel
theorem dX11_kindOf_85 : decode cX11_kindOf 85 = .ok (.iastore, 1) := by decide +kernel
theorem dX11_kindOf_86 : decode cX11_kindOf 86 = .ok (.aload_n 0, 1) := by decide +kernel
theorem dX11_kindOf_87 : decode cX11_kindOf 87 = .ok (.getfield 38, 3) := by decide +kernel
theorem dX11_kindOf_90 : decode cX11_kindOf 90 = .ok (.iload_n 2, 1) := by decide +kernel
theorem dX11_kindOf_91 : decode cX11_kindOf 91 = .ok (.aload_n 0, 1) := by decide +kernel
theorem dX11_kindOf_92 : decode cX11_kindOf 92 = .ok (.getfield 229, 3) := by decide +kernel
theorem dX11_kindOf_95 : decode cX11_kindOf 95 = .ok (.iastore, 1) := by decide +kernel
theorem dX11_kindOf_96 : decode cX11_kindOf 96 = .ok (.aload_n 0, 1) := by decide +kernel
theorem dX11_kindOf_97 : decode cX11_kindOf 97 = .ok (.getfield 41, 3) := by decide +kernel
theorem dX11_kindOf_100 : decode cX11_kindOf 100 = .ok (.iload_n 2, 1) := by decide +kernel
theorem dX11_kindOf_101 : decode cX11_kindOf 101 = .ok (.aload_n 0, 1) := by decide +kernel
theorem dX11_kindOf_102 : decode cX11_kindOf 102 = .ok (.getfield 235, 3) := by decide +kernel
theorem dX11_kindOf_105 : decode cX11_kindOf 105 = .ok (.iastore, 1) := by decide +kernel
theorem dX11_kindOf_106 : decode cX11_kindOf 106 = .ok (.aload_n 0, 1) := by decide +kernel
theorem dX11_kindOf_107 : decode cX11_kindOf 107 = .ok (.getfield 44, 3) := by decide +kernel
theorem dX11_kindOf_110 : decode cX11_kindOf 110 = .ok (.iload_n 2, 1) := by decide +kernel
theorem dX11_kindOf_111 : decode cX11_kindOf 111 = .ok (.iconst 0, 1) := by decide +kernel
theorem dX11_kindOf_112 : decode cX11_kindOf 112 = .ok (.iastore, 1) := by decide +kernel
theorem dX11_kindOf_113 : decode cX11_kindOf 113 = .ok (.aload_n 0, 1) := by decide +kernel
theorem dX11_kindOf_114 : decode cX11_kindOf 114 = .ok (.getfield 47, 3) := by decide +kernel
theorem dX11_kindOf_117 : decode cX11_kindOf 117 = .ok (.iload_n 2, 1) := by decide +kernel
theorem dX11_kindOf_118 : decode cX11_kindOf 118 = .ok (.aload_n 0, 1) := by decide +kernel
theorem dX11_kindOf_119 : decode cX11_kindOf 119 = .ok (.getfield 238, 3) := by decide +kernel
theorem dX11_kindOf_122 : decode cX11_kindOf 122 = .ok (.iastore, 1) := by decide +kernel
theorem dX11_kindOf_123 : decode cX11_kindOf 123 = .ok (.aload_n 0, 1) := by decide +kernel
theorem dX11_kindOf_124 : decode cX11_kindOf 124 = .ok (.getfield 50, 3) := by decide +kernel
theorem dX11_kindOf_127 : decode cX11_kindOf 127 = .ok (.iload_n 2, 1) := by decide +kernel
theorem dX11_kindOf_128 : decode cX11_kindOf 128 = .ok (.iconst 0, 1) := by decide +kernel
theorem dX11_kindOf_129 : decode cX11_kindOf 129 = .ok (.iastore, 1) := by decide +kernel
theorem dX11_kindOf_130 : decode cX11_kindOf 130 = .ok (.aload_n 0, 1) := by decide +kernel
theorem dX11_kindOf_131 : decode cX11_kindOf 131 = .ok (.iload_n 1, 1) := by decide +kernel
theorem dX11_kindOf_132 : decode cX11_kindOf 132 = .ok (.ifCond .ne 7, 3) := by decide +kernel
theorem dX11_kindOf_135 : decode cX11_kindOf 135 = .ok (.iconst 5, 1) := by decide +kernel
theorem dX11_kindOf_136 : decode cX11_kindOf 136 = .ok (.goto 5, 3) := by decide +kernel
theorem dX11_kindOf_139 : decode cX11_kindOf 139 = .ok (.bipush 6, 2) := by decide +kernel
theorem dX11_kindOf_141 : decode cX11_kindOf 141 = .ok (.putfield 232, 3) := by decide +kernel
theorem dX11_kindOf_144 : decode cX11_kindOf 144 = .ok (.iconst 0, 1) := by decide +kernel
theorem dX11_kindOf_145 : decode cX11_kindOf 145 = .ok (.ireturn, 1) := by decide +kernel
theorem dX11_declared_0 : decode cX11_declared 0 = .ok (.aload_n 0, 1) := by decide +kernel
theorem dX11_declared_1 : decode cX11_declared 1 = .ok (.bipush 46, 2) := by decide +kernel
theorem dX11_declared_3 : decode cX11_declared 3 = .ok (.invokevirtual 216, 3) := by decide +kernel
theorem dX11_declared_6 : decode cX11_declared 6 = .ok (.ifCond .eq 17, 3) := by decide +kernel
theorem dX11_declared_9 : decode cX11_declared 9 = .ok (.aload_n 0, 1) := by decide +kernel
theorem dX11_declared_10 : decode cX11_declared 10 = .ok (.getfield 288, 3) := by decide +kernel
theorem dX11_declared_13 : decode cX11_declared 13 = .ok (.ifCond .le 10, 3) := by decide +kernel
theorem dX11_declared_16 : decode cX11_declared 16 = .ok (.aload_n 0, 1) := by decide +kernel
theorem dX11_declared_17 : decode cX11_declared 17 = .ok (.iconst 0, 1) := by decide +kernel
theorem dX11_declared_18 : decode cX11_declared 18 = .ok (.putfield 232, 3) := by decide +kernel
theorem dX11_declared_21 : decode cX11_declared 21 = .ok (.iconst 0, 1) := by decide +kernel
theorem dX11_declared_22 : decode cX11_declared 22 = .ok (.ireturn, 1) := by decide +kernel
theorem dX11_declared_23 : decode cX11_declared 23 = .ok (.aload_n 0, 1) := by decide +kernel
theorem dX11_declared_24 : decode cX11_declared 24 = .ok (.invokevirtual 257, 3) := by decide +kernel
theorem dX11_declared_27 : decode cX11_declared 27 = .ok (.ifCond .eq 5, 3) := by decide +kernel
theorem dX11_declared_30 : decode cX11_declared 30 = .ok (.iconst 3, 1) := by decide +kernel
theorem dX11_declared_31 : decode cX11_declared 31 = .ok (.ireturn, 1) := by decide +kernel
theorem dX11_declared_32 : decode cX11_declared 32 = .ok (.aload_n 0, 1) := by decide +kernel
theorem dX11_declared_33 : decode cX11_declared 33 = .ok (.invokevirtual 300, 3) := by decide +kernel
theorem dX11_declared_36 : decode cX11_declared 36 = .ok (.istore_n 1, 1) := by decide +kernel
theorem dX11_declared_37 : decode cX11_declared 37 = .ok (.iload_n 1, 1) := by decide +kernel
theorem dX11_declared_38 : decode cX11_declared 38 = .ok (.ifCond .ge 21, 3) := by decide +kernel
theorem dX11_declared_41 : decode cX11_declared 41 = .ok (.aload_n 0, 1) := by decide +kernel
theorem dX11_declared_42 : decode cX11_declared 42 = .ok (.getfield 26, 3) := by decide +kernel
theorem dX11_declared_45 : decode cX11_declared 45 = .ok (.aload_n 0, 1) := by decide +kernel
theorem dX11_declared_46 : decode cX11_declared 46 = .ok (.getfield 219, 3) := by decide +kernel
theorem dX11_declared_49 : decode cX11_declared 49 = .ok (.iaload, 1) := by decide +kernel
theorem dX11_declared_50 : decode cX11_declared 50 = .ok (.sipush 300, 3) := by decide +kernel
theorem dX11_declared_53 : decode cX11_declared 53 = .ok (.if_icmp .ne 6, 3) := by decide +kernel
theorem dX11_declared_56 : decode cX11_declared 56 = .ok (.bipush 7, 2) := by decide +kernel
theorem dX11_declared_58 : decode cX11_declared 58 = .ok (.ireturn, 1) := by decide +kernel
theorem dX11_declared_59 : decode cX11_declared 59 = .ok (.iload_n 1, 1) := by decide +kernel
theorem dX11_declared_60 : decode cX11_declared 60 = .ok (.ifCond .lt 25, 3) := by decide +kernel
theorem dX11_declared_63 : decode cX11_declared 63 = .ok (.aload_n 0, 1) := by decide +kernel
theorem dX11_declared_64 : decode cX11_declared 64 = .ok (.getfield 22, 3) := by decide +kernel
theorem dX11_declared_67 : decode cX11_declared 67 = .ok (.sipush 300, 3) := by decide +kernel
theorem dX11_declared_70 : decode cX11_declared 70 = .ok (.aload_n 0, 1) := by decide +kernel
theorem dX11_declared_71 : decode cX11_declared 71 = .ok (.getfield 219, 3) := by decide +kernel
theorem dX11_declared_74 : decode cX11_declared 74 = .ok (.imul, 1) := by decide +kernel
theorem dX11_declared_75 : decode cX11_declared 75 = .ok (.iload_n 1, 1) := by decide +kernel
theorem dX11_declared_76 : decode cX11_declared 76 = .ok (.iadd, 1) := by decide +kernel
theorem dX11_declared_77 : decode cX11_declared 77 = .ok (.baload, 1) := by decide +kernel
theorem dX11_declared_78 : decode cX11_declared 78 = .ok (.ifCond .ne 7, 3) := by decide +kernel
theorem dX11_declared_81 : decode cX11_declared 81 = .ok (.iconst 1, 1) := by decide +kernel
theorem dX11_declared_82 : decode cX11_declared 82 = .ok (.goto 4, 3) := by decide +kernel
theorem dX11_declared_85 : decode cX11_declared 85 = .ok (.iconst 0, 1) := by decide +kernel
theorem dX11_declared_86 : decode cX11_declared 86 = .ok (.istore_n 2, 1) := by decide +kernel
theorem dX11_declared_87 : decode cX11_declared 87 = .ok (.aload_n 0, 1) := by decide +kernel
theorem dX11_declared_88 : decode cX11_declared 88 = .ok (.getfield 232, 3) := by decide +kernel
theorem dX11_declared_91 : decode cX11_declared 91 = .ok (.iconst 2, 1) := by decide +kernel
theorem dX11_declared_92 : decode cX11_declared 92 = .ok (.if_icmp .ne 15, 3) := by decide +kernel
theorem dX11_declared_95 : decode cX11_declared 95 = .ok (.iload_n 1, 1) := by decide +kernel
theorem dX11_declared_96 : decode cX11_declared 96 = .ok (.ifCond .lt 7, 3) := by decide +kernel
theorem dX11_declared_99 : decode cX11_declared 99 = .ok (.iconst 1, 1) := by decide +kernel
theorem dX11_declared_100 : decode cX11_declared 100 = .ok (.goto 25, 3) := by decide +kernel
theorem dX11_declared_103 : decode cX11_declared 103 = .ok (.iconst 0, 1) := by decide +kernel
theorem dX11_declared_104 : decode cX11_declared 104 = .ok (.goto 21, 3) := by decide +kernel
theorem dX11_declared_107 : decode cX11_declared 107 = .ok (.iload_n 1, 1) := by decide +kernel
theorem dX11_declared_108 : decode cX11_declared 108 = .ok (.ifCond .lt 16, 3) := by decide +kernel
theorem dX11_declared_111 : decode cX11_declared 111 = .ok (.aload_n 0, 1) := by decide +kernel
theorem dX11_declared_112 : decode cX11_declared 112 = .ok (.getfield 87, 3) := by decide +kernel
theorem dX11_declared_115 : decode cX11_declared 115 = .ok (.iload_n 1, 1) := by decide +kernel
theorem dX11_declared_116 : decode cX11_declared 116 = .ok (.iaload, 1) := by decide +kernel
theorem dX11_declared_117 : decode cX11_declared 117 = .ok (.ifCond .lt 7, 3) := by decide +kernel
theorem dX11_declared_120 : decode cX11_declared 120 = .ok (.iconst 1, 1) := by decide +kernel
theorem dX11_declared_121 : decode cX11_declared 121 = .ok (.goto 4, 3) := by decide +kernel
theorem dX11_declared_124 : decode cX11_declared 124 = .ok (.iconst 0, 1) := by decide +kernel
theorem dX11_declared_125 : decode cX11_declared 125 = .ok (.istore_n 3, 1) := by decide +kernel
theorem dX11_declared_126 : decode cX11_declared 126 = .ok (.iload_n 2, 1) := by decide +kernel
theorem dX11_declared_127 : decode cX11_declared 127 = .ok (.ifCond .ne 14, 3) := by decide +kernel
theorem dX11_declared_130 : decode cX11_declared 130 = .ok (.iload_n 3, 1) := by decide +kernel
theorem dX11_declared_131 : decode cX11_declared 131 = .ok (.ifCond .ne 10, 3) := by decide +kernel
theorem dX11_declared_134 : decode cX11_declared 134 = .ok (.aload_n 0, 1) := by decide +kernel
theorem dX11_declared_135 : decode cX11_declared 135 = .ok (.invokevirtual 297, 3) := by decide +kernel
theorem dX11_declared_138 : decode cX11_declared 138 = .ok (.ifCond .lt 5, 3) := by decide +kernel
theorem dX11_declared_141 : decode cX11_declared 141 = .ok (.iconst 5, 1) := by decide +kernel
theorem dX11_declared_142 : decode cX11_declared 142 = .ok (.ireturn, 1) := by decide +kernel
theorem dX11_declared_143 : decode cX11_declared 143 = .ok (.iload_n 1, 1) := by decide +kernel
theorem dX11_declared_144 : decode cX11_declared 144 = .ok (.ifCond .ge 92, 3) := by decide +kernel
theorem dX11_declared_147 : decode cX11_declared 147 = .ok (.aload_n 0, 1) := by decide +kernel
theorem dX11_declared_148 : decode cX11_declared 148 = .ok (.getfield 26, 3) := by decide +kernel
theorem dX11_declared_151 : decode cX11_declared 151 = .ok (.aload_n 0, 1) := by decide +kernel
theorem dX11_declared_152 : decode cX11_declared 152 = .ok (.getfield 219, 3) := by decide +kernel
theorem dX11_declared_155 : decode cX11_declared 155 = .ok (.iaload, 1) := by decide +kernel
theorem dX11_declared_156 : decode cX11_declared 156 = .ok (.istore_n 1, 1) := by decide +kernel
theorem dX11_declared_157 : decode cX11_declared 157 = .ok (.aload_n 0, 1) := by decide +kernel
theorem dX11_declared_158 : decode cX11_declared 158 = .ok (.getfield 16, 3) := by decide +kernel
theorem dX11_declared_161 : decode cX11_declared 161 = .ok (.sipush 300, 3) := by decide +kernel
theorem dX11_declared_164 : decode cX11_declared 164 = .ok (.aload_n 0, 1) := by decide +kernel
theorem dX11_declared_165 : decode cX11_declared 165 = .ok (.getfield 219, 3) := by decide +kernel
theorem dX11_declared_168 : decode cX11_declared 168 = .ok (.imul, 1) := by decide +kernel
theorem dX11_declared_169 : decode cX11_declared 169 = .ok (.iload_n 1, 1) := by decide +kernel
theorem dX11_declared_170 : decode cX11_declared 170 = .ok (.iadd, 1) := by decide +kernel
theorem dX11_declared_171 : decode cX11_declared 171 = .ok (.aload_n 0, 1) := by decide +kernel
theorem dX11_declared_172 : decode cX11_declared 172 = .ok (.getfield 210, 3) := by decide +kernel
theorem dX11_declared_175 : decode cX11_declared 175 = .ok (.iastore, 1) := by decide +kernel
theorem dX11_declared_176 : decode cX11_declared 176 = .ok (.aload_n 0, 1) := by decide +kernel
theorem dX11_declared_177 : decode cX11_declared 177 = .ok (.getfield 19, 3) := by decide +kernel
theorem dX11_declared_180 : decode cX11_declared 180 = .ok (.sipush 300, 3) := by decide +kernel
theorem dX11_declared_183 : decode cX11_declared 183 = .ok (.aload_n 0, 1) := by decide +kernel
theorem dX11_declared_184 : decode cX11_declared 184 = .ok (.getfield 219, 3) := by decide +kernel
theorem dX11_declared_187 : decode cX11_declared 187 = .ok (.imul, 1) := by decide +kernel
theorem dX11_declared_188 : decode cX11_declared 188 = .ok (.iload_n 1, 1) := by decide +kernel
theorem dX11_declared_189 : decode cX11_declared 189 = .ok (.iadd, 1) := by decide +kernel
theorem dX11_declared_190 : decode cX11_declared 190 = .ok (.aload_n 0, 1) := by decide +kernel
theorem dX11_declared_191 : decode cX11_declared 191 = .ok (.getfield 213, 3) := by decide +kernel
theorem dX11_declared_194 : decode cX11_declared 194 = .ok (.iastore, 1) := by decide +kernel
theorem dX11_declared_195 : decode cX11_declared 195 = .ok (.aload_n 0, 1) := by decide +kernel
theorem dX11_declared_196 : decode cX11_declared 196 = .ok (.getfield 22, 3) := by decide +kernel
theorem dX11_declared_199 : decode cX11_declared 199 = .ok (.sipush 300, 3) := by decide +kernel
theorem dX11_declared_202 : decode cX11_declared 202 = .ok (.aload_n 0, 1) := by decide +kernel
theorem dX11_declared_203 : decode cX11_declared 203 = .ok (.getfield 219, 3) := by decide +kernel
theorem dX11_declared_206 : decode cX11_declared 206 = .ok (.imul, 1) := by decide +kernel
theorem dX11_declared_207 : decode cX11_declared 207 = .ok (.iload_n 1, 1) := by decide +kernel
theorem dX11_declared_208 : decode cX11_declared 208 = .ok (.iadd, 1) := by decide +kernel
theorem dX11_declared_209 : decode cX11_declared 209 = .ok (.aload_n 0, 1) := by decide +kernel
theorem dX11_declared_210 : decode cX11_declared 210 = .ok (.getfield 232, 3) := by decide +kernel
theorem dX11_declared_213 : decode cX11_declared 213 = .ok (.iconst 3, 1) := by decide +kernel
theorem dX11_declared_214 : decode cX11_declared 214 = .ok (.if_icmp .ne 7, 3) := by decide +kernel
theorem dX11_declared_217 : decode cX11_declared 217 = .ok (.iconst 1, 1) := by decide +kernel
theorem dX11_declared_218 : decode cX11_declared 218 = .ok (.goto 4, 3) := by decide +kernel
theorem dX11_declared_221 : decode cX11_declared 221 = .ok (.iconst 0, 1) := by decide +kernel
theorem dX11_declared_222 : decode cX11_declared 222 = .ok (.bastore, 1) := by decide +kernel
theorem dX11_declared_223 : decode cX11_declared 223 = .ok (.aload_n 0, 1) := by decide +kernel
theorem dX11_declared_224 : decode cX11_declared 224 = .ok (.getfield 26, 3) := by decide +kernel
theorem dX11_declared_227 : decode cX11_declared 227 = .ok (.aload_n 0, 1) := by decide +kernel
theorem dX11_declared_228 : decode cX11_declared 228 = .ok (.getfield 219, 3) := by decide +kernel
theorem dX11_declared_231 : decode cX11_declared 231 = .ok (.dup2, 1) := by decide +kernel
theorem dX11_declared_232 : decode cX11_declared 232 = .ok (.iaload, 1) := by decide +kernel
theorem dX11_declared_233 : decode cX11_declared 233 = .ok (.iconst 1, 1) := by decide +kernel
theorem dX11_declared_234 : decode cX11_declared 234 = .ok (.iadd, 1) := by decide +kernel
theorem dX11_declared_235 : decode cX11_declared 235 = .ok (.iastore, 1) := by decide +kernel
theorem dX11_declared_236 : decode cX11_declared 236 = .ok (.aload_n 0, 1) := by decide +kernel
theorem dX11_declared_237 : decode cX11_declared 237 = .ok (.getfield 232, 3) := by decide +kernel
theorem dX11_declared_240 : decode cX11_declared 240 = .ok (.iconst 3, 1) := by decide +kernel
theorem dX11_declared_241 : decode cX11_declared 241 = .ok (.if_icmp .ne 13, 3) := by decide +kernel
theorem dX11_declared_244 : decode cX11_declared 244 = .ok (.aload_n 0, 1) := by decide +kernel
theorem dX11_declared_245 : decode cX11_declared 245 = .ok (.getfield 87, 3) := by decide +kernel
theorem dX11_declared_248 : decode cX11_declared 248 = .ok (.iload_n 1, 1) := by decide +kernel
theorem dX11_declared_249 : decode cX11_declared 249 = .ok (.aload_n 0, 1) := by decide +kernel
theorem dX11_declared_250 : decode cX11_declared 250 = .ok (.getfield 229, 3) := by decide +kernel
theorem dX11_declared_253 : decode cX11_declared 253 = .ok (.iastore, 1) := by decide +kernel
theorem dX11_declared_254 : decode cX11_declared 254 = .ok (.aload_n 0, 1) := by decide +kernel
theorem dX11_declared_255 : decode cX11_declared 255 = .ok (.dup, 1) := by decide +kernel
theorem dX11_declared_256 : decode cX11_declared 256 = .ok (.getfield 288, 3) := by decide +kernel
theorem dX11_declared_259 : decode cX11_declared 259 = .ok (.iconst 1, 1) := by decide +kernel
theorem dX11_declared_260 : decode cX11_declared 260 = .ok (.iadd, 1) := by decide +kernel
theorem dX11_declared_261 : decode cX11_declared 261 = .ok (.putfield 288, 3) := by decide +kernel
theorem dX11_declared_264 : decode cX11_declared 264 = .ok (.iconst 0, 1) := by decide +kernel
theorem dX11_declared_265 : decode cX11_declared 265 = .ok (.ireturn, 1) := by decide +kernel
theorem dX11_distinct_0 : decode cX11_distinct 0 = .ok (.aload_n 0, 1) := by decide +kernel
theorem dX11_distinct_1 : decode cX11_distinct 1 = .ok (.bipush 46, 2) := by decide +kernel
theorem dX11_distinct_3 : decode cX11_distinct 3 = .ok (.invokevirtual 216, 3) := by decide +kernel
theorem dX11_distinct_6 : decode cX11_distinct 6 = .ok (.ifCond .eq 18, 3) := by decide +kernel
theorem dX11_distinct_9 : decode cX11_distinct 9 = .ok (.aload_n 0, 1) := by decide +kernel
theorem dX11_distinct_10 : decode cX11_distinct 10 = .ok (.getfield 288, 3) := by decide +kernel
theorem dX11_distinct_13 : decode cX11_distinct 13 = .ok (.iconst 1, 1) := by decide +kernel
theorem dX11_distinct_14 : decode cX11_distinct 14 = .ok (.if_icmp .le 10, 3) := by decide +kernel
theorem dX11_distinct_17 : decode cX11_distinct 17 = .ok (.aload_n 0, 1) := by decide +kernel
theorem dX11_distinct_18 : decode cX11_distinct 18 = .ok (.iconst 0, 1) := by decide +kernel
theorem dX11_distinct_19 : decode cX11_distinct 19 = .ok (.putfield 232, 3) := by decide +kernel
theorem dX11_distinct_22 : decode cX11_distinct 22 = .ok (.iconst 0, 1) := by decide +kernel
theorem dX11_distinct_23 : decode cX11_distinct 23 = .ok (.ireturn, 1) := by decide +kernel
theorem dX11_distinct_24 : decode cX11_distinct 24 = .ok (.aload_n 0, 1) := by decide +kernel
theorem dX11_distinct_25 : decode cX11_distinct 25 = .ok (.invokevirtual 257, 3) := by decide +kernel
theorem dX11_distinct_28 : decode cX11_distinct 28 = .ok (.ifCond .eq 5, 3) := by decide +kernel
theorem dX11_distinct_31 : decode cX11_distinct 31 = .ok (.iconst 3, 1) := by decide +kernel
theorem dX11_distinct_32 : decode cX11_distinct 32 = .ok (.ireturn, 1) := by decide +kernel
theorem dX11_distinct_33 : decode cX11_distinct 33 = .ok (.aload_n 0, 1) := by decide +kernel
theorem dX11_distinct_34 : decode cX11_distinct 34 = .ok (.getfield 288, 3) := by decide +kernel
theorem dX11_distinct_37 : decode cX11_distinct 37 = .ok (.bipush 8, 2) := by decide +kernel
theorem dX11_distinct_39 : decode cX11_distinct 39 = .ok (.if_icmp .ne 6, 3) := by decide +kernel
theorem dX11_distinct_42 : decode cX11_distinct 42 = .ok (.bipush 7, 2) := by decide +kernel
theorem dX11_distinct_44 : decode cX11_distinct 44 = .ok (.ireturn, 1) := by decide +kernel
theorem dX11_distinct_45 : decode cX11_distinct 45 = .ok (.aload_n 0, 1) := by decide +kernel
theorem dX11_distinct_46 : decode cX11_distinct 46 = .ok (.invokevirtual 300, 3) := by decide +kernel
theorem dX11_distinct_49 : decode cX11_distinct 49 = .ok (.istore_n 1, 1) := by decide +kernel
theorem dX11_distinct_50 : decode cX11_distinct 50 = .ok (.iload_n 1, 1) := by decide +kernel
theorem dX11_distinct_51 : decode cX11_distinct 51 = .ok (.ifCond .lt 12, 3) := by decide +kernel
theorem dX11_distinct_54 : decode cX11_distinct 54 = .ok (.aload_n 0, 1) := by decide +kernel
theorem dX11_distinct_55 : decode cX11_distinct 55 = .ok (.getfield 87, 3) := by decide +kernel
theorem dX11_distinct_58 : decode cX11_distinct 58 = .ok (.iload_n 1, 1) := by decide +kernel
theorem dX11_distinct_59 : decode cX11_distinct 59 = .ok (.iaload, 1) := by decide +kernel
theorem dX11_distinct_60 : decode cX11_distinct 60 = .ok (.ifCond .ge 6, 3) := by decide +kernel
theorem dX11_distinct_63 : decode cX11_distinct 63 = .ok (.bipush 6, 2) := by decide +kernel
theorem dX11_distinct_65 : decode cX11_distinct 65 = .ok (.ireturn, 1) := by decide +kernel
theorem dX11_distinct_66 : decode cX11_distinct 66 = .ok (.iconst 0, 1) := by decide +kernel
theorem dX11_distinct_67 : decode cX11_distinct 67 = .ok (.istore_n 2, 1) := by decide +kernel
theorem dX11_distinct_68 : decode cX11_distinct 68 = .ok (.iload_n 2, 1) := by decide +kernel
theorem dX11_distinct_69 : decode cX11_distinct 69 = .ok (.aload_n 0, 1) := by decide +kernel
theorem dX11_distinct_70 : decode cX11_distinct 70 = .ok (.getfield 288, 3) := by decide +kernel
theorem dX11_distinct_73 : decode cX11_distinct 73 = .ok (.if_icmp .ge 22, 3) := by decide +kernel
theorem dX11_distinct_76 : decode cX11_distinct 76 = .ok (.aload_n 0, 1) := by decide +kernel
theorem dX11_distinct_77 : decode cX11_distinct 77 = .ok (.getfield 102, 3) := by decide +kernel
theorem dX11_distinct_80 : decode cX11_distinct 80 = .ok (.iload_n 2, 1) := by decide +kernel
theorem dX11_distinct_81 : decode cX11_distinct 81 = .ok (.iaload, 1) := by decide +kernel
theorem dX11_distinct_82 : decode cX11_distinct 82 = .ok (.iload_n 1, 1) := by decide +kernel
theorem dX11_distinct_83 : decode cX11_distinct 83 = .ok (.if_icmp .ne 6, 3) := by decide +kernel
theorem dX11_distinct_86 : decode cX11_distinct 86 = .ok (.bipush 6, 2) := by decide +kernel
theorem dX11_distinct_88 : decode cX11_distinct 88 = .ok (.ireturn, 1) := by decide +kernel
theorem dX11_distinct_89 : decode cX11_distinct 89 = .ok (.iinc 2 1, 3) := by decide +kernel
theorem dX11_distinct_92 : decode cX11_distinct 92 = .ok (.goto (-24), 3) := by decide +kernel
theorem dX11_distinct_95 : decode cX11_distinct 95 = .ok (.iconst 0, 1) := by decide +kernel
theorem dX11_distinct_96 : decode cX11_distinct 96 = .ok (.istore_n 2, 1) := by decide +kernel
theorem dX11_distinct_97 : decode cX11_distinct 97 = .ok (.iload_n 2, 1) := by decide +kernel
theorem dX11_distinct_98 : decode cX11_distinct 98 = .ok (.aload_n 0, 1) := by decide +kernel
theorem dX11_distinct_99 : decode cX11_distinct 99 = .ok (.getfield 288, 3) := by decide +kernel
theorem dX11_distinct_102 : decode cX11_distinct 102 = .ok (.if_icmp .ge 82, 3) := by decide +kernel
theorem dX11_distinct_105 : decode cX11_distinct 105 = .ok (.aload_n 0, 1) := by decide +kernel
theorem dX11_distinct_106 : decode cX11_distinct 106 = .ok (.getfield 102, 3) := by decide +kernel
theorem dX11_distinct_109 : decode cX11_distinct 109 = .ok (.iload_n 2, 1) := by decide +kernel
theorem dX11_distinct_110 : decode cX11_distinct 110 = .ok (.iaload, 1) := by decide +kernel
theorem dX11_distinct_111 : decode cX11_distinct 111 = .ok (.iload_n 1, 1) := by decide +kernel
theorem dX11_distinct_112 : decode cX11_distinct 112 = .ok (.if_icmp .ge 12, 3) := by decide +kernel
theorem dX11_distinct_115 : decode cX11_distinct 115 = .ok (.aload_n 0, 1) := by decide +kernel
theorem dX11_distinct_116 : decode cX11_distinct 116 = .ok (.getfield 102, 3) := by decide +kernel
theorem dX11_distinct_119 : decode cX11_distinct 119 = .ok (.iload_n 2, 1) := by decide +kernel
theorem dX11_distinct_120 : decode cX11_distinct 120 = .ok (.iaload, 1) := by decide +kernel
theorem dX11_distinct_121 : decode cX11_distinct 121 = .ok (.goto 4, 3) := by decide +kernel
theorem dX11_distinct_124 : decode cX11_distinct 124 = .ok (.iload_n 1, 1) := by decide +kernel
theorem dX11_distinct_125 : decode cX11_distinct 125 = .ok (.istore_n 3, 1) := by decide +kernel
theorem dX11_distinct_126 : decode cX11_distinct 126 = .ok (.aload_n 0, 1) := by decide +kernel
theorem dX11_distinct_127 : decode cX11_distinct 127 = .ok (.getfield 102, 3) := by decide +kernel
theorem dX11_distinct_130 : decode cX11_distinct 130 = .ok (.iload_n 2, 1) := by decide +kernel
theorem dX11_distinct_131 : decode cX11_distinct 131 = .ok (.iaload, 1) := by decide +kernel
theorem dX11_distinct_132 : decode cX11_distinct 132 = .ok (.iload_n 1, 1) := by decide +kernel
theorem dX11_distinct_133 : decode cX11_distinct 133 = .ok (.if_icmp .ge 7, 3) := by decide +kernel
theorem dX11_distinct_136 : decode cX11_distinct 136 = .ok (.iload_n 1, 1) := by decide +kernel
theorem dX11_distinct_137 : decode cX11_distinct 137 = .ok (.goto 9, 3) := by decide +kernel
theorem dX11_distinct_140 : decode cX11_distinct 140 = .ok (.aload_n 0, 1) := by decide +kernel
theorem dX11_distinct_141 : decode cX11_distinct 141 = .ok (.getfield 102, 3) := by decide +kernel
theorem dX11_distinct_144 : decode cX11_distinct 144 = .ok (.iload_n 2, 1) := by decide +kernel
theorem dX11_distinct_145 : decode cX11_distinct 145 = .ok (.iaload, 1) := by decide +kernel
theorem dX11_distinct_146 : decode cX11_distinct 146 = .ok (.istore 4, 2) := by decide +kernel
theorem dX11_distinct_148 : decode cX11_distinct 148 = .ok (.aload_n 0, 1) := by decide +kernel
theorem dX11_distinct_149 : decode cX11_distinct 149 = .ok (.iload_n 3, 1) := by decide +kernel
theorem dX11_distinct_150 : decode cX11_distinct 150 = .ok (.iload 4, 2) := by decide +kernel
theorem dX11_distinct_152 : decode cX11_distinct 152 = .ok (.invokevirtual 303, 3) := by decide +kernel
theorem dX11_distinct_155 : decode cX11_distinct 155 = .ok (.ifCond .ne 23, 3) := by decide +kernel
theorem dX11_distinct_158 : decode cX11_distinct 158 = .ok (.aload_n 0, 1) := by decide +kernel
theorem dX11_distinct_159 : decode cX11_distinct 159 = .ok (.getfield 241, 3) := by decide +kernel
theorem dX11_distinct_162 : decode cX11_distinct 162 = .ok (.sipush 200, 3) := by decide +kernel
theorem dX11_distinct_165 : decode cX11_distinct 165 = .ok (.if_icmp .ne 6, 3) := by decide +kernel
theorem dX11_distinct_168 : decode cX11_distinct 168 = .ok (.bipush 7, 2) := by decide +kernel
theorem dX11_distinct_170 : decode cX11_distinct 170 = .ok (.ireturn, 1) := by decide +kernel
theorem dX11_distinct_171 : decode cX11_distinct 171 = .ok (.aload_n 0, 1) := by decide +kernel
theorem dX11_distinct_172 : decode cX11_distinct 172 = .ok (.iload_n 3, 1) := by decide +kernel
theorem dX11_distinct_173 : decode cX11_distinct 173 = .ok (.iload 4, 2) := by decide +kernel
theorem dX11_distinct_175 : decode cX11_distinct 175 = .ok (.invokevirtual 306, 3) := by decide +kernel
theorem dX11_distinct_178 : decode cX11_distinct 178 = .ok (.iinc 2 1, 3) := by decide +kernel
theorem dX11_distinct_181 : decode cX11_distinct 181 = .ok (.goto (-84), 3) := by decide +kernel
theorem dX11_distinct_184 : decode cX11_distinct 184 = .ok (.aload_n 0, 1) := by decide +kernel
theorem dX11_distinct_185 : decode cX11_distinct 185 = .ok (.getfield 102, 3) := by decide +kernel
theorem dX11_distinct_188 : decode cX11_distinct 188 = .ok (.aload_n 0, 1) := by decide +kernel
theorem dX11_distinct_189 : decode cX11_distinct 189 = .ok (.getfield 288, 3) := by decide +kernel
theorem dX11_distinct_192 : decode cX11_distinct 192 = .ok (.iload_n 1, 1) := by decide +kernel
theorem dX11_distinct_193 : decode cX11_distinct 193 = .ok (.iastore, 1) := by decide +kernel
theorem dX11_distinct_194 : decode cX11_distinct 194 = .ok (.aload_n 0, 1) := by decide +kernel
theorem dX11_distinct_195 : decode cX11_distinct 195 = .ok (.dup, 1) := by decide +kernel
theorem dX11_distinct_196 : decode cX11_distinct 196 = .ok (.getfield 288, 3) := by decide +kernel
theorem dX11_distinct_199 : decode cX11_distinct 199 = .ok (.iconst 1, 1) := by decide +kernel
theorem dX11_distinct_200 : decode cX11_distinct 200 = .ok (.iadd, 1) := by decide +kernel
theorem dX11_distinct_201 : decode cX11_distinct 201 = .ok (.putfield 288, 3) := by decide +kernel
theorem dX11_distinct_204 : decode cX11_distinct 204 = .ok (.iconst 0, 1) := by decide +kernel
theorem dX11_distinct_205 : decode cX11_distinct 205 = .ok (.ireturn, 1) := by decide +kernel
theorem dX11_isOpenPair_0 : decode cX11_isOpenPair 0 = .ok (.iconst 0, 1) := by decide +kernel
theorem dX11_isOpenPair_1 : decode cX11_isOpenPair 1 = .ok (.istore_n 3, 1) := by decide +kernel
theorem dX11_isOpenPair_2 : decode cX11_isOpenPair 2 = .ok (.iconst 0, 1) := by decide +kernel
theorem dX11_isOpenPair_3 : decode cX11_isOpenPair 3 = .ok (.istore 4, 2) := by decide +kernel
theorem dX11_isOpenPair_5 : decode cX11_isOpenPair 5 = .ok (.iload 4, 2) := by decide +kernel
theorem dX11_isOpenPair_7 : decode cX11_isOpenPair 7 = .ok (.aload_n 0, 1) := by decide +kernel
theorem dX11_isOpenPair_8 : decode cX11_isOpenPair 8 = .ok (.getfield 241, 3) := by decide +kernel
theorem dX11_isOpenPair_11 : decode cX11_isOpenPair 11 = .ok (.if_icmp .ge 51, 3) := by decide +kernel
theorem dX11_isOpenPair_14 : decode cX11_isOpenPair 14 = .ok (.iload_n 3, 1) := by decide +kernel
theorem dX11_isOpenPair_15 : decode cX11_isOpenPair 15 = .ok (.ifCond .ne 35, 3) := by decide +kernel
theorem dX11_isOpenPair_18 : decode cX11_isOpenPair 18 = .ok (.aload_n 0, 1) := by decide +kernel
theorem dX11_isOpenPair_19 : decode cX11_isOpenPair 19 = .ok (.getfield 72, 3) := by decide +kernel
theorem dX11_isOpenPair_22 : decode cX11_isOpenPair 22 = .ok (.aload_n 0, 1) := by decide +kernel
theorem dX11_isOpenPair_23 : decode cX11_isOpenPair 23 = .ok (.getfield 96, 3) := by decide +kernel
theorem dX11_isOpenPair_26 : decode cX11_isOpenPair 26 = .ok (.iload 4, 2) := by decide +kernel
theorem dX11_isOpenPair_28 : decode cX11_isOpenPair 28 = .ok (.iaload, 1) := by decide +kernel
theorem dX11_isOpenPair_29 : decode cX11_isOpenPair 29 = .ok (.iaload, 1) := by decide +kernel
theorem dX11_isOpenPair_30 : decode cX11_isOpenPair 30 = .ok (.iload_n 1, 1) := by decide +kernel
theorem dX11_isOpenPair_31 : decode cX11_isOpenPair 31 = .ok (.if_icmp .ne 23, 3) := by decide +kernel
theorem dX11_isOpenPair_34 : decode cX11_isOpenPair 34 = .ok (.aload_n 0, 1) := by decide +kernel
theorem dX11_isOpenPair_35 : decode cX11_isOpenPair 35 = .ok (.getfield 75, 3) := by decide +kernel
theorem dX11_isOpenPair_38 : decode cX11_isOpenPair 38 = .ok (.aload_n 0, 1) := by decide +kernel
theorem dX11_isOpenPair_39 : decode cX11_isOpenPair 39 = .ok (.getfield 96, 3) := by decide +kernel
theorem dX11_isOpenPair_42 : decode cX11_isOpenPair 42 = .ok (.iload 4, 2) := by decide +kernel
theorem dX11_isOpenPair_44 : decode cX11_isOpenPair 44 = .ok (.iaload, 1) := by decide +kernel
theorem dX11_isOpenPair_45 : decode cX11_isOpenPair 45 = .ok (.iaload, 1) := by decide +kernel
theorem dX11_isOpenPair_46 : decode cX11_isOpenPair 46 = .ok (.iload_n 2, 1) := by decide +kernel
theorem dX11_isOpenPair_47 : decode cX11_isOpenPair 47 = .ok (.if_icmp .ne 7, 3) := by decide +kernel
theorem dX11_isOpenPair_50 : decode cX11_isOpenPair 50 = .ok (.iconst 1, 1) := by decide +kernel
theorem dX11_isOpenPair_51 : decode cX11_isOpenPair 51 = .ok (.goto 4, 3) := by decide +kernel
theorem dX11_isOpenPair_54 : decode cX11_isOpenPair 54 = .ok (.iconst 0, 1) := by decide +kernel
theorem dX11_isOpenPair_55 : decode cX11_isOpenPair 55 = .ok (.istore_n 3, 1) := by decide +kernel
theorem dX11_isOpenPair_56 : decode cX11_isOpenPair 56 = .ok (.iinc 4 1, 3) := by decide +kernel
theorem dX11_isOpenPair_59 : decode cX11_isOpenPair 59 = .ok (.goto (-54), 3) := by decide +kernel
theorem dX11_isOpenPair_62 : decode cX11_isOpenPair 62 = .ok (.iload_n 3, 1) := by decide +kernel
theorem dX11_isOpenPair_63 : decode cX11_isOpenPair 63 = .ok (.ireturn, 1) := by decide +kernel
theorem dX11_openPair_0 : decode cX11_openPair 0 = .ok (.sipush 10240, 3) := by decide +kernel
theorem dX11_openPair_3 : decode cX11_openPair 3 = .ok (.aload_n 0, 1) := by decide +kernel
theorem dX11_openPair_4 : decode cX11_openPair 4 = .ok (.getfield 219, 3) := by decide +kernel
theorem dX11_openPair_7 : decode cX11_openPair 7 = .ok (.imul, 1) := by decide +kernel
theorem dX11_openPair_8 : decode cX11_openPair 8 = .ok (.aload_n 0, 1) := by decide +kernel
theorem dX11_openPair_9 : decode cX11_openPair 9 = .ok (.getfield 84, 3) := by decide +kernel
theorem dX11_openPair_12 : decode cX11_openPair 12 = .ok (.aload_n 0, 1) := by decide +kernel
theorem dX11_openPair_13 : decode cX11_openPair 13 = .ok (.getfield 219, 3) := by decide +kernel
theorem dX11_openPair_16 : decode cX11_openPair 16 = .ok (.iaload, 1) := by decide +kernel
theorem dX11_openPair_17 : decode cX11_openPair 17 = .ok (.iadd, 1) := by decide +kernel
theorem dX11_openPair_18 : decode cX11_openPair 18 = .ok (.istore_n 3, 1) := by decide +kernel
theorem dX11_openPair_19 : decode cX11_openPair 19 = .ok (.aload_n 0, 1) := by decide +kernel
theorem dX11_openPair_20 : decode cX11_openPair 20 = .ok (.getfield 72, 3) := by decide +kernel
theorem dX11_openPair_23 : decode cX11_openPair 23 = .ok (.iload_n 3, 1) := by decide +kernel
theorem dX11_openPair_24 : decode cX11_openPair 24 = .ok (.iload_n 1, 1) := by decide +kernel
theorem dX11_openPair_25 : decode cX11_openPair 25 = .ok (.iastore, 1) := by decide +kernel
theorem dX11_openPair_26 : decode cX11_openPair 26 = .ok (.aload_n 0, 1) := by decide +kernel
theorem dX11_openPair_27 : decode cX11_openPair 27 = .ok (.getfield 75, 3) := by decide +kernel
theorem dX11_openPair_30 : decode cX11_openPair 30 = .ok (.iload_n 3, 1) := by decide +kernel
theorem dX11_openPair_31 : decode cX11_openPair 31 = .ok (.iload_n 2, 1) := by decide +kernel
theorem dX11_openPair_32 : decode cX11_openPair 32 = .ok (.iastore, 1) := by decide +kernel
theorem dX11_openPair_33 : decode cX11_openPair 33 = .ok (.aload_n 0, 1) := by decide +kernel
theorem dX11_openPair_34 : decode cX11_openPair 34 = .ok (.getfield 78, 3) := by decide +kernel
theorem dX11_openPair_37 : decode cX11_openPair 37 = .ok (.iload_n 3, 1) := by decide +kernel
theorem dX11_openPair_38 : decode cX11_openPair 38 = .ok (.aload_n 0, 1) := by decide +kernel
theorem dX11_openPair_39 : decode cX11_openPair 39 = .ok (.getfield 53, 3) := by decide +kernel
theorem dX11_openPair_42 : decode cX11_openPair 42 = .ok (.aload_n 0, 1) := by decide +kernel
theorem dX11_openPair_43 : decode cX11_openPair 43 = .ok (.getfield 219, 3) := by decide +kernel
theorem dX11_openPair_46 : decode cX11_openPair 46 = .ok (.iaload, 1) := by decide +kernel
theorem dX11_openPair_47 : decode cX11_openPair 47 = .ok (.iastore, 1) := by decide +kernel
theorem dX11_openPair_48 : decode cX11_openPair 48 = .ok (.aload_n 0, 1) := by decide +kernel
theorem dX11_openPair_49 : decode cX11_openPair 49 = .ok (.getfield 81, 3) := by decide +kernel
theorem dX11_openPair_52 : decode cX11_openPair 52 = .ok (.iload_n 3, 1) := by decide +kernel
theorem dX11_openPair_53 : decode cX11_openPair 53 = .ok (.sipush 200, 3) := by decide +kernel
theorem dX11_openPair_56 : decode cX11_openPair 56 = .ok (.iastore, 1) := by decide +kernel
theorem dX11_openPair_57 : decode cX11_openPair 57 = .ok (.aload_n 0, 1) := by decide +kernel
theorem dX11_openPair_58 : decode cX11_openPair 58 = .ok (.getfield 84, 3) := by decide +kernel
theorem dX11_openPair_61 : decode cX11_openPair 61 = .ok (.aload_n 0, 1) := by decide +kernel
theorem dX11_openPair_62 : decode cX11_openPair 62 = .ok (.getfield 219, 3) := by decide +kernel
theorem dX11_openPair_65 : decode cX11_openPair 65 = .ok (.dup2, 1) := by decide +kernel
theorem dX11_openPair_66 : decode cX11_openPair 66 = .ok (.iaload, 1) := by decide +kernel
theorem dX11_openPair_67 : decode cX11_openPair 67 = .ok (.iconst 1, 1) := by decide +kernel
theorem dX11_openPair_68 : decode cX11_openPair 68 = .ok (.iadd, 1) := by decide +kernel
theorem dX11_openPair_69 : decode cX11_openPair 69 = .ok (.iastore, 1) := by decide +kernel
theorem dX11_openPair_70 : decode cX11_openPair 70 = .ok (.aload_n 0, 1) := by decide +kernel
theorem dX11_openPair_71 : decode cX11_openPair 71 = .ok (.getfield 96, 3) := by decide +kernel
theorem dX11_openPair_74 : decode cX11_openPair 74 = .ok (.aload_n 0, 1) := by decide +kernel
theorem dX11_openPair_75 : decode cX11_openPair 75 = .ok (.getfield 241, 3) := by decide +kernel
theorem dX11_openPair_78 : decode cX11_openPair 78 = .ok (.iload_n 3, 1) := by decide +kernel
theorem dX11_openPair_79 : decode cX11_openPair 79 = .ok (.iastore, 1) := by decide +kernel
theorem dX11_openPair_80 : decode cX11_openPair 80 = .ok (.aload_n 0, 1) := by decide +kernel
theorem dX11_openPair_81 : decode cX11_openPair 81 = .ok (.getfield 99, 3) := by decide +kernel
theorem dX11_openPair_84 : decode cX11_openPair 84 = .ok (.aload_n 0, 1) := by decide +kernel
theorem dX11_openPair_85 : decode cX11_openPair 85 = .ok (.getfield 241, 3) := by decide +kernel
theorem dX11_openPair_88 : decode cX11_openPair 88 = .ok (.aload_n 0, 1) := by decide +kernel
theorem dX11_openPair_89 : decode cX11_openPair 89 = .ok (.getfield 229, 3) := by decide +kernel
theorem dX11_openPair_92 : decode cX11_openPair 92 = .ok (.iastore, 1) := by decide +kernel
theorem dX11_openPair_93 : decode cX11_openPair 93 = .ok (.aload_n 0, 1) := by decide +kernel
theorem dX11_openPair_94 : decode cX11_openPair 94 = .ok (.dup, 1) := by decide +kernel
theorem dX11_openPair_95 : decode cX11_openPair 95 = .ok (.getfield 241, 3) := by decide +kernel
theorem dX11_openPair_98 : decode cX11_openPair 98 = .ok (.iconst 1, 1) := by decide +kernel
theorem dX11_openPair_99 : decode cX11_openPair 99 = .ok (.iadd, 1) := by decide +kernel
theorem dX11_openPair_100 : decode cX11_openPair 100 = .ok (.putfield 241, 3) := by decide +kernel
theorem dX11_openPair_103 : decode cX11_openPair 103 = .ok (.return_, 1) := by decide +kernel
theorem dX11_takeSymbol_0 : decode cX11_takeSymbol 0 = .ok (.sipush 200, 3) := by decide +kernel
theorem dX11_takeSymbol_3 : decode cX11_takeSymbol 3 = .ok (.aload_n 0, 1) := by decide +kernel
theorem dX11_takeSymbol_4 : decode cX11_takeSymbol 4 = .ok (.getfield 219, 3) := by decide +kernel
theorem dX11_takeSymbol_7 : decode cX11_takeSymbol 7 = .ok (.imul, 1) := by decide +kernel
theorem dX11_takeSymbol_8 : decode cX11_takeSymbol 8 = .ok (.aload_n 0, 1) := by decide +kernel
theorem dX11_takeSymbol_9 : decode cX11_takeSymbol 9 = .ok (.getfield 53, 3) := by decide +kernel
theorem dX11_takeSymbol_12 : decode cX11_takeSymbol 12 = .ok (.aload_n 0, 1) := by decide +kernel
theorem dX11_takeSymbol_13 : decode cX11_takeSymbol 13 = .ok (.getfield 219, 3) := by decide +kernel
theorem dX11_takeSymbol_16 : decode cX11_takeSymbol 16 = .ok (.iaload, 1) := by decide +kernel
theorem dX11_takeSymbol_17 : decode cX11_takeSymbol 17 = .ok (.iadd, 1) := by decide +kernel
theorem dX11_takeSymbol_18 : decode cX11_takeSymbol 18 = .ok (.istore_n 2, 1) := by decide +kernel
theorem dX11_takeSymbol_19 : decode cX11_takeSymbol 19 = .ok (.aload_n 0, 1) := by decide +kernel
theorem dX11_takeSymbol_20 : decode cX11_takeSymbol 20 = .ok (.getfield 56, 3) := by decide +kernel
theorem dX11_takeSymbol_23 : decode cX11_takeSymbol 23 = .ok (.sipush 4096, 3) := by decide +kernel
theorem dX11_takeSymbol_26 : decode cX11_takeSymbol 26 = .ok (.aload_n 0, 1) := by decide +kernel
theorem dX11_takeSymbol_27 : decode cX11_takeSymbol 27 = .ok (.getfield 219, 3) := by decide +kernel
theorem dX11_takeSymbol_30 : decode cX11_takeSymbol 30 = .ok (.imul, 1) := by decide +kernel
theorem dX11_takeSymbol_31 : decode cX11_takeSymbol 31 = .ok (.aload_n 0, 1) := by decide +kernel
theorem dX11_takeSymbol_32 : decode cX11_takeSymbol 32 = .ok (.getfield 235, 3) := by decide +kernel
theorem dX11_takeSymbol_35 : decode cX11_takeSymbol 35 = .ok (.iadd, 1) := by decide +kernel
theorem dX11_takeSymbol_36 : decode cX11_takeSymbol 36 = .ok (.iload_n 1, 1) := by decide +kernel
theorem dX11_takeSymbol_37 : decode cX11_takeSymbol 37 = .ok (.iastore, 1) := by decide +kernel
theorem dX11_takeSymbol_38 : decode cX11_takeSymbol 38 = .ok (.aload_n 0, 1) := by decide +kernel
theorem dX11_takeSymbol_39 : decode cX11_takeSymbol 39 = .ok (.dup, 1) := by decide +kernel
theorem dX11_takeSymbol_40 : decode cX11_takeSymbol 40 = .ok (.getfield 235, 3) := by decide +kernel
theorem dX11_takeSymbol_43 : decode cX11_takeSymbol 43 = .ok (.iconst 1, 1) := by decide +kernel
theorem dX11_takeSymbol_44 : decode cX11_takeSymbol 44 = .ok (.iadd, 1) := by decide +kernel
theorem dX11_takeSymbol_45 : decode cX11_takeSymbol 45 = .ok (.putfield 235, 3) := by decide +kernel
theorem dX11_takeSymbol_48 : decode cX11_takeSymbol 48 = .ok (.aload_n 0, 1) := by decide +kernel
theorem dX11_takeSymbol_49 : decode cX11_takeSymbol 49 = .ok (.getfield 44, 3) := by decide +kernel
theorem dX11_takeSymbol_52 : decode cX11_takeSymbol 52 = .ok (.iload_n 2, 1) := by decide +kernel
theorem dX11_takeSymbol_53 : decode cX11_takeSymbol 53 = .ok (.dup2, 1) := by decide +kernel
theorem dX11_takeSymbol_54 : decode cX11_takeSymbol 54 = .ok (.iaload, 1) := by decide +kernel
theorem dX11_takeSymbol_55 : decode cX11_takeSymbol 55 = .ok (.iconst 1, 1) := by decide +kernel
theorem dX11_takeSymbol_56 : decode cX11_takeSymbol 56 = .ok (.iadd, 1) := by decide +kernel
theorem dX11_takeSymbol_57 : decode cX11_takeSymbol 57 = .ok (.iastore, 1) := by decide +kernel
theorem dX11_takeSymbol_58 : decode cX11_takeSymbol 58 = .ok (.return_, 1) := by decide +kernel
theorem dX11_isConstant_0 : decode cX11_isConstant 0 = .ok (.iload_n 1, 1) := by decide +kernel
theorem dX11_isConstant_1 : decode cX11_isConstant 1 = .ok (.ifCond .lt 25, 3) := by decide +kernel
theorem dX11_isConstant_4 : decode cX11_isConstant 4 = .ok (.aload_n 0, 1) := by decide +kernel
theorem dX11_isConstant_5 : decode cX11_isConstant 5 = .ok (.getfield 22, 3) := by decide +kernel
theorem dX11_isConstant_8 : decode cX11_isConstant 8 = .ok (.sipush 300, 3) := by decide +kernel
theorem dX11_isConstant_11 : decode cX11_isConstant 11 = .ok (.aload_n 0, 1) := by decide +kernel
theorem dX11_isConstant_12 : decode cX11_isConstant 12 = .ok (.getfield 219, 3) := by decide +kernel
theorem dX11_isConstant_15 : decode cX11_isConstant 15 = .ok (.imul, 1) := by decide +kernel
theorem dX11_isConstant_16 : decode cX11_isConstant 16 = .ok (.iload_n 1, 1) := by decide +kernel
theorem dX11_isConstant_17 : decode cX11_isConstant 17 = .ok (.iadd, 1) := by decide +kernel
theorem dX11_isConstant_18 : decode cX11_isConstant 18 = .ok (.baload, 1) := by decide +kernel
theorem dX11_isConstant_19 : decode cX11_isConstant 19 = .ok (.ifCond .ne 7, 3) := by decide +kernel
theorem dX11_isConstant_22 : decode cX11_isConstant 22 = .ok (.iconst 1, 1) := by decide +kernel
theorem dX11_isConstant_23 : decode cX11_isConstant 23 = .ok (.goto 4, 3) := by decide +kernel
theorem dX11_isConstant_26 : decode cX11_isConstant 26 = .ok (.iconst 0, 1) := by decide +kernel
theorem dX11_isConstant_27 : decode cX11_isConstant 27 = .ok (.ireturn, 1) := by decide +kernel
theorem dX11_typed_0 : decode cX11_typed 0 = .ok (.aload_n 0, 1) := by decide +kernel
theorem dX11_typed_1 : decode cX11_typed 1 = .ok (.getfield 44, 3) := by decide +kernel
theorem dX11_typed_4 : decode cX11_typed 4 = .ok (.sipush 200, 3) := by decide +kernel
theorem dX11_typed_7 : decode cX11_typed 7 = .ok (.aload_n 0, 1) := by decide +kernel
theorem dX11_typed_8 : decode cX11_typed 8 = .ok (.getfield 219, 3) := by decide +kernel
theorem dX11_typed_11 : decode cX11_typed 11 = .ok (.imul, 1) := by decide +kernel
theorem dX11_typed_12 : decode cX11_typed 12 = .ok (.aload_n 0, 1) := by decide +kernel
theorem dX11_typed_13 : decode cX11_typed 13 = .ok (.getfield 53, 3) := by decide +kernel
theorem dX11_typed_16 : decode cX11_typed 16 = .ok (.aload_n 0, 1) := by decide +kernel
theorem dX11_typed_17 : decode cX11_typed 17 = .ok (.getfield 219, 3) := by decide +kernel
theorem dX11_typed_20 : decode cX11_typed 20 = .ok (.iaload, 1) := by decide +kernel
theorem dX11_typed_21 : decode cX11_typed 21 = .ok (.iadd, 1) := by decide +kernel
theorem dX11_typed_22 : decode cX11_typed 22 = .ok (.iaload, 1) := by decide +kernel
theorem dX11_typed_23 : decode cX11_typed 23 = .ok (.istore_n 1, 1) := by decide +kernel
theorem dX11_typed_24 : decode cX11_typed 24 = .ok (.iload_n 1, 1) := by decide +kernel
theorem dX11_typed_25 : decode cX11_typed 25 = .ok (.iconst 2, 1) := by decide +kernel
theorem dX11_typed_26 : decode cX11_typed 26 = .ok (.if_icmp .ne 20, 3) := by decide +kernel
theorem dX11_typed_29 : decode cX11_typed 29 = .ok (.aload_n 0, 1) := by decide +kernel
theorem dX11_typed_30 : decode cX11_typed 30 = .ok (.bipush 46, 2) := by decide +kernel
theorem dX11_typed_32 : decode cX11_typed 32 = .ok (.invokevirtual 216, 3) := by decide +kernel
theorem dX11_typed_35 : decode cX11_typed 35 = .ok (.ifCond .ne 5, 3) := by decide +kernel
theorem dX11_typed_38 : decode cX11_typed 38 = .ok (.iconst 3, 1) := by decide +kernel
theorem dX11_typed_39 : decode cX11_typed 39 = .ok (.ireturn, 1) := by decide +kernel
theorem dX11_typed_40 : decode cX11_typed 40 = .ok (.aload_n 0, 1) := by decide +kernel
theorem dX11_typed_41 : decode cX11_typed 41 = .ok (.invokevirtual 310, 3) := by decide +kernel
theorem dX11_typed_44 : decode cX11_typed 44 = .ok (.iconst 0, 1) := by decide +kernel
theorem dX11_typed_45 : decode cX11_typed 45 = .ok (.ireturn, 1) := by decide +kernel
theorem dX11_typed_46 : decode cX11_typed 46 = .ok (.aload_n 0, 1) := by decide +kernel
theorem dX11_typed_47 : decode cX11_typed 47 = .ok (.invokevirtual 257, 3) := by decide +kernel
theorem dX11_typed_50 : decode cX11_typed 50 = .ok (.ifCond .eq 5, 3) := by decide +kernel
theorem dX11_typed_53 : decode cX11_typed 53 = .ok (.iconst 3, 1) := by decide +kernel
theorem dX11_typed_54 : decode cX11_typed 54 = .ok (.ireturn, 1) := by decide +kernel
theorem dX11_typed_55 : decode cX11_typed 55 = .ok (.aload_n 0, 1) := by decide +kernel
theorem dX11_typed_56 : decode cX11_typed 56 = .ok (.invokevirtual 300, 3) := by decide +kernel
theorem dX11_typed_59 : decode cX11_typed 59 = .ok (.istore_n 2, 1) := by decide +kernel
theorem dX11_typed_60 : decode cX11_typed 60 = .ok (.iload_n 1, 1) := by decide +kernel
theorem dX11_typed_61 : decode cX11_typed 61 = .ok (.ifCond .ne 14, 3) := by decide +kernel
theorem dX11_typed_64 : decode cX11_typed 64 = .ok (.aload_n 0, 1) := by decide +kernel
theorem dX11_typed_65 : decode cX11_typed 65 = .ok (.iload_n 2, 1) := by decide +kernel
theorem dX11_typed_66 : decode cX11_typed 66 = .ok (.invokevirtual 313, 3) := by decide +kernel
theorem dX11_typed_69 : decode cX11_typed 69 = .ok (.ifCond .ne 31, 3) := by decide +kernel
theorem dX11_typed_72 : decode cX11_typed 72 = .ok (.goto 25, 3) := by decide +kernel
theorem dX11_typed_75 : decode cX11_typed 75 = .ok (.iload_n 2, 1) := by decide +kernel
theorem dX11_typed_76 : decode cX11_typed 76 = .ok (.ifCond .lt 21, 3) := by decide +kernel
theorem dX11_typed_79 : decode cX11_typed 79 = .ok (.aload_n 0, 1) := by decide +kernel
theorem dX11_typed_80 : decode cX11_typed 80 = .ok (.getfield 87, 3) := by decide +kernel
theorem dX11_typed_83 : decode cX11_typed 83 = .ok (.iload_n 2, 1) := by decide +kernel
theorem dX11_typed_84 : decode cX11_typed 84 = .ok (.iaload, 1) := by decide +kernel
theorem dX11_typed_85 : decode cX11_typed 85 = .ok (.ifCond .lt 12, 3) := by decide +kernel
theorem dX11_typed_88 : decode cX11_typed 88 = .ok (.aload_n 0, 1) := by decide +kernel
theorem dX11_typed_89 : decode cX11_typed 89 = .ok (.getfield 90, 3) := by decide +kernel
theorem dX11_typed_92 : decode cX11_typed 92 = .ok (.iload_n 2, 1) := by decide +kernel
theorem dX11_typed_93 : decode cX11_typed 93 = .ok (.iaload, 1) := by decide +kernel
theorem dX11_typed_94 : decode cX11_typed 94 = .ok (.ifCond .lt 6, 3) := by decide +kernel
theorem dX11_typed_97 : decode cX11_typed 97 = .ok (.bipush 6, 2) := by decide +kernel
theorem dX11_typed_99 : decode cX11_typed 99 = .ok (.ireturn, 1) := by decide +kernel
theorem dX11_typed_100 : decode cX11_typed 100 = .ok (.aload_n 0, 1) := by decide +kernel
theorem dX11_typed_101 : decode cX11_typed 101 = .ok (.iload_n 2, 1) := by decide +kernel
theorem dX11_typed_102 : decode cX11_typed 102 = .ok (.invokevirtual 316, 3) := by decide +kernel
theorem dX11_typed_105 : decode cX11_typed 105 = .ok (.iconst 0, 1) := by decide +kernel
theorem dX11_typed_106 : decode cX11_typed 106 = .ok (.ireturn, 1) := by decide +kernel
theorem dX11_formula_0 : decode cX11_formula 0 = .ok (.sipush 200, 3) := by decide +kernel
theorem dX11_formula_3 : decode cX11_formula 3 = .ok (.aload_n 0, 1) := by decide +kernel
theorem dX11_formula_4 : decode cX11_formula 4 = .ok (.getfield 219, 3) := by decide +kernel
theorem dX11_formula_7 : decode cX11_formula 7 = .ok (.imul, 1) := by decide +kernel
theorem dX11_formula_8 : decode cX11_formula 8 = .ok (.aload_n 0, 1) := by decide +kernel
theorem dX11_formula_9 : decode cX11_formula 9 = .ok (.getfield 53, 3) := by decide +kernel
theorem dX11_formula_12 : decode cX11_formula 12 = .ok (.aload_n 0, 1) := by decide +kernel
theorem dX11_formula_13 : decode cX11_formula 13 = .ok (.getfield 219, 3) := by decide +kernel
theorem dX11_formula_16 : decode cX11_formula 16 = .ok (.iaload, 1) := by decide +kernel
theorem dX11_formula_17 : decode cX11_formula 17 = .ok (.iadd, 1) := by decide +kernel
theorem dX11_formula_18 : decode cX11_formula 18 = .ok (.istore_n 1, 1) := by decide +kernel
theorem dX11_formula_19 : decode cX11_formula 19 = .ok (.aload_n 0, 1) := by decide +kernel
theorem dX11_formula_20 : decode cX11_formula 20 = .ok (.aload_n 0, 1) := by decide +kernel
theorem dX11_formula_21 : decode cX11_formula 21 = .ok (.getfield 29, 3) := by decide +kernel
theorem dX11_formula_24 : decode cX11_formula 24 = .ok (.iload_n 1, 1) := by decide +kernel
theorem dX11_formula_25 : decode cX11_formula 25 = .ok (.iaload, 1) := by decide +kernel
theorem dX11_formula_26 : decode cX11_formula 26 = .ok (.iconst 3, 1) := by decide +kernel
theorem dX11_formula_27 : decode cX11_formula 27 = .ok (.if_icmp .ne 8, 3) := by decide +kernel
theorem dX11_formula_30 : decode cX11_formula 30 = .ok (.bipush 61, 2) := by decide +kernel
theorem dX11_formula_32 : decode cX11_formula 32 = .ok (.goto 5, 3) := by decide +kernel
theorem dX11_formula_35 : decode cX11_formula 35 = .ok (.bipush 46, 2) := by decide +kernel
theorem dX11_formula_37 : decode cX11_formula 37 = .ok (.invokevirtual 216, 3) := by decide +kernel
theorem dX11_formula_40 : decode cX11_formula 40 = .ok (.ifCond .eq 37, 3) := by decide +kernel
theorem dX11_formula_43 : decode cX11_formula 43 = .ok (.aload_n 0, 1) := by decide +kernel
theorem dX11_formula_44 : decode cX11_formula 44 = .ok (.getfield 44, 3) := by decide +kernel
theorem dX11_formula_47 : decode cX11_formula 47 = .ok (.iload_n 1, 1) := by decide +kernel
theorem dX11_formula_48 : decode cX11_formula 48 = .ok (.iaload, 1) := by decide +kernel
theorem dX11_formula_49 : decode cX11_formula 49 = .ok (.ifCond .le 28, 3) := by decide +kernel
theorem dX11_formula_52 : decode cX11_formula 52 = .ok (.aload_n 0, 1) := by decide +kernel
theorem dX11_formula_53 : decode cX11_formula 53 = .ok (.getfield 29, 3) := by decide +kernel
theorem dX11_formula_56 : decode cX11_formula 56 = .ok (.iload_n 1, 1) := by decide +kernel
theorem dX11_formula_57 : decode cX11_formula 57 = .ok (.iaload, 1) := by decide +kernel
theorem dX11_formula_58 : decode cX11_formula 58 = .ok (.iconst 3, 1) := by decide +kernel
theorem dX11_formula_59 : decode cX11_formula 59 = .ok (.if_icmp .ne 12, 3) := by decide +kernel
theorem dX11_formula_62 : decode cX11_formula 62 = .ok (.aload_n 0, 1) := by decide +kernel
theorem dX11_formula_63 : decode cX11_formula 63 = .ok (.bipush 7, 2) := by decide +kernel
theorem dX11_formula_65 : decode cX11_formula 65 = .ok (.putfield 232, 3) := by decide +kernel
theorem dX11_formula_68 : decode cX11_formula 68 = .ok (.goto 7, 3) := by decide +kernel
theorem dX11_formula_71 : decode cX11_formula 71 = .ok (.aload_n 0, 1) := by decide +kernel
theorem dX11_formula_72 : decode cX11_formula 72 = .ok (.invokevirtual 310, 3) := by decide +kernel
theorem dX11_formula_75 : decode cX11_formula 75 = .ok (.iconst 0, 1) := by decide +kernel
theorem dX11_formula_76 : decode cX11_formula 76 = .ok (.ireturn, 1) := by decide +kernel
theorem dX11_formula_77 : decode cX11_formula 77 = .ok (.aload_n 0, 1) := by decide +kernel
theorem dX11_formula_78 : decode cX11_formula 78 = .ok (.invokevirtual 257, 3) := by decide +kernel
theorem dX11_formula_81 : decode cX11_formula 81 = .ok (.ifCond .eq 5, 3) := by decide +kernel
theorem dX11_formula_84 : decode cX11_formula 84 = .ok (.iconst 3, 1) := by decide +kernel
theorem dX11_formula_85 : decode cX11_formula 85 = .ok (.ireturn, 1) := by decide +kernel
theorem dX11_formula_86 : decode cX11_formula 86 = .ok (.aload_n 0, 1) := by decide +kernel
theorem dX11_formula_87 : decode cX11_formula 87 = .ok (.getfield 44, 3) := by decide +kernel
theorem dX11_formula_90 : decode cX11_formula 90 = .ok (.iload_n 1, 1) := by decide +kernel
theorem dX11_formula_91 : decode cX11_formula 91 = .ok (.iaload, 1) := by decide +kernel
theorem dX11_formula_92 : decode cX11_formula 92 = .ok (.bipush 60, 2) := by decide +kernel
theorem dX11_formula_94 : decode cX11_formula 94 = .ok (.if_icmp .ne 6, 3) := by decide +kernel
theorem dX11_formula_97 : decode cX11_formula 97 = .ok (.bipush 7, 2) := by decide +kernel
theorem dX11_formula_99 : decode cX11_formula 99 = .ok (.ireturn, 1) := by decide +kernel
theorem dX11_formula_100 : decode cX11_formula 100 = .ok (.aload_n 0, 1) := by decide +kernel
theorem dX11_formula_101 : decode cX11_formula 101 = .ok (.invokevirtual 300, 3) := by decide +kernel
theorem dX11_formula_104 : decode cX11_formula 104 = .ok (.istore_n 2, 1) := by decide +kernel
theorem dX11_formula_105 : decode cX11_formula 105 = .ok (.aload_n 0, 1) := by decide +kernel
theorem dX11_formula_106 : decode cX11_formula 106 = .ok (.iload_n 2, 1) := by decide +kernel
theorem dX11_formula_107 : decode cX11_formula 107 = .ok (.invokevirtual 313, 3) := by decide +kernel
theorem dX11_formula_110 : decode cX11_formula 110 = .ok (.ifCond .ne 34, 3) := by decide +kernel
theorem dX11_formula_113 : decode cX11_formula 113 = .ok (.aload_n 0, 1) := by decide +kernel
theorem dX11_formula_114 : decode cX11_formula 114 = .ok (.getfield 44, 3) := by decide +kernel
theorem dX11_formula_117 : decode cX11_formula 117 = .ok (.iload_n 1, 1) := by decide +kernel
theorem dX11_formula_118 : decode cX11_formula 118 = .ok (.iaload, 1) := by decide +kernel
theorem dX11_formula_119 : decode cX11_formula 119 = .ok (.ifCond .le 29, 3) := by decide +kernel
theorem dX11_formula_122 : decode cX11_formula 122 = .ok (.iload_n 2, 1) := by decide +kernel
theorem dX11_formula_123 : decode cX11_formula 123 = .ok (.ifCond .lt 25, 3) := by decide +kernel
theorem dX11_formula_126 : decode cX11_formula 126 = .ok (.aload_n 0, 1) := by decide +kernel
theorem dX11_formula_127 : decode cX11_formula 127 = .ok (.getfield 87, 3) := by decide +kernel
theorem dX11_formula_130 : decode cX11_formula 130 = .ok (.iload_n 2, 1) := by decide +kernel
theorem dX11_formula_131 : decode cX11_formula 131 = .ok (.iaload, 1) := by decide +kernel
theorem dX11_formula_132 : decode cX11_formula 132 = .ok (.ifCond .lt 16, 3) := by decide +kernel
theorem dX11_formula_135 : decode cX11_formula 135 = .ok (.aload_n 0, 1) := by decide +kernel
theorem dX11_formula_136 : decode cX11_formula 136 = .ok (.getfield 90, 3) := by decide +kernel
theorem dX11_formula_139 : decode cX11_formula 139 = .ok (.iload_n 2, 1) := by decide +kernel
theorem dX11_formula_140 : decode cX11_formula 140 = .ok (.iaload, 1) := by decide +kernel
theorem dX11_formula_141 : decode cX11_formula 141 = .ok (.ifCond .lt 7, 3) := by decide +kernel
theorem dX11_formula_144 : decode cX11_formula 144 = .ok (.iconst 1, 1) := by decide +kernel
theorem dX11_formula_145 : decode cX11_formula 145 = .ok (.goto 4, 3) := by decide +kernel
theorem dX11_formula_148 : decode cX11_formula 148 = .ok (.iconst 0, 1) := by decide +kernel
theorem dX11_formula_149 : decode cX11_formula 149 = .ok (.istore_n 3, 1) := by decide +kernel
theorem dX11_formula_150 : decode cX11_formula 150 = .ok (.iload_n 3, 1) := by decide +kernel
theorem dX11_formula_151 : decode cX11_formula 151 = .ok (.ifCond .ne 6, 3) := by decide +kernel
theorem dX11_formula_154 : decode cX11_formula 154 = .ok (.bipush 6, 2) := by decide +kernel
theorem dX11_formula_156 : decode cX11_formula 156 = .ok (.ireturn, 1) := by decide +kernel
theorem dX11_formula_157 : decode cX11_formula 157 = .ok (.aload_n 0, 1) := by decide +kernel
theorem dX11_formula_158 : decode cX11_formula 158 = .ok (.iload_n 2, 1) := by decide +kernel
theorem dX11_formula_159 : decode cX11_formula 159 = .ok (.invokevirtual 316, 3) := by decide +kernel
theorem dX11_formula_162 : decode cX11_formula 162 = .ok (.iconst 0, 1) := by decide +kernel
theorem dX11_formula_163 : decode cX11_formula 163 = .ok (.ireturn, 1) := by decide +kernel
theorem dX11_proof_0 : decode cX11_proof 0 = .ok (.sipush 200, 3) := by decide +kernel
theorem dX11_proof_3 : decode cX11_proof 3 = .ok (.aload_n 0, 1) := by decide +kernel
theorem dX11_proof_4 : decode cX11_proof 4 = .ok (.getfield 219, 3) := by decide +kernel
theorem dX11_proof_7 : decode cX11_proof 7 = .ok (.imul, 1) := by decide +kernel
theorem dX11_proof_8 : decode cX11_proof 8 = .ok (.aload_n 0, 1) := by decide +kernel
theorem dX11_proof_9 : decode cX11_proof 9 = .ok (.getfield 53, 3) := by decide +kernel
theorem dX11_proof_12 : decode cX11_proof 12 = .ok (.aload_n 0, 1) := by decide +kernel
theorem dX11_proof_13 : decode cX11_proof 13 = .ok (.getfield 219, 3) := by decide +kernel
theorem dX11_proof_16 : decode cX11_proof 16 = .ok (.iaload, 1) := by decide +kernel
theorem dX11_proof_17 : decode cX11_proof 17 = .ok (.iadd, 1) := by decide +kernel
theorem dX11_proof_18 : decode cX11_proof 18 = .ok (.istore_n 1, 1) := by decide +kernel
theorem dX11_proof_19 : decode cX11_proof 19 = .ok (.aload_n 0, 1) := by decide +kernel
theorem dX11_proof_20 : decode cX11_proof 20 = .ok (.bipush 46, 2) := by decide +kernel
theorem dX11_proof_22 : decode cX11_proof 22 = .ok (.invokevirtual 216, 3) := by decide +kernel
theorem dX11_proof_25 : decode cX11_proof 25 = .ok (.ifCond .eq 9, 3) := by decide +kernel
theorem dX11_proof_28 : decode cX11_proof 28 = .ok (.aload_n 0, 1) := by decide +kernel
theorem dX11_proof_29 : decode cX11_proof 29 = .ok (.invokevirtual 310, 3) := by decide +kernel
theorem dX11_proof_32 : decode cX11_proof 32 = .ok (.iconst 0, 1) := by decide +kernel
theorem dX11_proof_33 : decode cX11_proof 33 = .ok (.ireturn, 1) := by decide +kernel
theorem dX11_proof_34 : decode cX11_proof 34 = .ok (.aload_n 0, 1) := by decide +kernel
theorem dX11_proof_35 : decode cX11_proof 35 = .ok (.invokevirtual 257, 3) := by decide +kernel
theorem dX11_proof_38 : decode cX11_proof 38 = .ok (.ifCond .eq 5, 3) := by decide +kernel
theorem dX11_proof_41 : decode cX11_proof 41 = .ok (.iconst 3, 1) := by decide +kernel
theorem dX11_proof_42 : decode cX11_proof 42 = .ok (.ireturn, 1) := by decide +kernel
theorem dX11_proof_43 : decode cX11_proof 43 = .ok (.aload_n 0, 1) := by decide +kernel
theorem dX11_proof_44 : decode cX11_proof 44 = .ok (.getfield 50, 3) := by decide +kernel
theorem dX11_proof_47 : decode cX11_proof 47 = .ok (.iload_n 1, 1) := by decide +kernel
theorem dX11_proof_48 : decode cX11_proof 48 = .ok (.iaload, 1) := by decide +kernel
theorem dX11_proof_49 : decode cX11_proof 49 = .ok (.sipush 400, 3) := by decide +kernel
theorem dX11_proof_52 : decode cX11_proof 52 = .ok (.if_icmp .ne 6, 3) := by decide +kernel
theorem dX11_proof_55 : decode cX11_proof 55 = .ok (.bipush 7, 2) := by decide +kernel
theorem dX11_proof_57 : decode cX11_proof 57 = .ok (.ireturn, 1) := by decide +kernel
theorem dX11_proof_58 : decode cX11_proof 58 = .ok (.aload_n 0, 1) := by decide +kernel
theorem dX11_proof_59 : decode cX11_proof 59 = .ok (.getfield 59, 3) := by decide +kernel
theorem dX11_proof_62 : decode cX11_proof 62 = .ok (.sipush 4096, 3) := by decide +kernel
theorem dX11_proof_65 : decode cX11_proof 65 = .ok (.aload_n 0, 1) := by decide +kernel
theorem dX11_proof_66 : decode cX11_proof 66 = .ok (.getfield 219, 3) := by decide +kernel
theorem dX11_proof_69 : decode cX11_proof 69 = .ok (.imul, 1) := by decide +kernel
theorem dX11_proof_70 : decode cX11_proof 70 = .ok (.aload_n 0, 1) := by decide +kernel
theorem dX11_proof_71 : decode cX11_proof 71 = .ok (.getfield 238, 3) := by decide +kernel
theorem dX11_proof_74 : decode cX11_proof 74 = .ok (.iadd, 1) := by decide +kernel
theorem dX11_proof_75 : decode cX11_proof 75 = .ok (.aload_n 0, 1) := by decide +kernel
theorem dX11_proof_76 : decode cX11_proof 76 = .ok (.getfield 210, 3) := by decide +kernel
theorem dX11_proof_79 : decode cX11_proof 79 = .ok (.iastore, 1) := by decide +kernel
theorem dX11_proof_80 : decode cX11_proof 80 = .ok (.aload_n 0, 1) := by decide +kernel
theorem dX11_proof_81 : decode cX11_proof 81 = .ok (.getfield 62, 3) := by decide +kernel
theorem dX11_proof_84 : decode cX11_proof 84 = .ok (.sipush 4096, 3) := by decide +kernel
theorem dX11_proof_87 : decode cX11_proof 87 = .ok (.aload_n 0, 1) := by decide +kernel
theorem dX11_proof_88 : decode cX11_proof 88 = .ok (.getfield 219, 3) := by decide +kernel
theorem dX11_proof_91 : decode cX11_proof 91 = .ok (.imul, 1) := by decide +kernel
theorem dX11_proof_92 : decode cX11_proof 92 = .ok (.aload_n 0, 1) := by decide +kernel
theorem dX11_proof_93 : decode cX11_proof 93 = .ok (.getfield 238, 3) := by decide +kernel
theorem dX11_proof_96 : decode cX11_proof 96 = .ok (.iadd, 1) := by decide +kernel
theorem dX11_proof_97 : decode cX11_proof 97 = .ok (.aload_n 0, 1) := by decide +kernel
theorem dX11_proof_98 : decode cX11_proof 98 = .ok (.getfield 213, 3) := by decide +kernel
theorem dX11_proof_101 : decode cX11_proof 101 = .ok (.iastore, 1) := by decide +kernel
theorem dX11_proof_102 : decode cX11_proof 102 = .ok (.aload_n 0, 1) := by decide +kernel
theorem dX11_proof_103 : decode cX11_proof 103 = .ok (.dup, 1) := by decide +kernel
theorem dX11_proof_104 : decode cX11_proof 104 = .ok (.getfield 238, 3) := by decide +kernel
theorem dX11_proof_107 : decode cX11_proof 107 = .ok (.iconst 1, 1) := by decide +kernel
theorem dX11_proof_108 : decode cX11_proof 108 = .ok (.iadd, 1) := by decide +kernel
theorem dX11_proof_109 : decode cX11_proof 109 = .ok (.putfield 238, 3) := by decide +kernel
theorem dX11_proof_112 : decode cX11_proof 112 = .ok (.aload_n 0, 1) := by decide +kernel
theorem dX11_proof_113 : decode cX11_proof 113 = .ok (.getfield 50, 3) := by decide +kernel
theorem dX11_proof_116 : decode cX11_proof 116 = .ok (.iload_n 1, 1) := by decide +kernel
theorem dX11_proof_117 : decode cX11_proof 117 = .ok (.dup2, 1) := by decide +kernel
theorem dX11_proof_118 : decode cX11_proof 118 = .ok (.iaload, 1) := by decide +kernel
theorem dX11_proof_119 : decode cX11_proof 119 = .ok (.iconst 1, 1) := by decide +kernel
theorem dX11_proof_120 : decode cX11_proof 120 = .ok (.iadd, 1) := by decide +kernel
theorem dX11_proof_121 : decode cX11_proof 121 = .ok (.iastore, 1) := by decide +kernel
theorem dX11_proof_122 : decode cX11_proof 122 = .ok (.iconst 0, 1) := by decide +kernel
theorem dX11_proof_123 : decode cX11_proof 123 = .ok (.ireturn, 1) := by decide +kernel
theorem dX11_endStatement_0 : decode cX11_endStatement 0 = .ok (.aload_n 0, 1) := by decide +kernel
theorem dX11_endStatement_1 : decode cX11_endStatement 1 = .ok (.getfield 53, 3) := by decide +kernel
theorem dX11_endStatement_4 : decode cX11_endStatement 4 = .ok (.aload_n 0, 1) := by decide +kernel
theorem dX11_endStatement_5 : decode cX11_endStatement 5 = .ok (.getfield 219, 3) := by decide +kernel
theorem dX11_endStatement_8 : decode cX11_endStatement 8 = .ok (.iaload, 1) := by decide +kernel
theorem dX11_endStatement_9 : decode cX11_endStatement 9 = .ok (.istore_n 1, 1) := by decide +kernel
theorem dX11_endStatement_10 : decode cX11_endStatement 10 = .ok (.sipush 200, 3) := by decide +kernel
theorem dX11_endStatement_13 : decode cX11_endStatement 13 = .ok (.aload_n 0, 1) := by decide +kernel
theorem dX11_endStatement_14 : decode cX11_endStatement 14 = .ok (.getfield 219, 3) := by decide +kernel
theorem dX11_endStatement_17 : decode cX11_endStatement 17 = .ok (.imul, 1) := by decide +kernel
theorem dX11_endStatement_18 : decode cX11_endStatement 18 = .ok (.iload_n 1, 1) := by decide +kernel
theorem dX11_endStatement_19 : decode cX11_endStatement 19 = .ok (.iadd, 1) := by decide +kernel
theorem dX11_endStatement_20 : decode cX11_endStatement 20 = .ok (.istore_n 2, 1) := by decide +kernel
theorem dX11_endStatement_21 : decode cX11_endStatement 21 = .ok (.iconst 0, 1) := by decide +kernel
theorem dX11_endStatement_22 : decode cX11_endStatement 22 = .ok (.istore_n 3, 1) := by decide +kernel
theorem dX11_endStatement_23 : decode cX11_endStatement 23 = .ok (.iload_n 3, 1) := by decide +kernel
theorem dX11_endStatement_24 : decode cX11_endStatement 24 = .ok (.iconst 4, 1) := by decide +kernel
theorem dX11_endStatement_25 : decode cX11_endStatement 25 = .ok (.if_icmp .ge 31, 3) := by decide +kernel
theorem dX11_endStatement_28 : decode cX11_endStatement 28 = .ok (.aload_n 0, 1) := by decide +kernel
theorem dX11_endStatement_29 : decode cX11_endStatement 29 = .ok (.getfield 65, 3) := by decide +kernel
theorem dX11_endStatement_32 : decode cX11_endStatement 32 = .ok (.iconst 4, 1) := by decide +kernel
theorem dX11_endStatement_33 : decode cX11_endStatement 33 = .ok (.iload_n 2, 1) := by decide +kernel
theorem dX11_endStatement_34 : decode cX11_endStatement 34 = .ok (.imul, 1) := by decide +kernel
theorem dX11_endStatement_35 : decode cX11_endStatement 35 = .ok (.iload_n 3, 1) := by decide +kernel
theorem dX11_endStatement_36 : decode cX11_endStatement 36 = .ok (.iadd, 1) := by decide +kernel
theorem dX11_endStatement_37 : decode cX11_endStatement 37 = .ok (.lconst 0, 1) := by decide +kernel
theorem dX11_endStatement_38 : decode cX11_endStatement 38 = .ok (.lastore, 1) := by decide +kernel
theorem dX11_endStatement_39 : decode cX11_endStatement 39 = .ok (.aload_n 0, 1) := by decide +kernel
theorem dX11_endStatement_40 : decode cX11_endStatement 40 = .ok (.getfield 69, 3) := by decide +kernel
theorem dX11_endStatement_43 : decode cX11_endStatement 43 = .ok (.iconst 4, 1) := by decide +kernel
theorem dX11_endStatement_44 : decode cX11_endStatement 44 = .ok (.iload_n 2, 1) := by decide +kernel
theorem dX11_endStatement_45 : decode cX11_endStatement 45 = .ok (.imul, 1) := by decide +kernel
theorem dX11_endStatement_46 : decode cX11_endStatement 46 = .ok (.iload_n 3, 1) := by decide +kernel
theorem dX11_endStatement_47 : decode cX11_endStatement 47 = .ok (.iadd, 1) := by decide +kernel
theorem dX11_endStatement_48 : decode cX11_endStatement 48 = .ok (.lconst 0, 1) := by decide +kernel
theorem dX11_endStatement_49 : decode cX11_endStatement 49 = .ok (.lastore, 1) := by decide +kernel
theorem dX11_endStatement_50 : decode cX11_endStatement 50 = .ok (.iinc 3 1, 3) := by decide +kernel
theorem dX11_endStatement_53 : decode cX11_endStatement 53 = .ok (.goto (-30), 3) := by decide +kernel
theorem dX11_endStatement_56 : decode cX11_endStatement 56 = .ok (.iconst 0, 1) := by decide +kernel
theorem dX11_endStatement_57 : decode cX11_endStatement 57 = .ok (.istore_n 3, 1) := by decide +kernel
theorem dX11_endStatement_58 : decode cX11_endStatement 58 = .ok (.iload_n 3, 1) := by decide +kernel
theorem dX11_endStatement_59 : decode cX11_endStatement 59 = .ok (.iload_n 1, 1) := by decide +kernel
theorem dX11_endStatement_60 : decode cX11_endStatement 60 = .ok (.if_icmp .ge 40, 3) := by decide +kernel
theorem dX11_endStatement_63 : decode cX11_endStatement 63 = .ok (.aload_n 0, 1) := by decide +kernel
theorem dX11_endStatement_64 : decode cX11_endStatement 64 = .ok (.getfield 93, 3) := by decide +kernel
theorem dX11_endStatement_67 : decode cX11_endStatement 67 = .ok (.iload_n 3, 1) := by decide +kernel
theorem dX11_endStatement_68 : decode cX11_endStatement 68 = .ok (.baload, 1) := by decide +kernel
theorem dX11_endStatement_69 : decode cX11_endStatement 69 = .ok (.ifCond .eq 25, 3) := by decide +kernel
theorem dX11_endStatement_72 : decode cX11_endStatement 72 = .ok (.aload_n 0, 1) := by decide +kernel
theorem dX11_endStatement_73 : decode cX11_endStatement 73 = .ok (.getfield 65, 3) := by decide +kernel
theorem dX11_endStatement_76 : decode cX11_endStatement 76 = .ok (.iconst 4, 1) := by decide +kernel
theorem dX11_endStatement_77 : decode cX11_endStatement 77 = .ok (.iload_n 2, 1) := by decide +kernel
theorem dX11_endStatement_78 : decode cX11_endStatement 78 = .ok (.imul, 1) := by decide +kernel
theorem dX11_endStatement_79 : decode cX11_endStatement 79 = .ok (.iload_n 3, 1) := by decide +kernel
theorem dX11_endStatement_80 : decode cX11_endStatement 80 = .ok (.bipush 64, 2) := by decide +kernel
theorem dX11_endStatement_82 : decode cX11_endStatement 82 = .ok (.idiv, 1) := by decide +kernel
theorem dX11_endStatement_83 : decode cX11_endStatement 83 = .ok (.iadd, 1) := by decide +kernel
theorem dX11_endStatement_84 : decode cX11_endStatement 84 = .ok (.dup2, 1) := by decide +kernel
theorem dX11_endStatement_85 : decode cX11_endStatement 85 = .ok (.laload, 1) := by decide +kernel
theorem dX11_endStatement_86 : decode cX11_endStatement 86 = .ok (.lconst 1, 1) := by decide +kernel
theorem dX11_endStatement_87 : decode cX11_endStatement 87 = .ok (.iload_n 3, 1) := by decide +kernel
theorem dX11_endStatement_88 : decode cX11_endStatement 88 = .ok (.bipush 64, 2) := by decide +kernel
theorem dX11_endStatement_90 : decode cX11_endStatement 90 = .ok (.irem, 1) := by decide +kernel
theorem dX11_endStatement_91 : decode cX11_endStatement 91 = .ok (.lshl, 1) := by decide +kernel
theorem dX11_endStatement_92 : decode cX11_endStatement 92 = .ok (.lor, 1) := by decide +kernel
theorem dX11_endStatement_93 : decode cX11_endStatement 93 = .ok (.lastore, 1) := by decide +kernel
theorem dX11_endStatement_94 : decode cX11_endStatement 94 = .ok (.iinc 3 1, 3) := by decide +kernel
theorem dX11_endStatement_97 : decode cX11_endStatement 97 = .ok (.goto (-39), 3) := by decide +kernel
theorem dX11_endStatement_100 : decode cX11_endStatement 100 = .ok (.aload_n 0, 1) := by decide +kernel
theorem dX11_endStatement_101 : decode cX11_endStatement 101 = .ok (.getfield 29, 3) := by decide +kernel
theorem dX11_endStatement_104 : decode cX11_endStatement 104 = .ok (.iload_n 2, 1) := by decide +kernel
theorem dX11_endStatement_105 : decode cX11_endStatement 105 = .ok (.iaload, 1) := by decide +kernel
theorem dX11_endStatement_106 : decode cX11_endStatement 106 = .ok (.iconst 2, 1) := by decide +kernel
theorem dX11_endStatement_107 : decode cX11_endStatement 107 = .ok (.if_icmp .lt 11, 3) := by decide +kernel
theorem dX11_endStatement_110 : decode cX11_endStatement 110 = .ok (.aload_n 0, 1) := by decide +kernel
theorem dX11_endStatement_111 : decode cX11_endStatement 111 = .ok (.iload_n 1, 1) := by decide +kernel
theorem dX11_endStatement_112 : decode cX11_endStatement 112 = .ok (.invokevirtual 320, 3) := by decide +kernel
theorem dX11_endStatement_115 : decode cX11_endStatement 115 = .ok (.goto 47, 3) := by decide +kernel
theorem dX11_endStatement_118 : decode cX11_endStatement 118 = .ok (.aload_n 0, 1) := by decide +kernel
theorem dX11_endStatement_119 : decode cX11_endStatement 119 = .ok (.getfield 93, 3) := by decide +kernel
theorem dX11_endStatement_122 : decode cX11_endStatement 122 = .ok (.iload_n 1, 1) := by decide +kernel
theorem dX11_endStatement_123 : decode cX11_endStatement 123 = .ok (.iconst 1, 1) := by decide +kernel
theorem dX11_endStatement_124 : decode cX11_endStatement 124 = .ok (.bastore, 1) := by decide +kernel
theorem dX11_endStatement_125 : decode cX11_endStatement 125 = .ok (.aload_n 0, 1) := by decide +kernel
theorem dX11_endStatement_126 : decode cX11_endStatement 126 = .ok (.getfield 29, 3) := by decide +kernel
theorem dX11_endStatement_129 : decode cX11_endStatement 129 = .ok (.iload_n 2, 1) := by decide +kernel
theorem dX11_endStatement_130 : decode cX11_endStatement 130 = .ok (.iaload, 1) := by decide +kernel
theorem dX11_endStatement_131 : decode cX11_endStatement 131 = .ok (.ifCond .ne 31, 3) := by decide +kernel
theorem dX11_endStatement_134 : decode cX11_endStatement 134 = .ok (.aload_n 0, 1) := by decide +kernel
theorem dX11_endStatement_135 : decode cX11_endStatement 135 = .ok (.getfield 90, 3) := by decide +kernel
theorem dX11_endStatement_138 : decode cX11_endStatement 138 = .ok (.aload_n 0, 1) := by decide +kernel
theorem dX11_endStatement_139 : decode cX11_endStatement 139 = .ok (.getfield 56, 3) := by decide +kernel
theorem dX11_endStatement_142 : decode cX11_endStatement 142 = .ok (.sipush 4096, 3) := by decide +kernel
theorem dX11_endStatement_145 : decode cX11_endStatement 145 = .ok (.aload_n 0, 1) := by decide +kernel
theorem dX11_endStatement_146 : decode cX11_endStatement 146 = .ok (.getfield 219, 3) := by decide +kernel
theorem dX11_endStatement_149 : decode cX11_endStatement 149 = .ok (.imul, 1) := by decide +kernel
theorem dX11_endStatement_150 : decode cX11_endStatement 150 = .ok (.aload_n 0, 1) := by decide +kernel
theorem dX11_endStatement_151 : decode cX11_endStatement 151 = .ok (.getfield 41, 3) := by decide +kernel
theorem dX11_endStatement_154 : decode cX11_endStatement 154 = .ok (.iload_n 2, 1) := by decide +kernel
theorem dX11_endStatement_155 : decode cX11_endStatement 155 = .ok (.iaload, 1) := by decide +kernel
theorem dX11_endStatement_156 : decode cX11_endStatement 156 = .ok (.iadd, 1) := by decide +kernel
theorem dX11_endStatement_157 : decode cX11_endStatement 157 = .ok (.iconst 1, 1) := by decide +kernel
theorem dX11_endStatement_158 : decode cX11_endStatement 158 = .ok (.iadd, 1) := by decide +kernel
theorem dX11_endStatement_159 : decode cX11_endStatement 159 = .ok (.iaload, 1) := by decide +kernel
theorem dX11_endStatement_160 : decode cX11_endStatement 160 = .ok (.iload_n 1, 1) := by decide +kernel
theorem dX11_endStatement_161 : decode cX11_endStatement 161 = .ok (.iastore, 1) := by decide +kernel
theorem dX11_endStatement_162 : decode cX11_endStatement 162 = .ok (.aload_n 0, 1) := by decide +kernel
theorem dX11_endStatement_163 : decode cX11_endStatement 163 = .ok (.getfield 53, 3) := by decide +kernel
theorem dX11_endStatement_166 : decode cX11_endStatement 166 = .ok (.aload_n 0, 1) := by decide +kernel
theorem dX11_endStatement_167 : decode cX11_endStatement 167 = .ok (.getfield 219, 3) := by decide +kernel
theorem dX11_endStatement_170 : decode cX11_endStatement 170 = .ok (.dup2, 1) := by decide +kernel
theorem dX11_endStatement_171 : decode cX11_endStatement 171 = .ok (.iaload, 1) := by decide +kernel
theorem dX11_endStatement_172 : decode cX11_endStatement 172 = .ok (.iconst 1, 1) := by decide +kernel
theorem dX11_endStatement_173 : decode cX11_endStatement 173 = .ok (.iadd, 1) := by decide +kernel
theorem dX11_endStatement_174 : decode cX11_endStatement 174 = .ok (.iastore, 1) := by decide +kernel
theorem dX11_endStatement_175 : decode cX11_endStatement 175 = .ok (.aload_n 0, 1) := by decide +kernel
theorem dX11_endStatement_176 : decode cX11_endStatement 176 = .ok (.iconst 0, 1) := by decide +kernel
theorem dX11_endStatement_177 : decode cX11_endStatement 177 = .ok (.putfield 232, 3) := by decide +kernel
theorem dX11_endStatement_180 : decode cX11_endStatement 180 = .ok (.return_, 1) := by decide +kernel
theorem dX11_needs_0 : decode cX11_needs 0 = .ok (.iconst 0, 1) := by decide +kernel
theorem dX11_needs_1 : decode cX11_needs 1 = .ok (.istore_n 3, 1) := by decide +kernel
theorem dX11_needs_2 : decode cX11_needs 2 = .ok (.iload_n 3, 1) := by decide +kernel
theorem dX11_needs_3 : decode cX11_needs 3 = .ok (.aload_n 0, 1) := by decide +kernel
theorem dX11_needs_4 : decode cX11_needs 4 = .ok (.getfield 44, 3) := by decide +kernel
theorem dX11_needs_7 : decode cX11_needs 7 = .ok (.iload_n 2, 1) := by decide +kernel
theorem dX11_needs_8 : decode cX11_needs 8 = .ok (.iaload, 1) := by decide +kernel
theorem dX11_needs_9 : decode cX11_needs 9 = .ok (.if_icmp .ge 85, 3) := by decide +kernel
theorem dX11_needs_12 : decode cX11_needs 12 = .ok (.aload_n 0, 1) := by decide +kernel
theorem dX11_needs_13 : decode cX11_needs 13 = .ok (.getfield 56, 3) := by decide +kernel
theorem dX11_needs_16 : decode cX11_needs 16 = .ok (.sipush 4096, 3) := by decide +kernel
theorem dX11_needs_19 : decode cX11_needs 19 = .ok (.aload_n 0, 1) := by decide +kernel
theorem dX11_needs_20 : decode cX11_needs 20 = .ok (.getfield 219, 3) := by decide +kernel
theorem dX11_needs_23 : decode cX11_needs 23 = .ok (.imul, 1) := by decide +kernel
theorem dX11_needs_24 : decode cX11_needs 24 = .ok (.aload_n 0, 1) := by decide +kernel
theorem dX11_needs_25 : decode cX11_needs 25 = .ok (.getfield 41, 3) := by decide +kernel
theorem dX11_needs_28 : decode cX11_needs 28 = .ok (.iload_n 2, 1) := by decide +kernel
theorem dX11_needs_29 : decode cX11_needs 29 = .ok (.iaload, 1) := by decide +kernel
theorem dX11_needs_30 : decode cX11_needs 30 = .ok (.iadd, 1) := by decide +kernel
theorem dX11_needs_31 : decode cX11_needs 31 = .ok (.iload_n 3, 1) := by decide +kernel
theorem dX11_needs_32 : decode cX11_needs 32 = .ok (.iadd, 1) := by decide +kernel
theorem dX11_needs_33 : decode cX11_needs 33 = .ok (.iaload, 1) := by decide +kernel
theorem dX11_needs_34 : decode cX11_needs 34 = .ok (.istore 4, 2) := by decide +kernel
theorem dX11_needs_36 : decode cX11_needs 36 = .ok (.aload_n 0, 1) := by decide +kernel
theorem dX11_needs_37 : decode cX11_needs 37 = .ok (.getfield 22, 3) := by decide +kernel
theorem dX11_needs_40 : decode cX11_needs 40 = .ok (.sipush 300, 3) := by decide +kernel
theorem dX11_needs_43 : decode cX11_needs 43 = .ok (.aload_n 0, 1) := by decide +kernel
theorem dX11_needs_44 : decode cX11_needs 44 = .ok (.getfield 219, 3) := by decide +kernel
theorem dX11_needs_47 : decode cX11_needs 47 = .ok (.imul, 1) := by decide +kernel
theorem dX11_needs_48 : decode cX11_needs 48 = .ok (.iload 4, 2) := by decide +kernel
theorem dX11_needs_50 : decode cX11_needs 50 = .ok (.iadd, 1) := by decide +kernel
theorem dX11_needs_51 : decode cX11_needs 51 = .ok (.baload, 1) := by decide +kernel
theorem dX11_needs_52 : decode cX11_needs 52 = .ok (.ifCond .eq 36, 3) := by decide +kernel
theorem dX11_needs_55 : decode cX11_needs 55 = .ok (.aload_n 0, 1) := by decide +kernel
theorem dX11_needs_56 : decode cX11_needs 56 = .ok (.getfield 90, 3) := by decide +kernel
theorem dX11_needs_59 : decode cX11_needs 59 = .ok (.iload 4, 2) := by decide +kernel
theorem dX11_needs_61 : decode cX11_needs 61 = .ok (.iaload, 1) := by decide +kernel
theorem dX11_needs_62 : decode cX11_needs 62 = .ok (.istore 5, 2) := by decide +kernel
theorem dX11_needs_64 : decode cX11_needs 64 = .ok (.aload_n 0, 1) := by decide +kernel
theorem dX11_needs_65 : decode cX11_needs 65 = .ok (.getfield 69, 3) := by decide +kernel
theorem dX11_needs_68 : decode cX11_needs 68 = .ok (.iconst 4, 1) := by decide +kernel
theorem dX11_needs_69 : decode cX11_needs 69 = .ok (.iload_n 1, 1) := by decide +kernel
theorem dX11_needs_70 : decode cX11_needs 70 = .ok (.imul, 1) := by decide +kernel
theorem dX11_needs_71 : decode cX11_needs 71 = .ok (.iload 5, 2) := by decide +kernel
theorem dX11_needs_73 : decode cX11_needs 73 = .ok (.bipush 64, 2) := by decide +kernel
theorem dX11_needs_75 : decode cX11_needs 75 = .ok (.idiv, 1) := by decide +kernel
theorem dX11_needs_76 : decode cX11_needs 76 = .ok (.iadd, 1) := by decide +kernel
theorem dX11_needs_77 : decode cX11_needs 77 = .ok (.dup2, 1) := by decide +kernel
theorem dX11_needs_78 : decode cX11_needs 78 = .ok (.laload, 1) := by decide +kernel
theorem dX11_needs_79 : decode cX11_needs 79 = .ok (.lconst 1, 1) := by decide +kernel
theorem dX11_needs_80 : decode cX11_needs 80 = .ok (.iload 5, 2) := by decide +kernel
theorem dX11_needs_82 : decode cX11_needs 82 = .ok (.bipush 64, 2) := by decide +kernel
theorem dX11_needs_84 : decode cX11_needs 84 = .ok (.irem, 1) := by decide +kernel
theorem dX11_needs_85 : decode cX11_needs 85 = .ok (.lshl, 1) := by decide +kernel
theorem dX11_needs_86 : decode cX11_needs 86 = .ok (.lor, 1) := by decide +kernel
theorem dX11_needs_87 : decode cX11_needs 87 = .ok (.lastore, 1) := by decide +kernel
theorem dX11_needs_88 : decode cX11_needs 88 = .ok (.iinc 3 1, 3) := by decide +kernel
theorem dX11_needs_91 : decode cX11_needs 91 = .ok (.goto (-89), 3) := by decide +kernel
theorem dX11_needs_94 : decode cX11_needs 94 = .ok (.return_, 1) := by decide +kernel
theorem dX11_frameOf_0 : decode cX11_frameOf 0 = .ok (.sipush 200, 3) := by decide +kernel
theorem dX11_frameOf_3 : decode cX11_frameOf 3 = .ok (.aload_n 0, 1) := by decide +kernel
theorem dX11_frameOf_4 : decode cX11_frameOf 4 = .ok (.getfield 219, 3) := by decide +kernel
theorem dX11_frameOf_7 : decode cX11_frameOf 7 = .ok (.imul, 1) := by decide +kernel
theorem dX11_frameOf_8 : decode cX11_frameOf 8 = .ok (.iload_n 1, 1) := by decide +kernel
theorem dX11_frameOf_9 : decode cX11_frameOf 9 = .ok (.iadd, 1) := by decide +kernel
theorem dX11_frameOf_10 : decode cX11_frameOf 10 = .ok (.istore_n 2, 1) := by decide +kernel
theorem dX11_frameOf_11 : decode cX11_frameOf 11 = .ok (.aload_n 0, 1) := by decide +kernel
theorem dX11_frameOf_12 : decode cX11_frameOf 12 = .ok (.iload_n 2, 1) := by decide +kernel
theorem dX11_frameOf_13 : decode cX11_frameOf 13 = .ok (.iload_n 2, 1) := by decide +kernel
theorem dX11_frameOf_14 : decode cX11_frameOf 14 = .ok (.invokevirtual 323, 3) := by decide +kernel
theorem dX11_frameOf_17 : decode cX11_frameOf 17 = .ok (.iconst 0, 1) := by decide +kernel
theorem dX11_frameOf_18 : decode cX11_frameOf 18 = .ok (.istore_n 3, 1) := by decide +kernel
theorem dX11_frameOf_19 : decode cX11_frameOf 19 = .ok (.iload_n 3, 1) := by decide +kernel
theorem dX11_frameOf_20 : decode cX11_frameOf 20 = .ok (.iload_n 1, 1) := by decide +kernel
theorem dX11_frameOf_21 : decode cX11_frameOf 21 = .ok (.if_icmp .ge 74, 3) := by decide +kernel
theorem dX11_frameOf_24 : decode cX11_frameOf 24 = .ok (.aload_n 0, 1) := by decide +kernel
theorem dX11_frameOf_25 : decode cX11_frameOf 25 = .ok (.getfield 93, 3) := by decide +kernel
theorem dX11_frameOf_28 : decode cX11_frameOf 28 = .ok (.iload_n 3, 1) := by decide +kernel
theorem dX11_frameOf_29 : decode cX11_frameOf 29 = .ok (.baload, 1) := by decide +kernel
theorem dX11_frameOf_30 : decode cX11_frameOf 30 = .ok (.ifCond .eq 59, 3) := by decide +kernel
theorem dX11_frameOf_33 : decode cX11_frameOf 33 = .ok (.aload_n 0, 1) := by decide +kernel
theorem dX11_frameOf_34 : decode cX11_frameOf 34 = .ok (.getfield 29, 3) := by decide +kernel
theorem dX11_frameOf_37 : decode cX11_frameOf 37 = .ok (.sipush 200, 3) := by decide +kernel
theorem dX11_frameOf_40 : decode cX11_frameOf 40 = .ok (.aload_n 0, 1) := by decide +kernel
theorem dX11_frameOf_41 : decode cX11_frameOf 41 = .ok (.getfield 219, 3) := by decide +kernel
theorem dX11_frameOf_44 : decode cX11_frameOf 44 = .ok (.imul, 1) := by decide +kernel
theorem dX11_frameOf_45 : decode cX11_frameOf 45 = .ok (.iload_n 3, 1) := by decide +kernel
theorem dX11_frameOf_46 : decode cX11_frameOf 46 = .ok (.iadd, 1) := by decide +kernel
theorem dX11_frameOf_47 : decode cX11_frameOf 47 = .ok (.iaload, 1) := by decide +kernel
theorem dX11_frameOf_48 : decode cX11_frameOf 48 = .ok (.iconst 1, 1) := by decide +kernel
theorem dX11_frameOf_49 : decode cX11_frameOf 49 = .ok (.if_icmp .ne 40, 3) := by decide +kernel
theorem dX11_frameOf_52 : decode cX11_frameOf 52 = .ok (.aload_n 0, 1) := by decide +kernel
theorem dX11_frameOf_53 : decode cX11_frameOf 53 = .ok (.getfield 69, 3) := by decide +kernel
theorem dX11_frameOf_56 : decode cX11_frameOf 56 = .ok (.iconst 4, 1) := by decide +kernel
theorem dX11_frameOf_57 : decode cX11_frameOf 57 = .ok (.iload_n 2, 1) := by decide +kernel
theorem dX11_frameOf_58 : decode cX11_frameOf 58 = .ok (.imul, 1) := by decide +kernel
theorem dX11_frameOf_59 : decode cX11_frameOf 59 = .ok (.iload_n 3, 1) := by decide +kernel
theorem dX11_frameOf_60 : decode cX11_frameOf 60 = .ok (.bipush 64, 2) := by decide +kernel
theorem dX11_frameOf_62 : decode cX11_frameOf 62 = .ok (.idiv, 1) := by decide +kernel
theorem dX11_frameOf_63 : decode cX11_frameOf 63 = .ok (.iadd, 1) := by decide +kernel
theorem dX11_frameOf_64 : decode cX11_frameOf 64 = .ok (.dup2, 1) := by decide +kernel
theorem dX11_frameOf_65 : decode cX11_frameOf 65 = .ok (.laload, 1) := by decide +kernel
theorem dX11_frameOf_66 : decode cX11_frameOf 66 = .ok (.lconst 1, 1) := by decide +kernel
theorem dX11_frameOf_67 : decode cX11_frameOf 67 = .ok (.iload_n 3, 1) := by decide +kernel
theorem dX11_frameOf_68 : decode cX11_frameOf 68 = .ok (.bipush 64, 2) := by decide +kernel
theorem dX11_frameOf_70 : decode cX11_frameOf 70 = .ok (.irem, 1) := by decide +kernel
theorem dX11_frameOf_71 : decode cX11_frameOf 71 = .ok (.lshl, 1) := by decide +kernel
theorem dX11_frameOf_72 : decode cX11_frameOf 72 = .ok (.lor, 1) := by decide +kernel
theorem dX11_frameOf_73 : decode cX11_frameOf 73 = .ok (.lastore, 1) := by decide +kernel
theorem dX11_frameOf_74 : decode cX11_frameOf 74 = .ok (.aload_n 0, 1) := by decide +kernel
theorem dX11_frameOf_75 : decode cX11_frameOf 75 = .ok (.iload_n 2, 1) := by decide +kernel
theorem dX11_frameOf_76 : decode cX11_frameOf 76 = .ok (.sipush 200, 3) := by decide +kernel
theorem dX11_frameOf_79 : decode cX11_frameOf 79 = .ok (.aload_n 0, 1) := by decide +kernel
theorem dX11_frameOf_80 : decode cX11_frameOf 80 = .ok (.getfield 219, 3) := by decide +kernel
theorem dX11_frameOf_83 : decode cX11_frameOf 83 = .ok (.imul, 1) := by decide +kernel
theorem dX11_frameOf_84 : decode cX11_frameOf 84 = .ok (.iload_n 3, 1) := by decide +kernel
theorem dX11_frameOf_85 : decode cX11_frameOf 85 = .ok (.iadd, 1) := by decide +kernel
theorem dX11_frameOf_86 : decode cX11_frameOf 86 = .ok (.invokevirtual 323, 3) := by decide +kernel
theorem dX11_frameOf_89 : decode cX11_frameOf 89 = .ok (.iinc 3 1, 3) := by decide +kernel
theorem dX11_frameOf_92 : decode cX11_frameOf 92 = .ok (.goto (-73), 3) := by decide +kernel
theorem dX11_frameOf_95 : decode cX11_frameOf 95 = .ok (.return_, 1) := by decide +kernel
theorem dX11_forgetWork_0 : decode cX11_forgetWork 0 = .ok (.aload_n 0, 1) := by decide +kernel
theorem dX11_forgetWork_1 : decode cX11_forgetWork 1 = .ok (.iconst 0, 1) := by decide +kernel
theorem dX11_forgetWork_2 : decode cX11_forgetWork 2 = .ok (.putfield 326, 3) := by decide +kernel
theorem dX11_forgetWork_5 : decode cX11_forgetWork 5 = .ok (.aload_n 0, 1) := by decide +kernel
theorem dX11_forgetWork_6 : decode cX11_forgetWork 6 = .ok (.iconst 0, 1) := by decide +kernel
theorem dX11_forgetWork_7 : decode cX11_forgetWork 7 = .ok (.putfield 329, 3) := by decide +kernel
theorem dX11_forgetWork_10 : decode cX11_forgetWork 10 = .ok (.aload_n 0, 1) := by decide +kernel
theorem dX11_forgetWork_11 : decode cX11_forgetWork 11 = .ok (.iconst 0, 1) := by decide +kernel
theorem dX11_forgetWork_12 : decode cX11_forgetWork 12 = .ok (.putfield 332, 3) := by decide +kernel
theorem dX11_forgetWork_15 : decode cX11_forgetWork 15 = .ok (.return_, 1) := by decide +kernel
theorem dX11_read_0 : decode cX11_read 0 = .ok (.aload_n 0, 1) := by decide +kernel
theorem dX11_read_1 : decode cX11_read 1 = .ok (.invokevirtual 335, 3) := by decide +kernel
theorem dX11_read_4 : decode cX11_read 4 = .ok (.istore_n 1, 1) := by decide +kernel
theorem dX11_read_5 : decode cX11_read 5 = .ok (.aload_n 0, 1) := by decide +kernel
theorem dX11_read_6 : decode cX11_read 6 = .ok (.iload_n 1, 1) := by decide +kernel
theorem dX11_read_7 : decode cX11_read 7 = .ok (.iconst 2, 1) := by decide +kernel
theorem dX11_read_8 : decode cX11_read 8 = .ok (.if_icmp .eq 7, 3) := by decide +kernel
theorem dX11_read_11 : decode cX11_read 11 = .ok (.iload_n 1, 1) := by decide +kernel
theorem dX11_read_12 : decode cX11_read 12 = .ok (.ifCond .ne 10, 3) := by decide +kernel
theorem dX11_read_15 : decode cX11_read 15 = .ok (.aload_n 0, 1) := by decide +kernel
theorem dX11_read_16 : decode cX11_read 16 = .ok (.getfield 197, 3) := by decide +kernel
theorem dX11_read_19 : decode cX11_read 19 = .ok (.goto 7, 3) := by decide +kernel
theorem dX11_read_22 : decode cX11_read 22 = .ok (.aload_n 0, 1) := by decide +kernel
theorem dX11_read_23 : decode cX11_read 23 = .ok (.getfield 210, 3) := by decide +kernel
theorem dX11_read_26 : decode cX11_read 26 = .ok (.putfield 338, 3) := by decide +kernel
theorem dX11_read_29 : decode cX11_read 29 = .ok (.iload_n 1, 1) := by decide +kernel
theorem dX11_read_30 : decode cX11_read 30 = .ok (.ifCond .ne 48, 3) := by decide +kernel
theorem dX11_read_33 : decode cX11_read 33 = .ok (.iconst 0, 1) := by decide +kernel
theorem dX11_read_34 : decode cX11_read 34 = .ok (.istore_n 2, 1) := by decide +kernel
theorem dX11_read_35 : decode cX11_read 35 = .ok (.iload_n 2, 1) := by decide +kernel
theorem dX11_read_36 : decode cX11_read 36 = .ok (.aload_n 0, 1) := by decide +kernel
theorem dX11_read_37 : decode cX11_read 37 = .ok (.getfield 197, 3) := by decide +kernel
theorem dX11_read_40 : decode cX11_read 40 = .ok (.if_icmp .ge 30, 3) := by decide +kernel
theorem dX11_read_43 : decode cX11_read 43 = .ok (.aload_n 0, 1) := by decide +kernel
theorem dX11_read_44 : decode cX11_read 44 = .ok (.getfield 13, 3) := by decide +kernel
theorem dX11_read_47 : decode cX11_read 47 = .ok (.sipush 8192, 3) := by decide +kernel
theorem dX11_read_50 : decode cX11_read 50 = .ok (.aload_n 0, 1) := by decide +kernel
theorem dX11_read_51 : decode cX11_read 51 = .ok (.getfield 219, 3) := by decide +kernel
theorem dX11_read_54 : decode cX11_read 54 = .ok (.imul, 1) := by decide +kernel
theorem dX11_read_55 : decode cX11_read 55 = .ok (.iload_n 2, 1) := by decide +kernel
theorem dX11_read_56 : decode cX11_read 56 = .ok (.iadd, 1) := by decide +kernel
theorem dX11_read_57 : decode cX11_read 57 = .ok (.aload_n 0, 1) := by decide +kernel
theorem dX11_read_58 : decode cX11_read 58 = .ok (.getfield 7, 3) := by decide +kernel
theorem dX11_read_61 : decode cX11_read 61 = .ok (.iload_n 2, 1) := by decide +kernel
theorem dX11_read_62 : decode cX11_read 62 = .ok (.iaload, 1) := by decide +kernel
theorem dX11_read_63 : decode cX11_read 63 = .ok (.iastore, 1) := by decide +kernel
theorem dX11_read_64 : decode cX11_read 64 = .ok (.iinc 2 1, 3) := by decide +kernel
theorem dX11_read_67 : decode cX11_read 67 = .ok (.goto (-32), 3) := by decide +kernel
theorem dX11_read_70 : decode cX11_read 70 = .ok (.aload_n 0, 1) := by decide +kernel
theorem dX11_read_71 : decode cX11_read 71 = .ok (.aload_n 0, 1) := by decide +kernel
theorem dX11_read_72 : decode cX11_read 72 = .ok (.getfield 219, 3) := by decide +kernel
theorem dX11_read_75 : decode cX11_read 75 = .ok (.putfield 226, 3) := by decide +kernel
theorem dX11_read_78 : decode cX11_read 78 = .ok (.aload_n 0, 1) := by decide +kernel
theorem dX11_read_79 : decode cX11_read 79 = .ok (.iconst 0, 1) := by decide +kernel
theorem dX11_read_80 : decode cX11_read 80 = .ok (.putfield 197, 3) := by decide +kernel
theorem dX11_read_83 : decode cX11_read 83 = .ok (.aload_n 0, 1) := by decide +kernel
theorem dX11_read_84 : decode cX11_read 84 = .ok (.invokevirtual 341, 3) := by decide +kernel
theorem dX11_read_87 : decode cX11_read 87 = .ok (.iload_n 1, 1) := by decide +kernel
theorem dX11_read_88 : decode cX11_read 88 = .ok (.ifCond .le 8, 3) := by decide +kernel
theorem dX11_read_91 : decode cX11_read 91 = .ok (.iload_n 1, 1) := by decide +kernel
theorem dX11_read_92 : decode cX11_read 92 = .ok (.ineg, 1) := by decide +kernel
theorem dX11_read_93 : decode cX11_read 93 = .ok (.goto 12, 3) := by decide +kernel
theorem dX11_read_96 : decode cX11_read 96 = .ok (.aload_n 0, 1) := by decide +kernel
theorem dX11_read_97 : decode cX11_read 97 = .ok (.getfield 53, 3) := by decide +kernel
theorem dX11_read_100 : decode cX11_read 100 = .ok (.aload_n 0, 1) := by decide +kernel
theorem dX11_read_101 : decode cX11_read 101 = .ok (.getfield 226, 3) := by decide +kernel
theorem dX11_read_104 : decode cX11_read 104 = .ok (.iaload, 1) := by decide +kernel
theorem dX11_read_105 : decode cX11_read 105 = .ok (.ireturn, 1) := by decide +kernel
theorem dX11_place_0 : decode cX11_place 0 = .ok (.aload_n 0, 1) := by decide +kernel
theorem dX11_place_1 : decode cX11_place 1 = .ok (.getfield 338, 3) := by decide +kernel
theorem dX11_place_4 : decode cX11_place 4 = .ok (.ireturn, 1) := by decide +kernel
theorem dX11_isStatement_0 : decode cX11_isStatement 0 = .ok (.iload_n 1, 1) := by decide +kernel
theorem dX11_isStatement_1 : decode cX11_isStatement 1 = .ok (.ifCond .lt 20, 3) := by decide +kernel
theorem dX11_isStatement_4 : decode cX11_isStatement 4 = .ok (.iload_n 1, 1) := by decide +kernel
theorem dX11_isStatement_5 : decode cX11_isStatement 5 = .ok (.aload_n 0, 1) := by decide +kernel
theorem dX11_isStatement_6 : decode cX11_isStatement 6 = .ok (.getfield 53, 3) := by decide +kernel
theorem dX11_isStatement_9 : decode cX11_isStatement 9 = .ok (.aload_n 0, 1) := by decide +kernel
theorem dX11_isStatement_10 : decode cX11_isStatement 10 = .ok (.getfield 226, 3) := by decide +kernel
theorem dX11_isStatement_13 : decode cX11_isStatement 13 = .ok (.iaload, 1) := by decide +kernel
theorem dX11_isStatement_14 : decode cX11_isStatement 14 = .ok (.if_icmp .ge 7, 3) := by decide +kernel
theorem dX11_isStatement_17 : decode cX11_isStatement 17 = .ok (.iconst 1, 1) := by decide +kernel
theorem dX11_isStatement_18 : decode cX11_isStatement 18 = .ok (.goto 4, 3) := by decide +kernel
theorem dX11_isStatement_21 : decode cX11_isStatement 21 = .ok (.iconst 0, 1) := by decide +kernel
theorem dX11_isStatement_22 : decode cX11_isStatement 22 = .ok (.ireturn, 1) := by decide +kernel
theorem dX11_at_0 : decode cX11_at 0 = .ok (.sipush 200, 3) := by decide +kernel
theorem dX11_at_3 : decode cX11_at 3 = .ok (.aload_n 0, 1) := by decide +kernel
theorem dX11_at_4 : decode cX11_at 4 = .ok (.getfield 226, 3) := by decide +kernel
theorem dX11_at_7 : decode cX11_at 7 = .ok (.imul, 1) := by decide +kernel
theorem dX11_at_8 : decode cX11_at 8 = .ok (.iload_n 1, 1) := by decide +kernel
theorem dX11_at_9 : decode cX11_at 9 = .ok (.iadd, 1) := by decide +kernel
theorem dX11_at_10 : decode cX11_at 10 = .ok (.ireturn, 1) := by decide +kernel
theorem dX11_isBit_0 : decode cX11_isBit 0 = .ok (.aload_n 1, 1) := by decide +kernel
theorem dX11_isBit_1 : decode cX11_isBit 1 = .ok (.iconst 4, 1) := by decide +kernel
theorem dX11_isBit_2 : decode cX11_isBit 2 = .ok (.aload_n 0, 1) := by decide +kernel
theorem dX11_isBit_3 : decode cX11_isBit 3 = .ok (.iload_n 2, 1) := by decide +kernel
theorem dX11_isBit_4 : decode cX11_isBit 4 = .ok (.invokevirtual 344, 3) := by decide +kernel
theorem dX11_isBit_7 : decode cX11_isBit 7 = .ok (.imul, 1) := by decide +kernel
theorem dX11_isBit_8 : decode cX11_isBit 8 = .ok (.iload_n 3, 1) := by decide +kernel
theorem dX11_isBit_9 : decode cX11_isBit 9 = .ok (.bipush 64, 2) := by decide +kernel
theorem dX11_isBit_11 : decode cX11_isBit 11 = .ok (.idiv, 1) := by decide +kernel
theorem dX11_isBit_12 : decode cX11_isBit 12 = .ok (.iadd, 1) := by decide +kernel
theorem dX11_isBit_13 : decode cX11_isBit 13 = .ok (.laload, 1) := by decide +kernel
theorem dX11_isBit_14 : decode cX11_isBit 14 = .ok (.iload_n 3, 1) := by decide +kernel
theorem dX11_isBit_15 : decode cX11_isBit 15 = .ok (.bipush 64, 2) := by decide +kernel
theorem dX11_isBit_17 : decode cX11_isBit 17 = .ok (.irem, 1) := by decide +kernel
theorem dX11_isBit_18 : decode cX11_isBit 18 = .ok (.lushr, 1) := by decide +kernel
theorem dX11_isBit_19 : decode cX11_isBit 19 = .ok (.lconst 1, 1) := by decide +kernel
theorem dX11_isBit_20 : decode cX11_isBit 20 = .ok (.land, 1) := by decide +kernel
theorem dX11_isBit_21 : decode cX11_isBit 21 = .ok (.lconst 1, 1) := by decide +kernel
theorem dX11_isBit_22 : decode cX11_isBit 22 = .ok (.lcmp, 1) := by decide +kernel
theorem dX11_isBit_23 : decode cX11_isBit 23 = .ok (.ifCond .ne 7, 3) := by decide +kernel
theorem dX11_isBit_26 : decode cX11_isBit 26 = .ok (.iconst 1, 1) := by decide +kernel
theorem dX11_isBit_27 : decode cX11_isBit 27 = .ok (.goto 4, 3) := by decide +kernel
theorem dX11_isBit_30 : decode cX11_isBit 30 = .ok (.iconst 0, 1) := by decide +kernel
theorem dX11_isBit_31 : decode cX11_isBit 31 = .ok (.ireturn, 1) := by decide +kernel
theorem dX11_isKind_0 : decode cX11_isKind 0 = .ok (.aload_n 0, 1) := by decide +kernel
theorem dX11_isKind_1 : decode cX11_isKind 1 = .ok (.iload_n 1, 1) := by decide +kernel
theorem dX11_isKind_2 : decode cX11_isKind 2 = .ok (.invokevirtual 347, 3) := by decide +kernel
theorem dX11_isKind_5 : decode cX11_isKind 5 = .ok (.ifCond .eq 21, 3) := by decide +kernel
theorem dX11_isKind_8 : decode cX11_isKind 8 = .ok (.aload_n 0, 1) := by decide +kernel
theorem dX11_isKind_9 : decode cX11_isKind 9 = .ok (.getfield 29, 3) := by decide +kernel
theorem dX11_isKind_12 : decode cX11_isKind 12 = .ok (.aload_n 0, 1) := by decide +kernel
theorem dX11_isKind_13 : decode cX11_isKind 13 = .ok (.iload_n 1, 1) := by decide +kernel
theorem dX11_isKind_14 : decode cX11_isKind 14 = .ok (.invokevirtual 344, 3) := by decide +kernel
theorem dX11_isKind_17 : decode cX11_isKind 17 = .ok (.iaload, 1) := by decide +kernel
theorem dX11_isKind_18 : decode cX11_isKind 18 = .ok (.iload_n 2, 1) := by decide +kernel
theorem dX11_isKind_19 : decode cX11_isKind 19 = .ok (.if_icmp .lt 7, 3) := by decide +kernel
theorem dX11_isKind_22 : decode cX11_isKind 22 = .ok (.iconst 1, 1) := by decide +kernel
theorem dX11_isKind_23 : decode cX11_isKind 23 = .ok (.goto 4, 3) := by decide +kernel
theorem dX11_isKind_26 : decode cX11_isKind 26 = .ok (.iconst 0, 1) := by decide +kernel
theorem dX11_isKind_27 : decode cX11_isKind 27 = .ok (.ireturn, 1) := by decide +kernel
theorem dX11_hypotheses_0 : decode cX11_hypotheses 0 = .ok (.iconst 0, 1) := by decide +kernel
theorem dX11_hypotheses_1 : decode cX11_hypotheses 1 = .ok (.istore_n 2, 1) := by decide +kernel
theorem dX11_hypotheses_2 : decode cX11_hypotheses 2 = .ok (.iconst 0, 1) := by decide +kernel
theorem dX11_hypotheses_3 : decode cX11_hypotheses 3 = .ok (.istore_n 3, 1) := by decide +kernel
theorem dX11_hypotheses_4 : decode cX11_hypotheses 4 = .ok (.iload_n 3, 1) := by decide +kernel
theorem dX11_hypotheses_5 : decode cX11_hypotheses 5 = .ok (.sipush 200, 3) := by decide +kernel
theorem dX11_hypotheses_8 : decode cX11_hypotheses 8 = .ok (.if_icmp .ge 30, 3) := by decide +kernel
theorem dX11_hypotheses_11 : decode cX11_hypotheses 11 = .ok (.aload_n 0, 1) := by decide +kernel
theorem dX11_hypotheses_12 : decode cX11_hypotheses 12 = .ok (.aload_n 0, 1) := by decide +kernel
theorem dX11_hypotheses_13 : decode cX11_hypotheses 13 = .ok (.getfield 69, 3) := by decide +kernel
theorem dX11_hypotheses_16 : decode cX11_hypotheses 16 = .ok (.iload_n 1, 1) := by decide +kernel
theorem dX11_hypotheses_17 : decode cX11_hypotheses 17 = .ok (.iload_n 3, 1) := by decide +kernel
theorem dX11_hypotheses_18 : decode cX11_hypotheses 18 = .ok (.invokevirtual 350, 3) := by decide +kernel
theorem dX11_hypotheses_21 : decode cX11_hypotheses 21 = .ok (.ifCond .eq 9, 3) := by decide +kernel
theorem dX11_hypotheses_24 : decode cX11_hypotheses 24 = .ok (.iload_n 2, 1) := by decide +kernel
theorem dX11_hypotheses_25 : decode cX11_hypotheses 25 = .ok (.iconst 1, 1) := by decide +kernel
theorem dX11_hypotheses_26 : decode cX11_hypotheses 26 = .ok (.iadd, 1) := by decide +kernel
theorem dX11_hypotheses_27 : decode cX11_hypotheses 27 = .ok (.goto 4, 3) := by decide +kernel
theorem dX11_hypotheses_30 : decode cX11_hypotheses 30 = .ok (.iload_n 2, 1) := by decide +kernel
theorem dX11_hypotheses_31 : decode cX11_hypotheses 31 = .ok (.istore_n 2, 1) := by decide +kernel
theorem dX11_hypotheses_32 : decode cX11_hypotheses 32 = .ok (.iinc 3 1, 3) := by decide +kernel
theorem dX11_hypotheses_35 : decode cX11_hypotheses 35 = .ok (.goto (-31), 3) := by decide +kernel
theorem dX11_hypotheses_38 : decode cX11_hypotheses 38 = .ok (.iload_n 2, 1) := by decide +kernel
theorem dX11_hypotheses_39 : decode cX11_hypotheses 39 = .ok (.ireturn, 1) := by decide +kernel
theorem dX11_hypothesis_0 : decode cX11_hypothesis 0 = .ok (.iconst (-1), 1) := by decide +kernel
theorem dX11_hypothesis_1 : decode cX11_hypothesis 1 = .ok (.istore_n 3, 1) := by decide +kernel
theorem dX11_hypothesis_2 : decode cX11_hypothesis 2 = .ok (.iconst 0, 1) := by decide +kernel
theorem dX11_hypothesis_3 : decode cX11_hypothesis 3 = .ok (.istore 4, 2) := by decide +kernel
theorem dX11_hypothesis_5 : decode cX11_hypothesis 5 = .ok (.iload 4, 2) := by decide +kernel
theorem dX11_hypothesis_7 : decode cX11_hypothesis 7 = .ok (.iload_n 1, 1) := by decide +kernel
theorem dX11_hypothesis_8 : decode cX11_hypothesis 8 = .ok (.if_icmp .ge 39, 3) := by decide +kernel
theorem dX11_hypothesis_11 : decode cX11_hypothesis 11 = .ok (.aload_n 0, 1) := by decide +kernel
theorem dX11_hypothesis_12 : decode cX11_hypothesis 12 = .ok (.aload_n 0, 1) := by decide +kernel
theorem dX11_hypothesis_13 : decode cX11_hypothesis 13 = .ok (.getfield 69, 3) := by decide +kernel
theorem dX11_hypothesis_16 : decode cX11_hypothesis 16 = .ok (.iload_n 1, 1) := by decide +kernel
theorem dX11_hypothesis_17 : decode cX11_hypothesis 17 = .ok (.iload 4, 2) := by decide +kernel
theorem dX11_hypothesis_19 : decode cX11_hypothesis 19 = .ok (.invokevirtual 350, 3) := by decide +kernel
theorem dX11_hypothesis_22 : decode cX11_hypothesis 22 = .ok (.ifCond .eq 9, 3) := by decide +kernel
theorem dX11_hypothesis_25 : decode cX11_hypothesis 25 = .ok (.iload_n 3, 1) := by decide +kernel
theorem dX11_hypothesis_26 : decode cX11_hypothesis 26 = .ok (.iconst 1, 1) := by decide +kernel
theorem dX11_hypothesis_27 : decode cX11_hypothesis 27 = .ok (.iadd, 1) := by decide +kernel
theorem dX11_hypothesis_28 : decode cX11_hypothesis 28 = .ok (.goto 4, 3) := by decide +kernel
theorem dX11_hypothesis_31 : decode cX11_hypothesis 31 = .ok (.iload_n 3, 1) := by decide +kernel
theorem dX11_hypothesis_32 : decode cX11_hypothesis 32 = .ok (.istore_n 3, 1) := by decide +kernel
theorem dX11_hypothesis_33 : decode cX11_hypothesis 33 = .ok (.iload_n 3, 1) := by decide +kernel
theorem dX11_hypothesis_34 : decode cX11_hypothesis 34 = .ok (.iload_n 2, 1) := by decide +kernel
theorem dX11_hypothesis_35 : decode cX11_hypothesis 35 = .ok (.if_icmp .ne 6, 3) := by decide +kernel
theorem dX11_hypothesis_38 : decode cX11_hypothesis 38 = .ok (.iload 4, 2) := by decide +kernel
theorem dX11_hypothesis_40 : decode cX11_hypothesis 40 = .ok (.ireturn, 1) := by decide +kernel
theorem dX11_hypothesis_41 : decode cX11_hypothesis 41 = .ok (.iinc 4 1, 3) := by decide +kernel
theorem dX11_hypothesis_44 : decode cX11_hypothesis 44 = .ok (.goto (-39), 3) := by decide +kernel
theorem dX11_hypothesis_47 : decode cX11_hypothesis 47 = .ok (.bipush (-2), 2) := by decide +kernel
theorem dX11_hypothesis_49 : decode cX11_hypothesis 49 = .ok (.ireturn, 1) := by decide +kernel
theorem dX11_isPairAt_0 : decode cX11_isPairAt 0 = .ok (.aload_n 0, 1) := by decide +kernel
theorem dX11_isPairAt_1 : decode cX11_isPairAt 1 = .ok (.getfield 78, 3) := by decide +kernel
theorem dX11_isPairAt_4 : decode cX11_isPairAt 4 = .ok (.iload_n 1, 1) := by decide +kernel
theorem dX11_isPairAt_5 : decode cX11_isPairAt 5 = .ok (.iaload, 1) := by decide +kernel
theorem dX11_isPairAt_6 : decode cX11_isPairAt 6 = .ok (.iload_n 2, 1) := by decide +kernel
theorem dX11_isPairAt_7 : decode cX11_isPairAt 7 = .ok (.if_icmp .gt 17, 3) := by decide +kernel
theorem dX11_isPairAt_10 : decode cX11_isPairAt 10 = .ok (.aload_n 0, 1) := by decide +kernel
theorem dX11_isPairAt_11 : decode cX11_isPairAt 11 = .ok (.getfield 81, 3) := by decide +kernel
theorem dX11_isPairAt_14 : decode cX11_isPairAt 14 = .ok (.iload_n 1, 1) := by decide +kernel
theorem dX11_isPairAt_15 : decode cX11_isPairAt 15 = .ok (.iaload, 1) := by decide +kernel
theorem dX11_isPairAt_16 : decode cX11_isPairAt 16 = .ok (.iload_n 2, 1) := by decide +kernel
theorem dX11_isPairAt_17 : decode cX11_isPairAt 17 = .ok (.if_icmp .le 7, 3) := by decide +kernel
theorem dX11_isPairAt_20 : decode cX11_isPairAt 20 = .ok (.iconst 1, 1) := by decide +kernel
theorem dX11_isPairAt_21 : decode cX11_isPairAt 21 = .ok (.goto 4, 3) := by decide +kernel
theorem dX11_isPairAt_24 : decode cX11_isPairAt 24 = .ok (.iconst 0, 1) := by decide +kernel
theorem dX11_isPairAt_25 : decode cX11_isPairAt 25 = .ok (.ireturn, 1) := by decide +kernel
theorem dX11_apart_0 : decode cX11_apart 0 = .ok (.iload_n 2, 1) := by decide +kernel
theorem dX11_apart_1 : decode cX11_apart 1 = .ok (.iload_n 3, 1) := by decide +kernel
theorem dX11_apart_2 : decode cX11_apart 2 = .ok (.if_icmp .ge 7, 3) := by decide +kernel
theorem dX11_apart_5 : decode cX11_apart 5 = .ok (.iload_n 2, 1) := by decide +kernel
theorem dX11_apart_6 : decode cX11_apart 6 = .ok (.goto 4, 3) := by decide +kernel
theorem dX11_apart_9 : decode cX11_apart 9 = .ok (.iload_n 3, 1) := by decide +kernel
theorem dX11_apart_10 : decode cX11_apart 10 = .ok (.istore 4, 2) := by decide +kernel
theorem dX11_apart_12 : decode cX11_apart 12 = .ok (.iload_n 2, 1) := by decide +kernel
theorem dX11_apart_13 : decode cX11_apart 13 = .ok (.iload_n 3, 1) := by decide +kernel
theorem dX11_apart_14 : decode cX11_apart 14 = .ok (.if_icmp .ge 7, 3) := by decide +kernel
theorem dX11_apart_17 : decode cX11_apart 17 = .ok (.iload_n 3, 1) := by decide +kernel
theorem dX11_apart_18 : decode cX11_apart 18 = .ok (.goto 4, 3) := by decide +kernel
theorem dX11_apart_21 : decode cX11_apart 21 = .ok (.iload_n 2, 1) := by decide +kernel
theorem dX11_apart_22 : decode cX11_apart 22 = .ok (.istore 5, 2) := by decide +kernel
theorem dX11_apart_24 : decode cX11_apart 24 = .ok (.iconst 0, 1) := by decide +kernel
theorem dX11_apart_25 : decode cX11_apart 25 = .ok (.istore 6, 2) := by decide +kernel
theorem dX11_apart_27 : decode cX11_apart 27 = .ok (.sipush 10240, 3) := by decide +kernel
theorem dX11_apart_30 : decode cX11_apart 30 = .ok (.aload_n 0, 1) := by decide +kernel
theorem dX11_apart_31 : decode cX11_apart 31 = .ok (.getfield 226, 3) := by decide +kernel
theorem dX11_apart_34 : decode cX11_apart 34 = .ok (.imul, 1) := by decide +kernel
theorem dX11_apart_35 : decode cX11_apart 35 = .ok (.istore 7, 2) := by decide +kernel
theorem dX11_apart_37 : decode cX11_apart 37 = .ok (.iload 7, 2) := by decide +kernel
theorem dX11_apart_39 : decode cX11_apart 39 = .ok (.sipush 10240, 3) := by decide +kernel
theorem dX11_apart_42 : decode cX11_apart 42 = .ok (.aload_n 0, 1) := by decide +kernel
theorem dX11_apart_43 : decode cX11_apart 43 = .ok (.getfield 226, 3) := by decide +kernel
theorem dX11_apart_46 : decode cX11_apart 46 = .ok (.imul, 1) := by decide +kernel
theorem dX11_apart_47 : decode cX11_apart 47 = .ok (.aload_n 0, 1) := by decide +kernel
theorem dX11_apart_48 : decode cX11_apart 48 = .ok (.getfield 84, 3) := by decide +kernel
theorem dX11_apart_51 : decode cX11_apart 51 = .ok (.aload_n 0, 1) := by decide +kernel
theorem dX11_apart_52 : decode cX11_apart 52 = .ok (.getfield 226, 3) := by decide +kernel
theorem dX11_apart_55 : decode cX11_apart 55 = .ok (.iaload, 1) := by decide +kernel
theorem dX11_apart_56 : decode cX11_apart 56 = .ok (.iadd, 1) := by decide +kernel
theorem dX11_apart_57 : decode cX11_apart 57 = .ok (.if_icmp .ge 55, 3) := by decide +kernel
theorem dX11_apart_60 : decode cX11_apart 60 = .ok (.iload 6, 2) := by decide +kernel
theorem dX11_apart_62 : decode cX11_apart 62 = .ok (.ifCond .ne 50, 3) := by decide +kernel
theorem dX11_apart_65 : decode cX11_apart 65 = .ok (.aload_n 0, 1) := by decide +kernel
theorem dX11_apart_66 : decode cX11_apart 66 = .ok (.getfield 72, 3) := by decide +kernel
theorem dX11_apart_69 : decode cX11_apart 69 = .ok (.iload 7, 2) := by decide +kernel
theorem dX11_apart_71 : decode cX11_apart 71 = .ok (.iaload, 1) := by decide +kernel
theorem dX11_apart_72 : decode cX11_apart 72 = .ok (.iload 4, 2) := by decide +kernel
theorem dX11_apart_74 : decode cX11_apart 74 = .ok (.if_icmp .ne 29, 3) := by decide +kernel
theorem dX11_apart_77 : decode cX11_apart 77 = .ok (.aload_n 0, 1) := by decide +kernel
theorem dX11_apart_78 : decode cX11_apart 78 = .ok (.getfield 75, 3) := by decide +kernel
theorem dX11_apart_81 : decode cX11_apart 81 = .ok (.iload 7, 2) := by decide +kernel
theorem dX11_apart_83 : decode cX11_apart 83 = .ok (.iaload, 1) := by decide +kernel
theorem dX11_apart_84 : decode cX11_apart 84 = .ok (.iload 5, 2) := by decide +kernel
theorem dX11_apart_86 : decode cX11_apart 86 = .ok (.if_icmp .ne 17, 3) := by decide +kernel
theorem dX11_apart_89 : decode cX11_apart 89 = .ok (.aload_n 0, 1) := by decide +kernel
theorem dX11_apart_90 : decode cX11_apart 90 = .ok (.iload 7, 2) := by decide +kernel
theorem dX11_apart_92 : decode cX11_apart 92 = .ok (.iload_n 1, 1) := by decide +kernel
theorem dX11_apart_93 : decode cX11_apart 93 = .ok (.invokevirtual 354, 3) := by decide +kernel
theorem dX11_apart_96 : decode cX11_apart 96 = .ok (.ifCond .eq 7, 3) := by decide +kernel
theorem dX11_apart_99 : decode cX11_apart 99 = .ok (.iconst 1, 1) := by decide +kernel
theorem dX11_apart_100 : decode cX11_apart 100 = .ok (.goto 4, 3) := by decide +kernel
theorem dX11_apart_103 : decode cX11_apart 103 = .ok (.iconst 0, 1) := by decide +kernel
theorem dX11_apart_104 : decode cX11_apart 104 = .ok (.istore 6, 2) := by decide +kernel
theorem dX11_apart_106 : decode cX11_apart 106 = .ok (.iinc 7 1, 3) := by decide +kernel
theorem dX11_apart_109 : decode cX11_apart 109 = .ok (.goto (-72), 3) := by decide +kernel
theorem dX11_apart_112 : decode cX11_apart 112 = .ok (.iload 6, 2) := by decide +kernel
theorem dX11_apart_114 : decode cX11_apart 114 = .ok (.ireturn, 1) := by decide +kernel
theorem dX11_isMandatory_0 : decode cX11_isMandatory 0 = .ok (.iconst 0, 1) := by decide +kernel
theorem dX11_isMandatory_1 : decode cX11_isMandatory 1 = .ok (.istore_n 3, 1) := by decide +kernel
theorem dX11_isMandatory_2 : decode cX11_isMandatory 2 = .ok (.iconst 0, 1) := by decide +kernel
theorem dX11_isMandatory_3 : decode cX11_isMandatory 3 = .ok (.istore 4, 2) := by decide +kernel
theorem dX11_isMandatory_5 : decode cX11_isMandatory 5 = .ok (.iload 4, 2) := by decide +kernel
theorem dX11_isMandatory_7 : decode cX11_isMandatory 7 = .ok (.iload_n 1, 1) := by decide +kernel
theorem dX11_isMandatory_8 : decode cX11_isMandatory 8 = .ok (.if_icmp .ge 78, 3) := by decide +kernel
theorem dX11_isMandatory_11 : decode cX11_isMandatory 11 = .ok (.iload_n 3, 1) := by decide +kernel
theorem dX11_isMandatory_12 : decode cX11_isMandatory 12 = .ok (.ifCond .ne 74, 3) := by decide +kernel
theorem dX11_isMandatory_15 : decode cX11_isMandatory 15 = .ok (.aload_n 0, 1) := by decide +kernel
theorem dX11_isMandatory_16 : decode cX11_isMandatory 16 = .ok (.aload_n 0, 1) := by decide +kernel
theorem dX11_isMandatory_17 : decode cX11_isMandatory 17 = .ok (.getfield 69, 3) := by decide +kernel
theorem dX11_isMandatory_20 : decode cX11_isMandatory 20 = .ok (.iload_n 1, 1) := by decide +kernel
theorem dX11_isMandatory_21 : decode cX11_isMandatory 21 = .ok (.iload 4, 2) := by decide +kernel
theorem dX11_isMandatory_23 : decode cX11_isMandatory 23 = .ok (.invokevirtual 350, 3) := by decide +kernel
theorem dX11_isMandatory_26 : decode cX11_isMandatory 26 = .ok (.ifCond .eq 52, 3) := by decide +kernel
theorem dX11_isMandatory_29 : decode cX11_isMandatory 29 = .ok (.aload_n 0, 1) := by decide +kernel
theorem dX11_isMandatory_30 : decode cX11_isMandatory 30 = .ok (.getfield 29, 3) := by decide +kernel
theorem dX11_isMandatory_33 : decode cX11_isMandatory 33 = .ok (.aload_n 0, 1) := by decide +kernel
theorem dX11_isMandatory_34 : decode cX11_isMandatory 34 = .ok (.iload 4, 2) := by decide +kernel
theorem dX11_isMandatory_36 : decode cX11_isMandatory 36 = .ok (.invokevirtual 344, 3) := by decide +kernel
theorem dX11_isMandatory_39 : decode cX11_isMandatory 39 = .ok (.iaload, 1) := by decide +kernel
theorem dX11_isMandatory_40 : decode cX11_isMandatory 40 = .ok (.ifCond .ne 38, 3) := by decide +kernel
theorem dX11_isMandatory_43 : decode cX11_isMandatory 43 = .ok (.aload_n 0, 1) := by decide +kernel
theorem dX11_isMandatory_44 : decode cX11_isMandatory 44 = .ok (.getfield 56, 3) := by decide +kernel
theorem dX11_isMandatory_47 : decode cX11_isMandatory 47 = .ok (.sipush 4096, 3) := by decide +kernel
theorem dX11_isMandatory_50 : decode cX11_isMandatory 50 = .ok (.aload_n 0, 1) := by decide +kernel
theorem dX11_isMandatory_51 : decode cX11_isMandatory 51 = .ok (.getfield 226, 3) := by decide +kernel
theorem dX11_isMandatory_54 : decode cX11_isMandatory 54 = .ok (.imul, 1) := by decide +kernel
theorem dX11_isMandatory_55 : decode cX11_isMandatory 55 = .ok (.aload_n 0, 1) := by decide +kernel
theorem dX11_isMandatory_56 : decode cX11_isMandatory 56 = .ok (.getfield 41, 3) := by decide +kernel
theorem dX11_isMandatory_59 : decode cX11_isMandatory 59 = .ok (.aload_n 0, 1) := by decide +kernel
theorem dX11_isMandatory_60 : decode cX11_isMandatory 60 = .ok (.iload 4, 2) := by decide +kernel
theorem dX11_isMandatory_62 : decode cX11_isMandatory 62 = .ok (.invokevirtual 344, 3) := by decide +kernel
theorem dX11_isMandatory_65 : decode cX11_isMandatory 65 = .ok (.iaload, 1) := by decide +kernel
theorem dX11_isMandatory_66 : decode cX11_isMandatory 66 = .ok (.iadd, 1) := by decide +kernel
theorem dX11_isMandatory_67 : decode cX11_isMandatory 67 = .ok (.iconst 1, 1) := by decide +kernel
theorem dX11_isMandatory_68 : decode cX11_isMandatory 68 = .ok (.iadd, 1) := by decide +kernel
theorem dX11_isMandatory_69 : decode cX11_isMandatory 69 = .ok (.iaload, 1) := by decide +kernel
theorem dX11_isMandatory_70 : decode cX11_isMandatory 70 = .ok (.iload_n 2, 1) := by decide +kernel
theorem dX11_isMandatory_71 : decode cX11_isMandatory 71 = .ok (.if_icmp .ne 7, 3) := by decide +kernel
theorem dX11_isMandatory_74 : decode cX11_isMandatory 74 = .ok (.iconst 1, 1) := by decide +kernel
theorem dX11_isMandatory_75 : decode cX11_isMandatory 75 = .ok (.goto 4, 3) := by decide +kernel
theorem dX11_isMandatory_78 : decode cX11_isMandatory 78 = .ok (.iconst 0, 1) := by decide +kernel
theorem dX11_isMandatory_79 : decode cX11_isMandatory 79 = .ok (.istore_n 3, 1) := by decide +kernel
theorem dX11_isMandatory_80 : decode cX11_isMandatory 80 = .ok (.iinc 4 1, 3) := by decide +kernel
theorem dX11_isMandatory_83 : decode cX11_isMandatory 83 = .ok (.goto (-78), 3) := by decide +kernel
theorem dX11_isMandatory_86 : decode cX11_isMandatory 86 = .ok (.iload_n 3, 1) := by decide +kernel
theorem dX11_isMandatory_87 : decode cX11_isMandatory 87 = .ok (.ireturn, 1) := by decide +kernel
theorem dX11_framePair_0 : decode cX11_framePair 0 = .ok (.iconst 0, 1) := by decide +kernel
theorem dX11_framePair_1 : decode cX11_framePair 1 = .ok (.istore_n 3, 1) := by decide +kernel
theorem dX11_framePair_2 : decode cX11_framePair 2 = .ok (.iconst 0, 1) := by decide +kernel
theorem dX11_framePair_3 : decode cX11_framePair 3 = .ok (.istore 4, 2) := by decide +kernel
theorem dX11_framePair_5 : decode cX11_framePair 5 = .ok (.iload 4, 2) := by decide +kernel
theorem dX11_framePair_7 : decode cX11_framePair 7 = .ok (.aload_n 0, 1) := by decide +kernel
theorem dX11_framePair_8 : decode cX11_framePair 8 = .ok (.getfield 26, 3) := by decide +kernel
theorem dX11_framePair_11 : decode cX11_framePair 11 = .ok (.aload_n 0, 1) := by decide +kernel
theorem dX11_framePair_12 : decode cX11_framePair 12 = .ok (.getfield 226, 3) := by decide +kernel
theorem dX11_framePair_15 : decode cX11_framePair 15 = .ok (.iaload, 1) := by decide +kernel
theorem dX11_framePair_16 : decode cX11_framePair 16 = .ok (.if_icmp .ge 135, 3) := by decide +kernel
theorem dX11_framePair_19 : decode cX11_framePair 19 = .ok (.aload_n 0, 1) := by decide +kernel
theorem dX11_framePair_20 : decode cX11_framePair 20 = .ok (.getfield 22, 3) := by decide +kernel
theorem dX11_framePair_23 : decode cX11_framePair 23 = .ok (.sipush 300, 3) := by decide +kernel
theorem dX11_framePair_26 : decode cX11_framePair 26 = .ok (.aload_n 0, 1) := by decide +kernel
theorem dX11_framePair_27 : decode cX11_framePair 27 = .ok (.getfield 226, 3) := by decide +kernel
theorem dX11_framePair_30 : decode cX11_framePair 30 = .ok (.imul, 1) := by decide +kernel
theorem dX11_framePair_31 : decode cX11_framePair 31 = .ok (.iload 4, 2) := by decide +kernel
theorem dX11_framePair_33 : decode cX11_framePair 33 = .ok (.iadd, 1) := by decide +kernel
theorem dX11_framePair_34 : decode cX11_framePair 34 = .ok (.baload, 1) := by decide +kernel
theorem dX11_framePair_35 : decode cX11_framePair 35 = .ok (.ifCond .eq 17, 3) := by decide +kernel
theorem dX11_framePair_38 : decode cX11_framePair 38 = .ok (.aload_n 0, 1) := by decide +kernel
theorem dX11_framePair_39 : decode cX11_framePair 39 = .ok (.iload_n 1, 1) := by decide +kernel
theorem dX11_framePair_40 : decode cX11_framePair 40 = .ok (.iload 4, 2) := by decide +kernel
theorem dX11_framePair_42 : decode cX11_framePair 42 = .ok (.invokevirtual 357, 3) := by decide +kernel
theorem dX11_framePair_45 : decode cX11_framePair 45 = .ok (.ifCond .eq 7, 3) := by decide +kernel
theorem dX11_framePair_48 : decode cX11_framePair 48 = .ok (.iconst 1, 1) := by decide +kernel
theorem dX11_framePair_49 : decode cX11_framePair 49 = .ok (.goto 4, 3) := by decide +kernel
theorem dX11_framePair_52 : decode cX11_framePair 52 = .ok (.iconst 0, 1) := by decide +kernel
theorem dX11_framePair_53 : decode cX11_framePair 53 = .ok (.istore 5, 2) := by decide +kernel
theorem dX11_framePair_55 : decode cX11_framePair 55 = .ok (.iload 4, 2) := by decide +kernel
theorem dX11_framePair_57 : decode cX11_framePair 57 = .ok (.iconst 1, 1) := by decide +kernel
theorem dX11_framePair_58 : decode cX11_framePair 58 = .ok (.iadd, 1) := by decide +kernel
theorem dX11_framePair_59 : decode cX11_framePair 59 = .ok (.istore 6, 2) := by decide +kernel
theorem dX11_framePair_61 : decode cX11_framePair 61 = .ok (.iload 6, 2) := by decide +kernel
theorem dX11_framePair_63 : decode cX11_framePair 63 = .ok (.aload_n 0, 1) := by decide +kernel
theorem dX11_framePair_64 : decode cX11_framePair 64 = .ok (.getfield 26, 3) := by decide +kernel
theorem dX11_framePair_67 : decode cX11_framePair 67 = .ok (.aload_n 0, 1) := by decide +kernel
theorem dX11_framePair_68 : decode cX11_framePair 68 = .ok (.getfield 226, 3) := by decide +kernel
theorem dX11_framePair_71 : decode cX11_framePair 71 = .ok (.iaload, 1) := by decide +kernel
theorem dX11_framePair_72 : decode cX11_framePair 72 = .ok (.if_icmp .ge 73, 3) := by decide +kernel
theorem dX11_framePair_75 : decode cX11_framePair 75 = .ok (.iload 5, 2) := by decide +kernel
theorem dX11_framePair_77 : decode cX11_framePair 77 = .ok (.ifCond .eq 68, 3) := by decide +kernel
theorem dX11_framePair_80 : decode cX11_framePair 80 = .ok (.aload_n 0, 1) := by decide +kernel
theorem dX11_framePair_81 : decode cX11_framePair 81 = .ok (.getfield 22, 3) := by decide +kernel
theorem dX11_framePair_84 : decode cX11_framePair 84 = .ok (.sipush 300, 3) := by decide +kernel
theorem dX11_framePair_87 : decode cX11_framePair 87 = .ok (.aload_n 0, 1) := by decide +kernel
theorem dX11_framePair_88 : decode cX11_framePair 88 = .ok (.getfield 226, 3) := by decide +kernel
theorem dX11_framePair_91 : decode cX11_framePair 91 = .ok (.imul, 1) := by decide +kernel
theorem dX11_framePair_92 : decode cX11_framePair 92 = .ok (.iload 6, 2) := by decide +kernel
theorem dX11_framePair_94 : decode cX11_framePair 94 = .ok (.iadd, 1) := by decide +kernel
theorem dX11_framePair_95 : decode cX11_framePair 95 = .ok (.baload, 1) := by decide +kernel
theorem dX11_framePair_96 : decode cX11_framePair 96 = .ok (.ifCond .eq 43, 3) := by decide +kernel
theorem dX11_framePair_99 : decode cX11_framePair 99 = .ok (.aload_n 0, 1) := by decide +kernel
theorem dX11_framePair_100 : decode cX11_framePair 100 = .ok (.iload_n 1, 1) := by decide +kernel
theorem dX11_framePair_101 : decode cX11_framePair 101 = .ok (.iload 4, 2) := by decide +kernel
theorem dX11_framePair_103 : decode cX11_framePair 103 = .ok (.iload 6, 2) := by decide +kernel
theorem dX11_framePair_105 : decode cX11_framePair 105 = .ok (.invokevirtual 360, 3) := by decide +kernel
theorem dX11_framePair_108 : decode cX11_framePair 108 = .ok (.ifCond .eq 31, 3) := by decide +kernel
theorem dX11_framePair_111 : decode cX11_framePair 111 = .ok (.aload_n 0, 1) := by decide +kernel
theorem dX11_framePair_112 : decode cX11_framePair 112 = .ok (.iload_n 1, 1) := by decide +kernel
theorem dX11_framePair_113 : decode cX11_framePair 113 = .ok (.iload 6, 2) := by decide +kernel
theorem dX11_framePair_115 : decode cX11_framePair 115 = .ok (.invokevirtual 357, 3) := by decide +kernel
theorem dX11_framePair_118 : decode cX11_framePair 118 = .ok (.ifCond .eq 21, 3) := by decide +kernel
theorem dX11_framePair_121 : decode cX11_framePair 121 = .ok (.iload_n 3, 1) := by decide +kernel
theorem dX11_framePair_122 : decode cX11_framePair 122 = .ok (.iload_n 2, 1) := by decide +kernel
theorem dX11_framePair_123 : decode cX11_framePair 123 = .ok (.if_icmp .ne 13, 3) := by decide +kernel
theorem dX11_framePair_126 : decode cX11_framePair 126 = .ok (.sipush 1000, 3) := by decide +kernel
theorem dX11_framePair_129 : decode cX11_framePair 129 = .ok (.iload 4, 2) := by decide +kernel
theorem dX11_framePair_131 : decode cX11_framePair 131 = .ok (.imul, 1) := by decide +kernel
theorem dX11_framePair_132 : decode cX11_framePair 132 = .ok (.iload 6, 2) := by decide +kernel
theorem dX11_framePair_134 : decode cX11_framePair 134 = .ok (.iadd, 1) := by decide +kernel
theorem dX11_framePair_135 : decode cX11_framePair 135 = .ok (.ireturn, 1) := by decide +kernel
theorem dX11_framePair_136 : decode cX11_framePair 136 = .ok (.iinc 3 1, 3) := by decide +kernel
theorem dX11_framePair_139 : decode cX11_framePair 139 = .ok (.iinc 6 1, 3) := by decide +kernel
theorem dX11_framePair_142 : decode cX11_framePair 142 = .ok (.goto (-81), 3) := by decide +kernel
theorem dX11_framePair_145 : decode cX11_framePair 145 = .ok (.iinc 4 1, 3) := by decide +kernel
theorem dX11_framePair_148 : decode cX11_framePair 148 = .ok (.goto (-143), 3) := by decide +kernel
theorem dX11_framePair_151 : decode cX11_framePair 151 = .ok (.iload_n 2, 1) := by decide +kernel
theorem dX11_framePair_152 : decode cX11_framePair 152 = .ok (.iconst (-1), 1) := by decide +kernel
theorem dX11_framePair_153 : decode cX11_framePair 153 = .ok (.if_icmp .ne 7, 3) := by decide +kernel
theorem dX11_framePair_156 : decode cX11_framePair 156 = .ok (.iload_n 3, 1) := by decide +kernel
theorem dX11_framePair_157 : decode cX11_framePair 157 = .ok (.goto 5, 3) := by decide +kernel
theorem dX11_framePair_160 : decode cX11_framePair 160 = .ok (.bipush (-2), 2) := by decide +kernel
theorem dX11_framePair_162 : decode cX11_framePair 162 = .ok (.ireturn, 1) := by decide +kernel
theorem dX11_count_0 : decode cX11_count 0 = .ok (.iload_n 1, 1) := by decide +kernel
theorem dX11_count_1 : decode cX11_count 1 = .ok (.tableswitch 70 0 4 #[35, 45, 55, 60, 65], 35) := by decide +kernel
theorem dX11_count_36 : decode cX11_count 36 = .ok (.aload_n 0, 1) := by decide +kernel
theorem dX11_count_37 : decode cX11_count 37 = .ok (.getfield 26, 3) := by decide +kernel
theorem dX11_count_40 : decode cX11_count 40 = .ok (.aload_n 0, 1) := by decide +kernel
theorem dX11_count_41 : decode cX11_count 41 = .ok (.getfield 226, 3) := by decide +kernel
theorem dX11_count_44 : decode cX11_count 44 = .ok (.iaload, 1) := by decide +kernel
theorem dX11_count_45 : decode cX11_count 45 = .ok (.ireturn, 1) := by decide +kernel
theorem dX11_count_46 : decode cX11_count 46 = .ok (.aload_n 0, 1) := by decide +kernel
theorem dX11_count_47 : decode cX11_count 47 = .ok (.getfield 53, 3) := by decide +kernel
theorem dX11_count_50 : decode cX11_count 50 = .ok (.aload_n 0, 1) := by decide +kernel
theorem dX11_count_51 : decode cX11_count 51 = .ok (.getfield 226, 3) := by decide +kernel
theorem dX11_count_54 : decode cX11_count 54 = .ok (.iaload, 1) := by decide +kernel
theorem dX11_count_55 : decode cX11_count 55 = .ok (.ireturn, 1) := by decide +kernel
theorem dX11_count_56 : decode cX11_count 56 = .ok (.aload_n 0, 1) := by decide +kernel
theorem dX11_count_57 : decode cX11_count 57 = .ok (.getfield 197, 3) := by decide +kernel
theorem dX11_count_60 : decode cX11_count 60 = .ok (.ireturn, 1) := by decide +kernel
theorem dX11_count_61 : decode cX11_count 61 = .ok (.aload_n 0, 1) := by decide +kernel
theorem dX11_count_62 : decode cX11_count 62 = .ok (.getfield 332, 3) := by decide +kernel
theorem dX11_count_65 : decode cX11_count 65 = .ok (.ireturn, 1) := by decide +kernel
theorem dX11_count_66 : decode cX11_count 66 = .ok (.aload_n 0, 1) := by decide +kernel
theorem dX11_count_67 : decode cX11_count 67 = .ok (.getfield 329, 3) := by decide +kernel
theorem dX11_count_70 : decode cX11_count 70 = .ok (.ireturn, 1) := by decide +kernel
theorem dX11_count_71 : decode cX11_count 71 = .ok (.iconst (-1), 1) := by decide +kernel
theorem dX11_count_72 : decode cX11_count 72 = .ok (.ireturn, 1) := by decide +kernel
theorem dX11_statement_0 : decode cX11_statement 0 = .ok (.aload_n 0, 1) := by decide +kernel
theorem dX11_statement_1 : decode cX11_statement 1 = .ok (.iload_n 1, 1) := by decide +kernel
theorem dX11_statement_2 : decode cX11_statement 2 = .ok (.invokevirtual 347, 3) := by decide +kernel
theorem dX11_statement_5 : decode cX11_statement 5 = .ok (.ifCond .ne 5, 3) := by decide +kernel
theorem dX11_statement_8 : decode cX11_statement 8 = .ok (.iconst (-1), 1) := by decide +kernel
theorem dX11_statement_9 : decode cX11_statement 9 = .ok (.ireturn, 1) := by decide +kernel
theorem dX11_statement_10 : decode cX11_statement 10 = .ok (.iload_n 2, 1) := by decide +kernel
theorem dX11_statement_11 : decode cX11_statement 11 = .ok (.tableswitch 112 0 5 #[37, 48, 59, 70, 76, 101], 37) := by decide +kernel
theorem dX11_statement_48 : decode cX11_statement 48 = .ok (.aload_n 0, 1) := by decide +kernel
theorem dX11_statement_49 : decode cX11_statement 49 = .ok (.getfield 29, 3) := by decide +kernel
theorem dX11_statement_52 : decode cX11_statement 52 = .ok (.aload_n 0, 1) := by decide +kernel
theorem dX11_statement_53 : decode cX11_statement 53 = .ok (.iload_n 1, 1) := by decide +kernel
theorem dX11_statement_54 : decode cX11_statement 54 = .ok (.invokevirtual 344, 3) := by decide +kernel
theorem dX11_statement_57 : decode cX11_statement 57 = .ok (.iaload, 1) := by decide +kernel
theorem dX11_statement_58 : decode cX11_statement 58 = .ok (.ireturn, 1) := by decide +kernel
theorem dX11_statement_59 : decode cX11_statement 59 = .ok (.aload_n 0, 1) := by decide +kernel
theorem dX11_statement_60 : decode cX11_statement 60 = .ok (.getfield 44, 3) := by decide +kernel
theorem dX11_statement_63 : decode cX11_statement 63 = .ok (.aload_n 0, 1) := by decide +kernel
theorem dX11_statement_64 : decode cX11_statement 64 = .ok (.iload_n 1, 1) := by decide +kernel
theorem dX11_statement_65 : decode cX11_statement 65 = .ok (.invokevirtual 344, 3) := by decide +kernel
theorem dX11_statement_68 : decode cX11_statement 68 = .ok (.iaload, 1) := by decide +kernel
theorem dX11_statement_69 : decode cX11_statement 69 = .ok (.ireturn, 1) := by decide +kernel
theorem dX11_statement_70 : decode cX11_statement 70 = .ok (.aload_n 0, 1) := by decide +kernel
theorem dX11_statement_71 : decode cX11_statement 71 = .ok (.getfield 38, 3) := by decide +kernel
theorem dX11_statement_74 : decode cX11_statement 74 = .ok (.aload_n 0, 1) := by decide +kernel
theorem dX11_statement_75 : decode cX11_statement 75 = .ok (.iload_n 1, 1) := by decide +kernel
theorem dX11_statement_76 : decode cX11_statement 76 = .ok (.invokevirtual 344, 3) := by decide +kernel
theorem dX11_statement_79 : decode cX11_statement 79 = .ok (.iaload, 1) := by decide +kernel
theorem dX11_statement_80 : decode cX11_statement 80 = .ok (.ireturn, 1) := by decide +kernel
theorem dX11_statement_81 : decode cX11_statement 81 = .ok (.aload_n 0, 1) := by decide +kernel
theorem dX11_statement_82 : decode cX11_statement 82 = .ok (.iload_n 1, 1) := by decide +kernel
theorem dX11_statement_83 : decode cX11_statement 83 = .ok (.invokevirtual 364, 3) := by decide +kernel
theorem dX11_statement_86 : decode cX11_statement 86 = .ok (.ireturn, 1) := by decide +kernel
theorem dX11_statement_87 : decode cX11_statement 87 = .ok (.aload_n 0, 1) := by decide +kernel
theorem dX11_statement_88 : decode cX11_statement 88 = .ok (.getfield 29, 3) := by decide +kernel
theorem dX11_statement_91 : decode cX11_statement 91 = .ok (.aload_n 0, 1) := by decide +kernel
theorem dX11_statement_92 : decode cX11_statement 92 = .ok (.iload_n 1, 1) := by decide +kernel
theorem dX11_statement_93 : decode cX11_statement 93 = .ok (.invokevirtual 344, 3) := by decide +kernel
theorem dX11_statement_96 : decode cX11_statement 96 = .ok (.iaload, 1) := by decide +kernel
theorem dX11_statement_97 : decode cX11_statement 97 = .ok (.iconst 2, 1) := by decide +kernel
theorem dX11_statement_98 : decode cX11_statement 98 = .ok (.if_icmp .ge 7, 3) := by decide +kernel
theorem dX11_statement_101 : decode cX11_statement 101 = .ok (.iconst 0, 1) := by decide +kernel
theorem dX11_statement_102 : decode cX11_statement 102 = .ok (.goto 9, 3) := by decide +kernel
theorem dX11_statement_105 : decode cX11_statement 105 = .ok (.aload_n 0, 1) := by decide +kernel
theorem dX11_statement_106 : decode cX11_statement 106 = .ok (.iload_n 1, 1) := by decide +kernel
theorem dX11_statement_107 : decode cX11_statement 107 = .ok (.iconst (-1), 1) := by decide +kernel
theorem dX11_statement_108 : decode cX11_statement 108 = .ok (.invokevirtual 367, 3) := by decide +kernel
theorem dX11_statement_111 : decode cX11_statement 111 = .ok (.ireturn, 1) := by decide +kernel
theorem dX11_statement_112 : decode cX11_statement 112 = .ok (.aload_n 0, 1) := by decide +kernel
theorem dX11_statement_113 : decode cX11_statement 113 = .ok (.getfield 50, 3) := by decide +kernel
theorem dX11_statement_116 : decode cX11_statement 116 = .ok (.aload_n 0, 1) := by decide +kernel
theorem dX11_statement_117 : decode cX11_statement 117 = .ok (.iload_n 1, 1) := by decide +kernel
theorem dX11_statement_118 : decode cX11_statement 118 = .ok (.invokevirtual 344, 3) := by decide +kernel
theorem dX11_statement_121 : decode cX11_statement 121 = .ok (.iaload, 1) := by decide +kernel
theorem dX11_statement_122 : decode cX11_statement 122 = .ok (.ireturn, 1) := by decide +kernel
theorem dX11_statement_123 : decode cX11_statement 123 = .ok (.iconst (-1), 1) := by decide +kernel
theorem dX11_statement_124 : decode cX11_statement 124 = .ok (.ireturn, 1) := by decide +kernel
theorem dX11_symbol_0 : decode cX11_symbol 0 = .ok (.aload_n 0, 1) := by decide +kernel
theorem dX11_symbol_1 : decode cX11_symbol 1 = .ok (.iload_n 1, 1) := by decide +kernel
theorem dX11_symbol_2 : decode cX11_symbol 2 = .ok (.invokevirtual 347, 3) := by decide +kernel
theorem dX11_symbol_5 : decode cX11_symbol 5 = .ok (.ifCond .eq 21, 3) := by decide +kernel
theorem dX11_symbol_8 : decode cX11_symbol 8 = .ok (.iload_n 2, 1) := by decide +kernel
theorem dX11_symbol_9 : decode cX11_symbol 9 = .ok (.ifCond .lt 17, 3) := by decide +kernel
theorem dX11_symbol_12 : decode cX11_symbol 12 = .ok (.iload_n 2, 1) := by decide +kernel
theorem dX11_symbol_13 : decode cX11_symbol 13 = .ok (.aload_n 0, 1) := by decide +kernel
theorem dX11_symbol_14 : decode cX11_symbol 14 = .ok (.getfield 44, 3) := by decide +kernel
theorem dX11_symbol_17 : decode cX11_symbol 17 = .ok (.aload_n 0, 1) := by decide +kernel
theorem dX11_symbol_18 : decode cX11_symbol 18 = .ok (.iload_n 1, 1) := by decide +kernel
theorem dX11_symbol_19 : decode cX11_symbol 19 = .ok (.invokevirtual 344, 3) := by decide +kernel
theorem dX11_symbol_22 : decode cX11_symbol 22 = .ok (.iaload, 1) := by decide +kernel
theorem dX11_symbol_23 : decode cX11_symbol 23 = .ok (.if_icmp .lt 5, 3) := by decide +kernel
theorem dX11_symbol_26 : decode cX11_symbol 26 = .ok (.iconst (-1), 1) := by decide +kernel
theorem dX11_symbol_27 : decode cX11_symbol 27 = .ok (.ireturn, 1) := by decide +kernel
theorem dX11_symbol_28 : decode cX11_symbol 28 = .ok (.aload_n 0, 1) := by decide +kernel
theorem dX11_symbol_29 : decode cX11_symbol 29 = .ok (.getfield 56, 3) := by decide +kernel
theorem dX11_symbol_32 : decode cX11_symbol 32 = .ok (.sipush 4096, 3) := by decide +kernel
theorem dX11_symbol_35 : decode cX11_symbol 35 = .ok (.aload_n 0, 1) := by decide +kernel
theorem dX11_symbol_36 : decode cX11_symbol 36 = .ok (.getfield 226, 3) := by decide +kernel
theorem dX11_symbol_39 : decode cX11_symbol 39 = .ok (.imul, 1) := by decide +kernel
theorem dX11_symbol_40 : decode cX11_symbol 40 = .ok (.aload_n 0, 1) := by decide +kernel
theorem dX11_symbol_41 : decode cX11_symbol 41 = .ok (.getfield 41, 3) := by decide +kernel
theorem dX11_symbol_44 : decode cX11_symbol 44 = .ok (.aload_n 0, 1) := by decide +kernel
theorem dX11_symbol_45 : decode cX11_symbol 45 = .ok (.iload_n 1, 1) := by decide +kernel
theorem dX11_symbol_46 : decode cX11_symbol 46 = .ok (.invokevirtual 344, 3) := by decide +kernel
theorem dX11_symbol_49 : decode cX11_symbol 49 = .ok (.iaload, 1) := by decide +kernel
theorem dX11_symbol_50 : decode cX11_symbol 50 = .ok (.iadd, 1) := by decide +kernel
theorem dX11_symbol_51 : decode cX11_symbol 51 = .ok (.iload_n 2, 1) := by decide +kernel
theorem dX11_symbol_52 : decode cX11_symbol 52 = .ok (.iadd, 1) := by decide +kernel
theorem dX11_symbol_53 : decode cX11_symbol 53 = .ok (.iaload, 1) := by decide +kernel
theorem dX11_symbol_54 : decode cX11_symbol 54 = .ok (.ireturn, 1) := by decide +kernel
theorem dX11_name_0 : decode cX11_name 0 = .ok (.iload_n 2, 1) := by decide +kernel
theorem dX11_name_1 : decode cX11_name 1 = .ok (.ifCond .lt 42, 3) := by decide +kernel
theorem dX11_name_4 : decode cX11_name 4 = .ok (.iload_n 1, 1) := by decide +kernel
theorem dX11_name_5 : decode cX11_name 5 = .ok (.ifCond .ne 16, 3) := by decide +kernel
theorem dX11_name_8 : decode cX11_name 8 = .ok (.iload_n 2, 1) := by decide +kernel
theorem dX11_name_9 : decode cX11_name 9 = .ok (.aload_n 0, 1) := by decide +kernel
theorem dX11_name_10 : decode cX11_name 10 = .ok (.getfield 26, 3) := by decide +kernel
theorem dX11_name_13 : decode cX11_name 13 = .ok (.aload_n 0, 1) := by decide +kernel
theorem dX11_name_14 : decode cX11_name 14 = .ok (.getfield 226, 3) := by decide +kernel
theorem dX11_name_17 : decode cX11_name 17 = .ok (.iaload, 1) := by decide +kernel
theorem dX11_name_18 : decode cX11_name 18 = .ok (.if_icmp .lt 21, 3) := by decide +kernel
theorem dX11_name_21 : decode cX11_name 21 = .ok (.iload_n 1, 1) := by decide +kernel
theorem dX11_name_22 : decode cX11_name 22 = .ok (.iconst 1, 1) := by decide +kernel
theorem dX11_name_23 : decode cX11_name 23 = .ok (.if_icmp .ne 20, 3) := by decide +kernel
theorem dX11_name_26 : decode cX11_name 26 = .ok (.iload_n 2, 1) := by decide +kernel
theorem dX11_name_27 : decode cX11_name 27 = .ok (.aload_n 0, 1) := by decide +kernel
theorem dX11_name_28 : decode cX11_name 28 = .ok (.getfield 53, 3) := by decide +kernel
theorem dX11_name_31 : decode cX11_name 31 = .ok (.aload_n 0, 1) := by decide +kernel
theorem dX11_name_32 : decode cX11_name 32 = .ok (.getfield 226, 3) := by decide +kernel
theorem dX11_name_35 : decode cX11_name 35 = .ok (.iaload, 1) := by decide +kernel
theorem dX11_name_36 : decode cX11_name 36 = .ok (.if_icmp .ge 7, 3) := by decide +kernel
theorem dX11_name_39 : decode cX11_name 39 = .ok (.iconst 1, 1) := by decide +kernel
theorem dX11_name_40 : decode cX11_name 40 = .ok (.goto 4, 3) := by decide +kernel
theorem dX11_name_43 : decode cX11_name 43 = .ok (.iconst 0, 1) := by decide +kernel
theorem dX11_name_44 : decode cX11_name 44 = .ok (.istore 4, 2) := by decide +kernel
theorem dX11_name_46 : decode cX11_name 46 = .ok (.iload 4, 2) := by decide +kernel
theorem dX11_name_48 : decode cX11_name 48 = .ok (.ifCond .ne 5, 3) := by decide +kernel
theorem dX11_name_51 : decode cX11_name 51 = .ok (.iconst (-1), 1) := by decide +kernel
theorem dX11_name_52 : decode cX11_name 52 = .ok (.ireturn, 1) := by decide +kernel
theorem dX11_name_53 : decode cX11_name 53 = .ok (.iload_n 1, 1) := by decide +kernel
theorem dX11_name_54 : decode cX11_name 54 = .ok (.ifCond .ne 21, 3) := by decide +kernel
theorem dX11_name_57 : decode cX11_name 57 = .ok (.aload_n 0, 1) := by decide +kernel
theorem dX11_name_58 : decode cX11_name 58 = .ok (.getfield 19, 3) := by decide +kernel
theorem dX11_name_61 : decode cX11_name 61 = .ok (.sipush 300, 3) := by decide +kernel
theorem dX11_name_64 : decode cX11_name 64 = .ok (.aload_n 0, 1) := by decide +kernel
theorem dX11_name_65 : decode cX11_name 65 = .ok (.getfield 226, 3) := by decide +kernel
theorem dX11_name_68 : decode cX11_name 68 = .ok (.imul, 1) := by decide +kernel
theorem dX11_name_69 : decode cX11_name 69 = .ok (.iload_n 2, 1) := by decide +kernel
theorem dX11_name_70 : decode cX11_name 70 = .ok (.iadd, 1) := by decide +kernel
theorem dX11_name_71 : decode cX11_name 71 = .ok (.iaload, 1) := by decide +kernel
theorem dX11_name_72 : decode cX11_name 72 = .ok (.goto 13, 3) := by decide +kernel
theorem dX11_name_75 : decode cX11_name 75 = .ok (.aload_n 0, 1) := by decide +kernel
theorem dX11_name_76 : decode cX11_name 76 = .ok (.getfield 35, 3) := by decide +kernel
theorem dX11_name_79 : decode cX11_name 79 = .ok (.aload_n 0, 1) := by decide +kernel
theorem dX11_name_80 : decode cX11_name 80 = .ok (.iload_n 2, 1) := by decide +kernel
theorem dX11_name_81 : decode cX11_name 81 = .ok (.invokevirtual 344, 3) := by decide +kernel
theorem dX11_name_84 : decode cX11_name 84 = .ok (.iaload, 1) := by decide +kernel
theorem dX11_name_85 : decode cX11_name 85 = .ok (.istore 5, 2) := by decide +kernel
theorem dX11_name_87 : decode cX11_name 87 = .ok (.iload_n 1, 1) := by decide +kernel
theorem dX11_name_88 : decode cX11_name 88 = .ok (.ifCond .ne 21, 3) := by decide +kernel
theorem dX11_name_91 : decode cX11_name 91 = .ok (.aload_n 0, 1) := by decide +kernel
theorem dX11_name_92 : decode cX11_name 92 = .ok (.getfield 16, 3) := by decide +kernel
theorem dX11_name_95 : decode cX11_name 95 = .ok (.sipush 300, 3) := by decide +kernel
theorem dX11_name_98 : decode cX11_name 98 = .ok (.aload_n 0, 1) := by decide +kernel
theorem dX11_name_99 : decode cX11_name 99 = .ok (.getfield 226, 3) := by decide +kernel
theorem dX11_name_102 : decode cX11_name 102 = .ok (.imul, 1) := by decide +kernel
theorem dX11_name_103 : decode cX11_name 103 = .ok (.iload_n 2, 1) := by decide +kernel
theorem dX11_name_104 : decode cX11_name 104 = .ok (.iadd, 1) := by decide +kernel
theorem dX11_name_105 : decode cX11_name 105 = .ok (.iaload, 1) := by decide +kernel
theorem dX11_name_106 : decode cX11_name 106 = .ok (.goto 13, 3) := by decide +kernel
theorem dX11_name_109 : decode cX11_name 109 = .ok (.aload_n 0, 1) := by decide +kernel
theorem dX11_name_110 : decode cX11_name 110 = .ok (.getfield 32, 3) := by decide +kernel
theorem dX11_name_113 : decode cX11_name 113 = .ok (.aload_n 0, 1) := by decide +kernel
theorem dX11_name_114 : decode cX11_name 114 = .ok (.iload_n 2, 1) := by decide +kernel
theorem dX11_name_115 : decode cX11_name 115 = .ok (.invokevirtual 344, 3) := by decide +kernel
theorem dX11_name_118 : decode cX11_name 118 = .ok (.iaload, 1) := by decide +kernel
theorem dX11_name_119 : decode cX11_name 119 = .ok (.istore 6, 2) := by decide +kernel
theorem dX11_name_121 : decode cX11_name 121 = .ok (.iload_n 3, 1) := by decide +kernel
theorem dX11_name_122 : decode cX11_name 122 = .ok (.ifCond .lt 9, 3) := by decide +kernel
theorem dX11_name_125 : decode cX11_name 125 = .ok (.iload_n 3, 1) := by decide +kernel
theorem dX11_name_126 : decode cX11_name 126 = .ok (.iload 5, 2) := by decide +kernel
theorem dX11_name_128 : decode cX11_name 128 = .ok (.if_icmp .lt 7, 3) := by decide +kernel
theorem dX11_name_131 : decode cX11_name 131 = .ok (.iconst (-1), 1) := by decide +kernel
theorem dX11_name_132 : decode cX11_name 132 = .ok (.goto 21, 3) := by decide +kernel
theorem dX11_name_135 : decode cX11_name 135 = .ok (.aload_n 0, 1) := by decide +kernel
theorem dX11_name_136 : decode cX11_name 136 = .ok (.getfield 13, 3) := by decide +kernel
theorem dX11_name_139 : decode cX11_name 139 = .ok (.sipush 8192, 3) := by decide +kernel
theorem dX11_name_142 : decode cX11_name 142 = .ok (.aload_n 0, 1) := by decide +kernel
theorem dX11_name_143 : decode cX11_name 143 = .ok (.getfield 226, 3) := by decide +kernel
theorem dX11_name_146 : decode cX11_name 146 = .ok (.imul, 1) := by decide +kernel
theorem dX11_name_147 : decode cX11_name 147 = .ok (.iload 6, 2) := by decide +kernel
theorem dX11_name_149 : decode cX11_name 149 = .ok (.iadd, 1) := by decide +kernel
theorem dX11_name_150 : decode cX11_name 150 = .ok (.iload_n 3, 1) := by decide +kernel
theorem dX11_name_151 : decode cX11_name 151 = .ok (.iadd, 1) := by decide +kernel
theorem dX11_name_152 : decode cX11_name 152 = .ok (.iaload, 1) := by decide +kernel
theorem dX11_name_153 : decode cX11_name 153 = .ok (.ireturn, 1) := by decide +kernel
theorem dX11_frame_0 : decode cX11_frame 0 = .ok (.aload_n 0, 1) := by decide +kernel
theorem dX11_frame_1 : decode cX11_frame 1 = .ok (.iload_n 1, 1) := by decide +kernel
theorem dX11_frame_2 : decode cX11_frame 2 = .ok (.iconst 2, 1) := by decide +kernel
theorem dX11_frame_3 : decode cX11_frame 3 = .ok (.invokevirtual 371, 3) := by decide +kernel
theorem dX11_frame_6 : decode cX11_frame 6 = .ok (.ifCond .eq 12, 3) := by decide +kernel
theorem dX11_frame_9 : decode cX11_frame 9 = .ok (.iload_n 2, 1) := by decide +kernel
theorem dX11_frame_10 : decode cX11_frame 10 = .ok (.ifCond .lt 8, 3) := by decide +kernel
theorem dX11_frame_13 : decode cX11_frame 13 = .ok (.iload_n 2, 1) := by decide +kernel
theorem dX11_frame_14 : decode cX11_frame 14 = .ok (.iconst 2, 1) := by decide +kernel
theorem dX11_frame_15 : decode cX11_frame 15 = .ok (.if_icmp .le 5, 3) := by decide +kernel
theorem dX11_frame_18 : decode cX11_frame 18 = .ok (.iconst (-1), 1) := by decide +kernel
theorem dX11_frame_19 : decode cX11_frame 19 = .ok (.ireturn, 1) := by decide +kernel
theorem dX11_frame_20 : decode cX11_frame 20 = .ok (.iload_n 3, 1) := by decide +kernel
theorem dX11_frame_21 : decode cX11_frame 21 = .ok (.ifCond .ge 6, 3) := by decide +kernel
theorem dX11_frame_24 : decode cX11_frame 24 = .ok (.bipush (-2), 2) := by decide +kernel
theorem dX11_frame_26 : decode cX11_frame 26 = .ok (.ireturn, 1) := by decide +kernel
theorem dX11_frame_27 : decode cX11_frame 27 = .ok (.iload_n 2, 1) := by decide +kernel
theorem dX11_frame_28 : decode cX11_frame 28 = .ok (.ifCond .ne 10, 3) := by decide +kernel
theorem dX11_frame_31 : decode cX11_frame 31 = .ok (.aload_n 0, 1) := by decide +kernel
theorem dX11_frame_32 : decode cX11_frame 32 = .ok (.iload_n 1, 1) := by decide +kernel
theorem dX11_frame_33 : decode cX11_frame 33 = .ok (.iload_n 3, 1) := by decide +kernel
theorem dX11_frame_34 : decode cX11_frame 34 = .ok (.invokevirtual 374, 3) := by decide +kernel
theorem dX11_frame_37 : decode cX11_frame 37 = .ok (.ireturn, 1) := by decide +kernel
theorem dX11_frame_38 : decode cX11_frame 38 = .ok (.aload_n 0, 1) := by decide +kernel
theorem dX11_frame_39 : decode cX11_frame 39 = .ok (.iload_n 1, 1) := by decide +kernel
theorem dX11_frame_40 : decode cX11_frame 40 = .ok (.iload_n 3, 1) := by decide +kernel
theorem dX11_frame_41 : decode cX11_frame 41 = .ok (.invokevirtual 367, 3) := by decide +kernel
theorem dX11_frame_44 : decode cX11_frame 44 = .ok (.istore 4, 2) := by decide +kernel
theorem dX11_frame_46 : decode cX11_frame 46 = .ok (.iload 4, 2) := by decide +kernel
theorem dX11_frame_48 : decode cX11_frame 48 = .ok (.bipush (-2), 2) := by decide +kernel
theorem dX11_frame_50 : decode cX11_frame 50 = .ok (.if_icmp .ne 8, 3) := by decide +kernel
theorem dX11_frame_53 : decode cX11_frame 53 = .ok (.bipush (-2), 2) := by decide +kernel
theorem dX11_frame_55 : decode cX11_frame 55 = .ok (.goto 23, 3) := by decide +kernel
theorem dX11_frame_58 : decode cX11_frame 58 = .ok (.iload_n 2, 1) := by decide +kernel
theorem dX11_frame_59 : decode cX11_frame 59 = .ok (.iconst 1, 1) := by decide +kernel
theorem dX11_frame_60 : decode cX11_frame 60 = .ok (.if_icmp .ne 12, 3) := by decide +kernel
theorem dX11_frame_63 : decode cX11_frame 63 = .ok (.iload 4, 2) := by decide +kernel
theorem dX11_frame_65 : decode cX11_frame 65 = .ok (.sipush 1000, 3) := by decide +kernel
theorem dX11_frame_68 : decode cX11_frame 68 = .ok (.idiv, 1) := by decide +kernel
theorem dX11_frame_69 : decode cX11_frame 69 = .ok (.goto 9, 3) := by decide +kernel
theorem dX11_frame_72 : decode cX11_frame 72 = .ok (.iload 4, 2) := by decide +kernel
theorem dX11_frame_74 : decode cX11_frame 74 = .ok (.sipush 1000, 3) := by decide +kernel
theorem dX11_frame_77 : decode cX11_frame 77 = .ok (.irem, 1) := by decide +kernel
theorem dX11_frame_78 : decode cX11_frame 78 = .ok (.ireturn, 1) := by decide +kernel
theorem dX11_proofToken_0 : decode cX11_proofToken 0 = .ok (.sipush 4096, 3) := by decide +kernel
theorem dX11_proofToken_3 : decode cX11_proofToken 3 = .ok (.aload_n 0, 1) := by decide +kernel
theorem dX11_proofToken_4 : decode cX11_proofToken 4 = .ok (.getfield 226, 3) := by decide +kernel
theorem dX11_proofToken_7 : decode cX11_proofToken 7 = .ok (.imul, 1) := by decide +kernel
theorem dX11_proofToken_8 : decode cX11_proofToken 8 = .ok (.aload_n 0, 1) := by decide +kernel
theorem dX11_proofToken_9 : decode cX11_proofToken 9 = .ok (.getfield 47, 3) := by decide +kernel
theorem dX11_proofToken_12 : decode cX11_proofToken 12 = .ok (.aload_n 0, 1) := by decide +kernel
theorem dX11_proofToken_13 : decode cX11_proofToken 13 = .ok (.iload_n 1, 1) := by decide +kernel
theorem dX11_proofToken_14 : decode cX11_proofToken 14 = .ok (.invokevirtual 344, 3) := by decide +kernel
theorem dX11_proofToken_17 : decode cX11_proofToken 17 = .ok (.iaload, 1) := by decide +kernel
theorem dX11_proofToken_18 : decode cX11_proofToken 18 = .ok (.iadd, 1) := by decide +kernel
theorem dX11_proofToken_19 : decode cX11_proofToken 19 = .ok (.iload_n 2, 1) := by decide +kernel
theorem dX11_proofToken_20 : decode cX11_proofToken 20 = .ok (.iadd, 1) := by decide +kernel
theorem dX11_proofToken_21 : decode cX11_proofToken 21 = .ok (.ireturn, 1) := by decide +kernel
theorem dX11_isOne_0 : decode cX11_isOne 0 = .ok (.aload_n 0, 1) := by decide +kernel
theorem dX11_isOne_1 : decode cX11_isOne 1 = .ok (.iload_n 1, 1) := by decide +kernel
theorem dX11_isOne_2 : decode cX11_isOne 2 = .ok (.iload_n 2, 1) := by decide +kernel
theorem dX11_isOne_3 : decode cX11_isOne 3 = .ok (.invokevirtual 377, 3) := by decide +kernel
theorem dX11_isOne_6 : decode cX11_isOne 6 = .ok (.istore 4, 2) := by decide +kernel
theorem dX11_isOne_8 : decode cX11_isOne 8 = .ok (.aload_n 0, 1) := by decide +kernel
theorem dX11_isOne_9 : decode cX11_isOne 9 = .ok (.getfield 62, 3) := by decide +kernel
theorem dX11_isOne_12 : decode cX11_isOne 12 = .ok (.iload 4, 2) := by decide +kernel
theorem dX11_isOne_14 : decode cX11_isOne 14 = .ok (.iaload, 1) := by decide +kernel
theorem dX11_isOne_15 : decode cX11_isOne 15 = .ok (.iconst 1, 1) := by decide +kernel
theorem dX11_isOne_16 : decode cX11_isOne 16 = .ok (.if_icmp .ne 32, 3) := by decide +kernel
theorem dX11_isOne_19 : decode cX11_isOne 19 = .ok (.aload_n 0, 1) := by decide +kernel
theorem dX11_isOne_20 : decode cX11_isOne 20 = .ok (.getfield 13, 3) := by decide +kernel
theorem dX11_isOne_23 : decode cX11_isOne 23 = .ok (.sipush 8192, 3) := by decide +kernel
theorem dX11_isOne_26 : decode cX11_isOne 26 = .ok (.aload_n 0, 1) := by decide +kernel
theorem dX11_isOne_27 : decode cX11_isOne 27 = .ok (.getfield 226, 3) := by decide +kernel
theorem dX11_isOne_30 : decode cX11_isOne 30 = .ok (.imul, 1) := by decide +kernel
theorem dX11_isOne_31 : decode cX11_isOne 31 = .ok (.aload_n 0, 1) := by decide +kernel
theorem dX11_isOne_32 : decode cX11_isOne 32 = .ok (.getfield 59, 3) := by decide +kernel
theorem dX11_isOne_35 : decode cX11_isOne 35 = .ok (.iload 4, 2) := by decide +kernel
theorem dX11_isOne_37 : decode cX11_isOne 37 = .ok (.iaload, 1) := by decide +kernel
theorem dX11_isOne_38 : decode cX11_isOne 38 = .ok (.iadd, 1) := by decide +kernel
theorem dX11_isOne_39 : decode cX11_isOne 39 = .ok (.iaload, 1) := by decide +kernel
theorem dX11_isOne_40 : decode cX11_isOne 40 = .ok (.iload_n 3, 1) := by decide +kernel
theorem dX11_isOne_41 : decode cX11_isOne 41 = .ok (.if_icmp .ne 7, 3) := by decide +kernel
theorem dX11_isOne_44 : decode cX11_isOne 44 = .ok (.iconst 1, 1) := by decide +kernel
theorem dX11_isOne_45 : decode cX11_isOne 45 = .ok (.goto 4, 3) := by decide +kernel
theorem dX11_isOne_48 : decode cX11_isOne 48 = .ok (.iconst 0, 1) := by decide +kernel
theorem dX11_isOne_49 : decode cX11_isOne 49 = .ok (.ireturn, 1) := by decide +kernel
theorem dX11_namedBy_0 : decode cX11_namedBy 0 = .ok (.aload_n 0, 1) := by decide +kernel
theorem dX11_namedBy_1 : decode cX11_namedBy 1 = .ok (.iload_n 1, 1) := by decide +kernel
theorem dX11_namedBy_2 : decode cX11_namedBy 2 = .ok (.iload_n 2, 1) := by decide +kernel
theorem dX11_namedBy_3 : decode cX11_namedBy 3 = .ok (.invokevirtual 377, 3) := by decide +kernel
theorem dX11_namedBy_6 : decode cX11_namedBy 6 = .ok (.istore_n 3, 1) := by decide +kernel
theorem dX11_namedBy_7 : decode cX11_namedBy 7 = .ok (.iconst 0, 1) := by decide +kernel
theorem dX11_namedBy_8 : decode cX11_namedBy 8 = .ok (.istore 4, 2) := by decide +kernel
theorem dX11_namedBy_10 : decode cX11_namedBy 10 = .ok (.iload 4, 2) := by decide +kernel
theorem dX11_namedBy_12 : decode cX11_namedBy 12 = .ok (.iload_n 1, 1) := by decide +kernel
theorem dX11_namedBy_13 : decode cX11_namedBy 13 = .ok (.if_icmp .ge 130, 3) := by decide +kernel
theorem dX11_namedBy_16 : decode cX11_namedBy 16 = .ok (.aload_n 0, 1) := by decide +kernel
theorem dX11_namedBy_17 : decode cX11_namedBy 17 = .ok (.getfield 35, 3) := by decide +kernel
theorem dX11_namedBy_20 : decode cX11_namedBy 20 = .ok (.aload_n 0, 1) := by decide +kernel
theorem dX11_namedBy_21 : decode cX11_namedBy 21 = .ok (.iload 4, 2) := by decide +kernel
theorem dX11_namedBy_23 : decode cX11_namedBy 23 = .ok (.invokevirtual 344, 3) := by decide +kernel
theorem dX11_namedBy_26 : decode cX11_namedBy 26 = .ok (.iaload, 1) := by decide +kernel
theorem dX11_namedBy_27 : decode cX11_namedBy 27 = .ok (.aload_n 0, 1) := by decide +kernel
theorem dX11_namedBy_28 : decode cX11_namedBy 28 = .ok (.getfield 62, 3) := by decide +kernel
theorem dX11_namedBy_31 : decode cX11_namedBy 31 = .ok (.iload_n 3, 1) := by decide +kernel
theorem dX11_namedBy_32 : decode cX11_namedBy 32 = .ok (.iaload, 1) := by decide +kernel
theorem dX11_namedBy_33 : decode cX11_namedBy 33 = .ok (.if_icmp .ne 7, 3) := by decide +kernel
theorem dX11_namedBy_36 : decode cX11_namedBy 36 = .ok (.iconst 1, 1) := by decide +kernel
theorem dX11_namedBy_37 : decode cX11_namedBy 37 = .ok (.goto 4, 3) := by decide +kernel
theorem dX11_namedBy_40 : decode cX11_namedBy 40 = .ok (.iconst 0, 1) := by decide +kernel
theorem dX11_namedBy_41 : decode cX11_namedBy 41 = .ok (.istore 5, 2) := by decide +kernel
theorem dX11_namedBy_43 : decode cX11_namedBy 43 = .ok (.iconst 0, 1) := by decide +kernel
theorem dX11_namedBy_44 : decode cX11_namedBy 44 = .ok (.istore 6, 2) := by decide +kernel
theorem dX11_namedBy_46 : decode cX11_namedBy 46 = .ok (.iload 6, 2) := by decide +kernel
theorem dX11_namedBy_48 : decode cX11_namedBy 48 = .ok (.aload_n 0, 1) := by decide +kernel
theorem dX11_namedBy_49 : decode cX11_namedBy 49 = .ok (.getfield 62, 3) := by decide +kernel
theorem dX11_namedBy_52 : decode cX11_namedBy 52 = .ok (.iload_n 3, 1) := by decide +kernel
theorem dX11_namedBy_53 : decode cX11_namedBy 53 = .ok (.iaload, 1) := by decide +kernel
theorem dX11_namedBy_54 : decode cX11_namedBy 54 = .ok (.if_icmp .ge 75, 3) := by decide +kernel
theorem dX11_namedBy_57 : decode cX11_namedBy 57 = .ok (.iload 5, 2) := by decide +kernel
theorem dX11_namedBy_59 : decode cX11_namedBy 59 = .ok (.ifCond .eq 70, 3) := by decide +kernel
theorem dX11_namedBy_62 : decode cX11_namedBy 62 = .ok (.aload_n 0, 1) := by decide +kernel
theorem dX11_namedBy_63 : decode cX11_namedBy 63 = .ok (.getfield 13, 3) := by decide +kernel
theorem dX11_namedBy_66 : decode cX11_namedBy 66 = .ok (.sipush 8192, 3) := by decide +kernel
theorem dX11_namedBy_69 : decode cX11_namedBy 69 = .ok (.aload_n 0, 1) := by decide +kernel
theorem dX11_namedBy_70 : decode cX11_namedBy 70 = .ok (.getfield 226, 3) := by decide +kernel
theorem dX11_namedBy_73 : decode cX11_namedBy 73 = .ok (.imul, 1) := by decide +kernel
theorem dX11_namedBy_74 : decode cX11_namedBy 74 = .ok (.aload_n 0, 1) := by decide +kernel
theorem dX11_namedBy_75 : decode cX11_namedBy 75 = .ok (.getfield 32, 3) := by decide +kernel
theorem dX11_namedBy_78 : decode cX11_namedBy 78 = .ok (.aload_n 0, 1) := by decide +kernel
theorem dX11_namedBy_79 : decode cX11_namedBy 79 = .ok (.iload 4, 2) := by decide +kernel
theorem dX11_namedBy_81 : decode cX11_namedBy 81 = .ok (.invokevirtual 344, 3) := by decide +kernel
theorem dX11_namedBy_84 : decode cX11_namedBy 84 = .ok (.iaload, 1) := by decide +kernel
theorem dX11_namedBy_85 : decode cX11_namedBy 85 = .ok (.iadd, 1) := by decide +kernel
theorem dX11_namedBy_86 : decode cX11_namedBy 86 = .ok (.iload 6, 2) := by decide +kernel
theorem dX11_namedBy_88 : decode cX11_namedBy 88 = .ok (.iadd, 1) := by decide +kernel
theorem dX11_namedBy_89 : decode cX11_namedBy 89 = .ok (.iaload, 1) := by decide +kernel
theorem dX11_namedBy_90 : decode cX11_namedBy 90 = .ok (.aload_n 0, 1) := by decide +kernel
theorem dX11_namedBy_91 : decode cX11_namedBy 91 = .ok (.getfield 13, 3) := by decide +kernel
theorem dX11_namedBy_94 : decode cX11_namedBy 94 = .ok (.sipush 8192, 3) := by decide +kernel
theorem dX11_namedBy_97 : decode cX11_namedBy 97 = .ok (.aload_n 0, 1) := by decide +kernel
theorem dX11_namedBy_98 : decode cX11_namedBy 98 = .ok (.getfield 226, 3) := by decide +kernel
theorem dX11_namedBy_101 : decode cX11_namedBy 101 = .ok (.imul, 1) := by decide +kernel
theorem dX11_namedBy_102 : decode cX11_namedBy 102 = .ok (.aload_n 0, 1) := by decide +kernel
theorem dX11_namedBy_103 : decode cX11_namedBy 103 = .ok (.getfield 59, 3) := by decide +kernel
theorem dX11_namedBy_106 : decode cX11_namedBy 106 = .ok (.iload_n 3, 1) := by decide +kernel
theorem dX11_namedBy_107 : decode cX11_namedBy 107 = .ok (.iaload, 1) := by decide +kernel
theorem dX11_namedBy_108 : decode cX11_namedBy 108 = .ok (.iadd, 1) := by decide +kernel
theorem dX11_namedBy_109 : decode cX11_namedBy 109 = .ok (.iload 6, 2) := by decide +kernel
theorem dX11_namedBy_111 : decode cX11_namedBy 111 = .ok (.iadd, 1) := by decide +kernel
theorem dX11_namedBy_112 : decode cX11_namedBy 112 = .ok (.iaload, 1) := by decide +kernel
theorem dX11_namedBy_113 : decode cX11_namedBy 113 = .ok (.if_icmp .ne 7, 3) := by decide +kernel
theorem dX11_namedBy_116 : decode cX11_namedBy 116 = .ok (.iconst 1, 1) := by decide +kernel
theorem dX11_namedBy_117 : decode cX11_namedBy 117 = .ok (.goto 4, 3) := by decide +kernel
theorem dX11_namedBy_120 : decode cX11_namedBy 120 = .ok (.iconst 0, 1) := by decide +kernel
theorem dX11_namedBy_121 : decode cX11_namedBy 121 = .ok (.istore 5, 2) := by decide +kernel
theorem dX11_namedBy_123 : decode cX11_namedBy 123 = .ok (.iinc 6 1, 3) := by decide +kernel
theorem dX11_namedBy_126 : decode cX11_namedBy 126 = .ok (.goto (-80), 3) := by decide +kernel
theorem dX11_namedBy_129 : decode cX11_namedBy 129 = .ok (.iload 5, 2) := by decide +kernel
theorem dX11_namedBy_131 : decode cX11_namedBy 131 = .ok (.ifCond .eq 6, 3) := by decide +kernel
theorem dX11_namedBy_134 : decode cX11_namedBy 134 = .ok (.iload 4, 2) := by decide +kernel
theorem dX11_namedBy_136 : decode cX11_namedBy 136 = .ok (.ireturn, 1) := by decide +kernel
theorem dX11_namedBy_137 : decode cX11_namedBy 137 = .ok (.iinc 4 1, 3) := by decide +kernel
theorem dX11_namedBy_140 : decode cX11_namedBy 140 = .ok (.goto (-130), 3) := by decide +kernel
theorem dX11_namedBy_143 : decode cX11_namedBy 143 = .ok (.iconst (-1), 1) := by decide +kernel
theorem dX11_namedBy_144 : decode cX11_namedBy 144 = .ok (.ireturn, 1) := by decide +kernel
theorem dX11_isCompressed_0 : decode cX11_isCompressed 0 = .ok (.aload_n 0, 1) := by decide +kernel
theorem dX11_isCompressed_1 : decode cX11_isCompressed 1 = .ok (.getfield 50, 3) := by decide +kernel
theorem dX11_isCompressed_4 : decode cX11_isCompressed 4 = .ok (.aload_n 0, 1) := by decide +kernel
theorem dX11_isCompressed_5 : decode cX11_isCompressed 5 = .ok (.iload_n 1, 1) := by decide +kernel
theorem dX11_isCompressed_6 : decode cX11_isCompressed 6 = .ok (.invokevirtual 344, 3) := by decide +kernel
theorem dX11_isCompressed_9 : decode cX11_isCompressed 9 = .ok (.iaload, 1) := by decide +kernel
theorem dX11_isCompressed_10 : decode cX11_isCompressed 10 = .ok (.ifCond .le 18, 3) := by decide +kernel
theorem dX11_isCompressed_13 : decode cX11_isCompressed 13 = .ok (.aload_n 0, 1) := by decide +kernel
theorem dX11_isCompressed_14 : decode cX11_isCompressed 14 = .ok (.iload_n 1, 1) := by decide +kernel
theorem dX11_isCompressed_15 : decode cX11_isCompressed 15 = .ok (.iconst 0, 1) := by decide +kernel
theorem dX11_isCompressed_16 : decode cX11_isCompressed 16 = .ok (.bipush 40, 2) := by decide +kernel
theorem dX11_isCompressed_18 : decode cX11_isCompressed 18 = .ok (.invokevirtual 380, 3) := by decide +kernel
theorem dX11_isCompressed_21 : decode cX11_isCompressed 21 = .ok (.ifCond .eq 7, 3) := by decide +kernel
theorem dX11_isCompressed_24 : decode cX11_isCompressed 24 = .ok (.iconst 1, 1) := by decide +kernel
theorem dX11_isCompressed_25 : decode cX11_isCompressed 25 = .ok (.goto 4, 3) := by decide +kernel
theorem dX11_isCompressed_28 : decode cX11_isCompressed 28 = .ok (.iconst 0, 1) := by decide +kernel
theorem dX11_isCompressed_29 : decode cX11_isCompressed 29 = .ok (.ireturn, 1) := by decide +kernel
theorem dX11_listEnd_0 : decode cX11_listEnd 0 = .ok (.iconst 1, 1) := by decide +kernel
theorem dX11_listEnd_1 : decode cX11_listEnd 1 = .ok (.istore_n 2, 1) := by decide +kernel
theorem dX11_listEnd_2 : decode cX11_listEnd 2 = .ok (.iload_n 2, 1) := by decide +kernel
theorem dX11_listEnd_3 : decode cX11_listEnd 3 = .ok (.aload_n 0, 1) := by decide +kernel
theorem dX11_listEnd_4 : decode cX11_listEnd 4 = .ok (.getfield 50, 3) := by decide +kernel
theorem dX11_listEnd_7 : decode cX11_listEnd 7 = .ok (.aload_n 0, 1) := by decide +kernel
theorem dX11_listEnd_8 : decode cX11_listEnd 8 = .ok (.iload_n 1, 1) := by decide +kernel
theorem dX11_listEnd_9 : decode cX11_listEnd 9 = .ok (.invokevirtual 344, 3) := by decide +kernel
theorem dX11_listEnd_12 : decode cX11_listEnd 12 = .ok (.iaload, 1) := by decide +kernel
theorem dX11_listEnd_13 : decode cX11_listEnd 13 = .ok (.if_icmp .ge 20, 3) := by decide +kernel
theorem dX11_listEnd_16 : decode cX11_listEnd 16 = .ok (.aload_n 0, 1) := by decide +kernel
theorem dX11_listEnd_17 : decode cX11_listEnd 17 = .ok (.iload_n 1, 1) := by decide +kernel
theorem dX11_listEnd_18 : decode cX11_listEnd 18 = .ok (.iload_n 2, 1) := by decide +kernel
theorem dX11_listEnd_19 : decode cX11_listEnd 19 = .ok (.bipush 41, 2) := by decide +kernel
theorem dX11_listEnd_21 : decode cX11_listEnd 21 = .ok (.invokevirtual 380, 3) := by decide +kernel
theorem dX11_listEnd_24 : decode cX11_listEnd 24 = .ok (.ifCond .ne 9, 3) := by decide +kernel
theorem dX11_listEnd_27 : decode cX11_listEnd 27 = .ok (.iinc 2 1, 3) := by decide +kernel
theorem dX11_listEnd_30 : decode cX11_listEnd 30 = .ok (.goto (-28), 3) := by decide +kernel
theorem dX11_listEnd_33 : decode cX11_listEnd 33 = .ok (.iload_n 2, 1) := by decide +kernel
theorem dX11_listEnd_34 : decode cX11_listEnd 34 = .ok (.ireturn, 1) := by decide +kernel
theorem dX11_takeLetters_0 : decode cX11_takeLetters 0 = .ok (.aload_n 0, 1) := by decide +kernel
theorem dX11_takeLetters_1 : decode cX11_takeLetters 1 = .ok (.iconst 0, 1) := by decide +kernel
theorem dX11_takeLetters_2 : decode cX11_takeLetters 2 = .ok (.putfield 383, 3) := by decide +kernel
theorem dX11_takeLetters_5 : decode cX11_takeLetters 5 = .ok (.aload_n 0, 1) := by decide +kernel
theorem dX11_takeLetters_6 : decode cX11_takeLetters 6 = .ok (.iload_n 1, 1) := by decide +kernel
theorem dX11_takeLetters_7 : decode cX11_takeLetters 7 = .ok (.invokevirtual 386, 3) := by decide +kernel
theorem dX11_takeLetters_10 : decode cX11_takeLetters 10 = .ok (.iconst 1, 1) := by decide +kernel
theorem dX11_takeLetters_11 : decode cX11_takeLetters 11 = .ok (.iadd, 1) := by decide +kernel
theorem dX11_takeLetters_12 : decode cX11_takeLetters 12 = .ok (.istore_n 2, 1) := by decide +kernel
theorem dX11_takeLetters_13 : decode cX11_takeLetters 13 = .ok (.iload_n 2, 1) := by decide +kernel
theorem dX11_takeLetters_14 : decode cX11_takeLetters 14 = .ok (.aload_n 0, 1) := by decide +kernel
theorem dX11_takeLetters_15 : decode cX11_takeLetters 15 = .ok (.getfield 50, 3) := by decide +kernel
theorem dX11_takeLetters_18 : decode cX11_takeLetters 18 = .ok (.aload_n 0, 1) := by decide +kernel
theorem dX11_takeLetters_19 : decode cX11_takeLetters 19 = .ok (.iload_n 1, 1) := by decide +kernel
theorem dX11_takeLetters_20 : decode cX11_takeLetters 20 = .ok (.invokevirtual 344, 3) := by decide +kernel
theorem dX11_takeLetters_23 : decode cX11_takeLetters 23 = .ok (.iaload, 1) := by decide +kernel
theorem dX11_takeLetters_24 : decode cX11_takeLetters 24 = .ok (.if_icmp .ge 78, 3) := by decide +kernel
theorem dX11_takeLetters_27 : decode cX11_takeLetters 27 = .ok (.aload_n 0, 1) := by decide +kernel
theorem dX11_takeLetters_28 : decode cX11_takeLetters 28 = .ok (.iload_n 1, 1) := by decide +kernel
theorem dX11_takeLetters_29 : decode cX11_takeLetters 29 = .ok (.iload_n 2, 1) := by decide +kernel
theorem dX11_takeLetters_30 : decode cX11_takeLetters 30 = .ok (.invokevirtual 377, 3) := by decide +kernel
theorem dX11_takeLetters_33 : decode cX11_takeLetters 33 = .ok (.istore_n 3, 1) := by decide +kernel
theorem dX11_takeLetters_34 : decode cX11_takeLetters 34 = .ok (.iconst 0, 1) := by decide +kernel
theorem dX11_takeLetters_35 : decode cX11_takeLetters 35 = .ok (.istore 4, 2) := by decide +kernel
theorem dX11_takeLetters_37 : decode cX11_takeLetters 37 = .ok (.iload 4, 2) := by decide +kernel
theorem dX11_takeLetters_39 : decode cX11_takeLetters 39 = .ok (.aload_n 0, 1) := by decide +kernel
theorem dX11_takeLetters_40 : decode cX11_takeLetters 40 = .ok (.getfield 62, 3) := by decide +kernel
theorem dX11_takeLetters_43 : decode cX11_takeLetters 43 = .ok (.iload_n 3, 1) := by decide +kernel
theorem dX11_takeLetters_44 : decode cX11_takeLetters 44 = .ok (.iaload, 1) := by decide +kernel
theorem dX11_takeLetters_45 : decode cX11_takeLetters 45 = .ok (.if_icmp .ge 51, 3) := by decide +kernel
theorem dX11_takeLetters_48 : decode cX11_takeLetters 48 = .ok (.aload_n 0, 1) := by decide +kernel
theorem dX11_takeLetters_49 : decode cX11_takeLetters 49 = .ok (.getfield 108, 3) := by decide +kernel
theorem dX11_takeLetters_52 : decode cX11_takeLetters 52 = .ok (.aload_n 0, 1) := by decide +kernel
theorem dX11_takeLetters_53 : decode cX11_takeLetters 53 = .ok (.getfield 383, 3) := by decide +kernel
theorem dX11_takeLetters_56 : decode cX11_takeLetters 56 = .ok (.aload_n 0, 1) := by decide +kernel
theorem dX11_takeLetters_57 : decode cX11_takeLetters 57 = .ok (.getfield 13, 3) := by decide +kernel
theorem dX11_takeLetters_60 : decode cX11_takeLetters 60 = .ok (.sipush 8192, 3) := by decide +kernel
theorem dX11_takeLetters_63 : decode cX11_takeLetters 63 = .ok (.aload_n 0, 1) := by decide +kernel
theorem dX11_takeLetters_64 : decode cX11_takeLetters 64 = .ok (.getfield 226, 3) := by decide +kernel
theorem dX11_takeLetters_67 : decode cX11_takeLetters 67 = .ok (.imul, 1) := by decide +kernel
theorem dX11_takeLetters_68 : decode cX11_takeLetters 68 = .ok (.aload_n 0, 1) := by decide +kernel
theorem dX11_takeLetters_69 : decode cX11_takeLetters 69 = .ok (.getfield 59, 3) := by decide +kernel
theorem dX11_takeLetters_72 : decode cX11_takeLetters 72 = .ok (.iload_n 3, 1) := by decide +kernel
theorem dX11_takeLetters_73 : decode cX11_takeLetters 73 = .ok (.iaload, 1) := by decide +kernel
theorem dX11_takeLetters_74 : decode cX11_takeLetters 74 = .ok (.iadd, 1) := by decide +kernel
theorem dX11_takeLetters_75 : decode cX11_takeLetters 75 = .ok (.iload 4, 2) := by decide +kernel
theorem dX11_takeLetters_77 : decode cX11_takeLetters 77 = .ok (.iadd, 1) := by decide +kernel
theorem dX11_takeLetters_78 : decode cX11_takeLetters 78 = .ok (.iaload, 1) := by decide +kernel
theorem dX11_takeLetters_79 : decode cX11_takeLetters 79 = .ok (.iastore, 1) := by decide +kernel
theorem dX11_takeLetters_80 : decode cX11_takeLetters 80 = .ok (.aload_n 0, 1) := by decide +kernel
theorem dX11_takeLetters_81 : decode cX11_takeLetters 81 = .ok (.dup, 1) := by decide +kernel
theorem dX11_takeLetters_82 : decode cX11_takeLetters 82 = .ok (.getfield 383, 3) := by decide +kernel
theorem dX11_takeLetters_85 : decode cX11_takeLetters 85 = .ok (.iconst 1, 1) := by decide +kernel
theorem dX11_takeLetters_86 : decode cX11_takeLetters 86 = .ok (.iadd, 1) := by decide +kernel
theorem dX11_takeLetters_87 : decode cX11_takeLetters 87 = .ok (.putfield 383, 3) := by decide +kernel
theorem dX11_takeLetters_90 : decode cX11_takeLetters 90 = .ok (.iinc 4 1, 3) := by decide +kernel
theorem dX11_takeLetters_93 : decode cX11_takeLetters 93 = .ok (.goto (-56), 3) := by decide +kernel
theorem dX11_takeLetters_96 : decode cX11_takeLetters 96 = .ok (.iinc 2 1, 3) := by decide +kernel
theorem dX11_takeLetters_99 : decode cX11_takeLetters 99 = .ok (.goto (-86), 3) := by decide +kernel
theorem dX11_takeLetters_102 : decode cX11_takeLetters 102 = .ok (.return_, 1) := by decide +kernel
theorem dX11_isOpen_0 : decode cX11_isOpen 0 = .ok (.iconst 0, 1) := by decide +kernel
theorem dX11_isOpen_1 : decode cX11_isOpen 1 = .ok (.istore_n 2, 1) := by decide +kernel
theorem dX11_isOpen_2 : decode cX11_isOpen 2 = .ok (.iconst 0, 1) := by decide +kernel
theorem dX11_isOpen_3 : decode cX11_isOpen 3 = .ok (.istore_n 3, 1) := by decide +kernel
theorem dX11_isOpen_4 : decode cX11_isOpen 4 = .ok (.iload_n 3, 1) := by decide +kernel
theorem dX11_isOpen_5 : decode cX11_isOpen 5 = .ok (.aload_n 0, 1) := by decide +kernel
theorem dX11_isOpen_6 : decode cX11_isOpen 6 = .ok (.getfield 50, 3) := by decide +kernel
theorem dX11_isOpen_9 : decode cX11_isOpen 9 = .ok (.aload_n 0, 1) := by decide +kernel
theorem dX11_isOpen_10 : decode cX11_isOpen 10 = .ok (.iload_n 1, 1) := by decide +kernel
theorem dX11_isOpen_11 : decode cX11_isOpen 11 = .ok (.invokevirtual 344, 3) := by decide +kernel
theorem dX11_isOpen_14 : decode cX11_isOpen 14 = .ok (.iaload, 1) := by decide +kernel
theorem dX11_isOpen_15 : decode cX11_isOpen 15 = .ok (.if_icmp .ge 30, 3) := by decide +kernel
theorem dX11_isOpen_18 : decode cX11_isOpen 18 = .ok (.iload_n 2, 1) := by decide +kernel
theorem dX11_isOpen_19 : decode cX11_isOpen 19 = .ok (.ifCond .ne 14, 3) := by decide +kernel
theorem dX11_isOpen_22 : decode cX11_isOpen 22 = .ok (.aload_n 0, 1) := by decide +kernel
theorem dX11_isOpen_23 : decode cX11_isOpen 23 = .ok (.iload_n 1, 1) := by decide +kernel
theorem dX11_isOpen_24 : decode cX11_isOpen 24 = .ok (.iload_n 3, 1) := by decide +kernel
theorem dX11_isOpen_25 : decode cX11_isOpen 25 = .ok (.bipush 63, 2) := by decide +kernel
theorem dX11_isOpen_27 : decode cX11_isOpen 27 = .ok (.invokevirtual 380, 3) := by decide +kernel
theorem dX11_isOpen_30 : decode cX11_isOpen 30 = .ok (.ifCond .eq 7, 3) := by decide +kernel
theorem dX11_isOpen_33 : decode cX11_isOpen 33 = .ok (.iconst 1, 1) := by decide +kernel
theorem dX11_isOpen_34 : decode cX11_isOpen 34 = .ok (.goto 4, 3) := by decide +kernel
theorem dX11_isOpen_37 : decode cX11_isOpen 37 = .ok (.iconst 0, 1) := by decide +kernel
theorem dX11_isOpen_38 : decode cX11_isOpen 38 = .ok (.istore_n 2, 1) := by decide +kernel
theorem dX11_isOpen_39 : decode cX11_isOpen 39 = .ok (.iinc 3 1, 3) := by decide +kernel
theorem dX11_isOpen_42 : decode cX11_isOpen 42 = .ok (.goto (-38), 3) := by decide +kernel
theorem dX11_isOpen_45 : decode cX11_isOpen 45 = .ok (.iload_n 2, 1) := by decide +kernel
theorem dX11_isOpen_46 : decode cX11_isOpen 46 = .ok (.ifCond .ne 53, 3) := by decide +kernel
theorem dX11_isOpen_49 : decode cX11_isOpen 49 = .ok (.aload_n 0, 1) := by decide +kernel
theorem dX11_isOpen_50 : decode cX11_isOpen 50 = .ok (.iload_n 1, 1) := by decide +kernel
theorem dX11_isOpen_51 : decode cX11_isOpen 51 = .ok (.invokevirtual 389, 3) := by decide +kernel
theorem dX11_isOpen_54 : decode cX11_isOpen 54 = .ok (.ifCond .eq 45, 3) := by decide +kernel
theorem dX11_isOpen_57 : decode cX11_isOpen 57 = .ok (.aload_n 0, 1) := by decide +kernel
theorem dX11_isOpen_58 : decode cX11_isOpen 58 = .ok (.iload_n 1, 1) := by decide +kernel
theorem dX11_isOpen_59 : decode cX11_isOpen 59 = .ok (.invokevirtual 392, 3) := by decide +kernel
theorem dX11_isOpen_62 : decode cX11_isOpen 62 = .ok (.iconst 0, 1) := by decide +kernel
theorem dX11_isOpen_63 : decode cX11_isOpen 63 = .ok (.istore_n 3, 1) := by decide +kernel
theorem dX11_isOpen_64 : decode cX11_isOpen 64 = .ok (.iload_n 3, 1) := by decide +kernel
theorem dX11_isOpen_65 : decode cX11_isOpen 65 = .ok (.aload_n 0, 1) := by decide +kernel
theorem dX11_isOpen_66 : decode cX11_isOpen 66 = .ok (.getfield 383, 3) := by decide +kernel
theorem dX11_isOpen_69 : decode cX11_isOpen 69 = .ok (.if_icmp .ge 30, 3) := by decide +kernel
theorem dX11_isOpen_72 : decode cX11_isOpen 72 = .ok (.iload_n 2, 1) := by decide +kernel
theorem dX11_isOpen_73 : decode cX11_isOpen 73 = .ok (.ifCond .ne 14, 3) := by decide +kernel
theorem dX11_isOpen_76 : decode cX11_isOpen 76 = .ok (.aload_n 0, 1) := by decide +kernel
theorem dX11_isOpen_77 : decode cX11_isOpen 77 = .ok (.getfield 108, 3) := by decide +kernel
theorem dX11_isOpen_80 : decode cX11_isOpen 80 = .ok (.iload_n 3, 1) := by decide +kernel
theorem dX11_isOpen_81 : decode cX11_isOpen 81 = .ok (.iaload, 1) := by decide +kernel
theorem dX11_isOpen_82 : decode cX11_isOpen 82 = .ok (.bipush 63, 2) := by decide +kernel
theorem dX11_isOpen_84 : decode cX11_isOpen 84 = .ok (.if_icmp .ne 7, 3) := by decide +kernel
theorem dX11_isOpen_87 : decode cX11_isOpen 87 = .ok (.iconst 1, 1) := by decide +kernel
theorem dX11_isOpen_88 : decode cX11_isOpen 88 = .ok (.goto 4, 3) := by decide +kernel
theorem dX11_isOpen_91 : decode cX11_isOpen 91 = .ok (.iconst 0, 1) := by decide +kernel
theorem dX11_isOpen_92 : decode cX11_isOpen 92 = .ok (.istore_n 2, 1) := by decide +kernel
theorem dX11_isOpen_93 : decode cX11_isOpen 93 = .ok (.iinc 3 1, 3) := by decide +kernel
theorem dX11_isOpen_96 : decode cX11_isOpen 96 = .ok (.goto (-32), 3) := by decide +kernel
theorem dX11_isOpen_99 : decode cX11_isOpen 99 = .ok (.iload_n 2, 1) := by decide +kernel
theorem dX11_isOpen_100 : decode cX11_isOpen 100 = .ok (.ireturn, 1) := by decide +kernel
theorem dX11_fails_0 : decode cX11_fails 0 = .ok (.aload_n 0, 1) := by decide +kernel
theorem dX11_fails_1 : decode cX11_fails 1 = .ok (.iload_n 1, 1) := by decide +kernel
theorem dX11_fails_2 : decode cX11_fails 2 = .ok (.putfield 395, 3) := by decide +kernel
theorem dX11_fails_5 : decode cX11_fails 5 = .ok (.aload_n 0, 1) := by decide +kernel
theorem dX11_fails_6 : decode cX11_fails 6 = .ok (.iload_n 2, 1) := by decide +kernel
theorem dX11_fails_7 : decode cX11_fails 7 = .ok (.putfield 398, 3) := by decide +kernel
theorem dX11_fails_10 : decode cX11_fails 10 = .ok (.iconst 0, 1) := by decide +kernel
theorem dX11_fails_11 : decode cX11_fails 11 = .ok (.ireturn, 1) := by decide +kernel
theorem dX11_mayName_0 : decode cX11_mayName 0 = .ok (.iload_n 2, 1) := by decide +kernel
theorem dX11_mayName_1 : decode cX11_mayName 1 = .ok (.ifCond .lt 34, 3) := by decide +kernel
theorem dX11_mayName_4 : decode cX11_mayName 4 = .ok (.aload_n 0, 1) := by decide +kernel
theorem dX11_mayName_5 : decode cX11_mayName 5 = .ok (.getfield 29, 3) := by decide +kernel
theorem dX11_mayName_8 : decode cX11_mayName 8 = .ok (.aload_n 0, 1) := by decide +kernel
theorem dX11_mayName_9 : decode cX11_mayName 9 = .ok (.iload_n 2, 1) := by decide +kernel
theorem dX11_mayName_10 : decode cX11_mayName 10 = .ok (.invokevirtual 344, 3) := by decide +kernel
theorem dX11_mayName_13 : decode cX11_mayName 13 = .ok (.iaload, 1) := by decide +kernel
theorem dX11_mayName_14 : decode cX11_mayName 14 = .ok (.iconst 2, 1) := by decide +kernel
theorem dX11_mayName_15 : decode cX11_mayName 15 = .ok (.if_icmp .ge 16, 3) := by decide +kernel
theorem dX11_mayName_18 : decode cX11_mayName 18 = .ok (.aload_n 0, 1) := by decide +kernel
theorem dX11_mayName_19 : decode cX11_mayName 19 = .ok (.aload_n 0, 1) := by decide +kernel
theorem dX11_mayName_20 : decode cX11_mayName 20 = .ok (.getfield 65, 3) := by decide +kernel
theorem dX11_mayName_23 : decode cX11_mayName 23 = .ok (.iload_n 1, 1) := by decide +kernel
theorem dX11_mayName_24 : decode cX11_mayName 24 = .ok (.iload_n 2, 1) := by decide +kernel
theorem dX11_mayName_25 : decode cX11_mayName 25 = .ok (.invokevirtual 350, 3) := by decide +kernel
theorem dX11_mayName_28 : decode cX11_mayName 28 = .ok (.ifCond .eq 7, 3) := by decide +kernel
theorem dX11_mayName_31 : decode cX11_mayName 31 = .ok (.iconst 1, 1) := by decide +kernel
theorem dX11_mayName_32 : decode cX11_mayName 32 = .ok (.goto 4, 3) := by decide +kernel
theorem dX11_mayName_35 : decode cX11_mayName 35 = .ok (.iconst 0, 1) := by decide +kernel
theorem dX11_mayName_36 : decode cX11_mayName 36 = .ok (.ireturn, 1) := by decide +kernel
theorem dX11_readProof_0 : decode cX11_readProof 0 = .ok (.aload_n 0, 1) := by decide +kernel
theorem dX11_readProof_1 : decode cX11_readProof 1 = .ok (.getfield 50, 3) := by decide +kernel
theorem dX11_readProof_4 : decode cX11_readProof 4 = .ok (.aload_n 0, 1) := by decide +kernel
theorem dX11_readProof_5 : decode cX11_readProof 5 = .ok (.iload_n 1, 1) := by decide +kernel
theorem dX11_readProof_6 : decode cX11_readProof 6 = .ok (.invokevirtual 344, 3) := by decide +kernel
theorem dX11_readProof_9 : decode cX11_readProof 9 = .ok (.iaload, 1) := by decide +kernel
theorem dX11_readProof_10 : decode cX11_readProof 10 = .ok (.istore_n 2, 1) := by decide +kernel
theorem dX11_readProof_11 : decode cX11_readProof 11 = .ok (.aload_n 0, 1) := by decide +kernel
theorem dX11_readProof_12 : decode cX11_readProof 12 = .ok (.iconst 0, 1) := by decide +kernel
theorem dX11_readProof_13 : decode cX11_readProof 13 = .ok (.putfield 401, 3) := by decide +kernel
theorem dX11_readProof_16 : decode cX11_readProof 16 = .ok (.aload_n 0, 1) := by decide +kernel
theorem dX11_readProof_17 : decode cX11_readProof 17 = .ok (.iconst 0, 1) := by decide +kernel
theorem dX11_readProof_18 : decode cX11_readProof 18 = .ok (.putfield 404, 3) := by decide +kernel
theorem dX11_readProof_21 : decode cX11_readProof 21 = .ok (.aload_n 0, 1) := by decide +kernel
theorem dX11_readProof_22 : decode cX11_readProof 22 = .ok (.iconst 0, 1) := by decide +kernel
theorem dX11_readProof_23 : decode cX11_readProof 23 = .ok (.putfield 407, 3) := by decide +kernel
theorem dX11_readProof_26 : decode cX11_readProof 26 = .ok (.iconst 0, 1) := by decide +kernel
theorem dX11_readProof_27 : decode cX11_readProof 27 = .ok (.istore_n 3, 1) := by decide +kernel
theorem dX11_readProof_28 : decode cX11_readProof 28 = .ok (.iload_n 3, 1) := by decide +kernel
theorem dX11_readProof_29 : decode cX11_readProof 29 = .ok (.sipush 1000, 3) := by decide +kernel
theorem dX11_readProof_32 : decode cX11_readProof 32 = .ok (.if_icmp .ge 16, 3) := by decide +kernel
theorem dX11_readProof_35 : decode cX11_readProof 35 = .ok (.aload_n 0, 1) := by decide +kernel
theorem dX11_readProof_36 : decode cX11_readProof 36 = .ok (.getfield 117, 3) := by decide +kernel
theorem dX11_readProof_39 : decode cX11_readProof 39 = .ok (.iload_n 3, 1) := by decide +kernel
theorem dX11_readProof_40 : decode cX11_readProof 40 = .ok (.iconst (-1), 1) := by decide +kernel
theorem dX11_readProof_41 : decode cX11_readProof 41 = .ok (.iastore, 1) := by decide +kernel
theorem dX11_readProof_42 : decode cX11_readProof 42 = .ok (.iinc 3 1, 3) := by decide +kernel
theorem dX11_readProof_45 : decode cX11_readProof 45 = .ok (.goto (-17), 3) := by decide +kernel
theorem dX11_readProof_48 : decode cX11_readProof 48 = .ok (.iload_n 2, 1) := by decide +kernel
theorem dX11_readProof_49 : decode cX11_readProof 49 = .ok (.ifCond .ne 10, 3) := by decide +kernel
theorem dX11_readProof_52 : decode cX11_readProof 52 = .ok (.aload_n 0, 1) := by decide +kernel
theorem dX11_readProof_53 : decode cX11_readProof 53 = .ok (.iconst (-1), 1) := by decide +kernel
theorem dX11_readProof_54 : decode cX11_readProof 54 = .ok (.iconst 0, 1) := by decide +kernel
theorem dX11_readProof_55 : decode cX11_readProof 55 = .ok (.invokevirtual 410, 3) := by decide +kernel
theorem dX11_readProof_58 : decode cX11_readProof 58 = .ok (.ireturn, 1) := by decide +kernel
theorem dX11_readProof_59 : decode cX11_readProof 59 = .ok (.aload_n 0, 1) := by decide +kernel
theorem dX11_readProof_60 : decode cX11_readProof 60 = .ok (.iload_n 1, 1) := by decide +kernel
theorem dX11_readProof_61 : decode cX11_readProof 61 = .ok (.invokevirtual 389, 3) := by decide +kernel
theorem dX11_readProof_64 : decode cX11_readProof 64 = .ok (.ifCond .eq 25, 3) := by decide +kernel
theorem dX11_readProof_67 : decode cX11_readProof 67 = .ok (.aload_n 0, 1) := by decide +kernel
theorem dX11_readProof_68 : decode cX11_readProof 68 = .ok (.iload_n 1, 1) := by decide +kernel
theorem dX11_readProof_69 : decode cX11_readProof 69 = .ok (.invokevirtual 413, 3) := by decide +kernel
theorem dX11_readProof_72 : decode cX11_readProof 72 = .ok (.ifCond .eq 15, 3) := by decide +kernel
theorem dX11_readProof_75 : decode cX11_readProof 75 = .ok (.aload_n 0, 1) := by decide +kernel
theorem dX11_readProof_76 : decode cX11_readProof 76 = .ok (.iload_n 1, 1) := by decide +kernel
theorem dX11_readProof_77 : decode cX11_readProof 77 = .ok (.invokevirtual 416, 3) := by decide +kernel
theorem dX11_readProof_80 : decode cX11_readProof 80 = .ok (.ifCond .eq 7, 3) := by decide +kernel
theorem dX11_readProof_83 : decode cX11_readProof 83 = .ok (.iconst 1, 1) := by decide +kernel
theorem dX11_readProof_84 : decode cX11_readProof 84 = .ok (.goto 4, 3) := by decide +kernel
theorem dX11_readProof_87 : decode cX11_readProof 87 = .ok (.iconst 0, 1) := by decide +kernel
theorem dX11_readProof_88 : decode cX11_readProof 88 = .ok (.ireturn, 1) := by decide +kernel
theorem dX11_readProof_89 : decode cX11_readProof 89 = .ok (.iconst 0, 1) := by decide +kernel
theorem dX11_readProof_90 : decode cX11_readProof 90 = .ok (.istore_n 3, 1) := by decide +kernel
theorem dX11_readProof_91 : decode cX11_readProof 91 = .ok (.iload_n 3, 1) := by decide +kernel
theorem dX11_readProof_92 : decode cX11_readProof 92 = .ok (.iload_n 2, 1) := by decide +kernel
theorem dX11_readProof_93 : decode cX11_readProof 93 = .ok (.if_icmp .ge 56, 3) := by decide +kernel
theorem dX11_readProof_96 : decode cX11_readProof 96 = .ok (.aload_n 0, 1) := by decide +kernel
theorem dX11_readProof_97 : decode cX11_readProof 97 = .ok (.iload_n 1, 1) := by decide +kernel
theorem dX11_readProof_98 : decode cX11_readProof 98 = .ok (.iload_n 3, 1) := by decide +kernel
theorem dX11_readProof_99 : decode cX11_readProof 99 = .ok (.invokevirtual 419, 3) := by decide +kernel
theorem dX11_readProof_102 : decode cX11_readProof 102 = .ok (.istore 4, 2) := by decide +kernel
theorem dX11_readProof_104 : decode cX11_readProof 104 = .ok (.aload_n 0, 1) := by decide +kernel
theorem dX11_readProof_105 : decode cX11_readProof 105 = .ok (.iload_n 1, 1) := by decide +kernel
theorem dX11_readProof_106 : decode cX11_readProof 106 = .ok (.iload 4, 2) := by decide +kernel
theorem dX11_readProof_108 : decode cX11_readProof 108 = .ok (.invokevirtual 422, 3) := by decide +kernel
theorem dX11_readProof_111 : decode cX11_readProof 111 = .ok (.ifCond .ne 11, 3) := by decide +kernel
theorem dX11_readProof_114 : decode cX11_readProof 114 = .ok (.aload_n 0, 1) := by decide +kernel
theorem dX11_readProof_115 : decode cX11_readProof 115 = .ok (.bipush (-2), 2) := by decide +kernel
theorem dX11_readProof_117 : decode cX11_readProof 117 = .ok (.iload_n 3, 1) := by decide +kernel
theorem dX11_readProof_118 : decode cX11_readProof 118 = .ok (.invokevirtual 410, 3) := by decide +kernel
theorem dX11_readProof_121 : decode cX11_readProof 121 = .ok (.ireturn, 1) := by decide +kernel
theorem dX11_readProof_122 : decode cX11_readProof 122 = .ok (.aload_n 0, 1) := by decide +kernel
theorem dX11_readProof_123 : decode cX11_readProof 123 = .ok (.getfield 111, 3) := by decide +kernel
theorem dX11_readProof_126 : decode cX11_readProof 126 = .ok (.aload_n 0, 1) := by decide +kernel
theorem dX11_readProof_127 : decode cX11_readProof 127 = .ok (.getfield 401, 3) := by decide +kernel
theorem dX11_readProof_130 : decode cX11_readProof 130 = .ok (.iload 4, 2) := by decide +kernel
theorem dX11_readProof_132 : decode cX11_readProof 132 = .ok (.iastore, 1) := by decide +kernel
theorem dX11_readProof_133 : decode cX11_readProof 133 = .ok (.aload_n 0, 1) := by decide +kernel
theorem dX11_readProof_134 : decode cX11_readProof 134 = .ok (.dup, 1) := by decide +kernel
theorem dX11_readProof_135 : decode cX11_readProof 135 = .ok (.getfield 401, 3) := by decide +kernel
theorem dX11_readProof_138 : decode cX11_readProof 138 = .ok (.iconst 1, 1) := by decide +kernel
theorem dX11_readProof_139 : decode cX11_readProof 139 = .ok (.iadd, 1) := by decide +kernel
theorem dX11_readProof_140 : decode cX11_readProof 140 = .ok (.putfield 401, 3) := by decide +kernel
theorem dX11_readProof_143 : decode cX11_readProof 143 = .ok (.iinc 3 1, 3) := by decide +kernel
theorem dX11_readProof_146 : decode cX11_readProof 146 = .ok (.goto (-55), 3) := by decide +kernel
theorem dX11_readProof_149 : decode cX11_readProof 149 = .ok (.iconst 1, 1) := by decide +kernel
theorem dX11_readProof_150 : decode cX11_readProof 150 = .ok (.ireturn, 1) := by decide +kernel
theorem dX11_readList_0 : decode cX11_readList 0 = .ok (.iconst 0, 1) := by decide +kernel
theorem dX11_readList_1 : decode cX11_readList 1 = .ok (.istore_n 2, 1) := by decide +kernel
theorem dX11_readList_2 : decode cX11_readList 2 = .ok (.iload_n 2, 1) := by decide +kernel
theorem dX11_readList_3 : decode cX11_readList 3 = .ok (.iload_n 1, 1) := by decide +kernel
theorem dX11_readList_4 : decode cX11_readList 4 = .ok (.if_icmp .ge 42, 3) := by decide +kernel
theorem dX11_readList_7 : decode cX11_readList 7 = .ok (.aload_n 0, 1) := by decide +kernel
theorem dX11_readList_8 : decode cX11_readList 8 = .ok (.aload_n 0, 1) := by decide +kernel
theorem dX11_readList_9 : decode cX11_readList 9 = .ok (.getfield 69, 3) := by decide +kernel
theorem dX11_readList_12 : decode cX11_readList 12 = .ok (.iload_n 1, 1) := by decide +kernel
theorem dX11_readList_13 : decode cX11_readList 13 = .ok (.iload_n 2, 1) := by decide +kernel
theorem dX11_readList_14 : decode cX11_readList 14 = .ok (.invokevirtual 350, 3) := by decide +kernel
theorem dX11_readList_17 : decode cX11_readList 17 = .ok (.ifCond .eq 23, 3) := by decide +kernel
theorem dX11_readList_20 : decode cX11_readList 20 = .ok (.aload_n 0, 1) := by decide +kernel
theorem dX11_readList_21 : decode cX11_readList 21 = .ok (.getfield 105, 3) := by decide +kernel
theorem dX11_readList_24 : decode cX11_readList 24 = .ok (.aload_n 0, 1) := by decide +kernel
theorem dX11_readList_25 : decode cX11_readList 25 = .ok (.getfield 407, 3) := by decide +kernel
theorem dX11_readList_28 : decode cX11_readList 28 = .ok (.iload_n 2, 1) := by decide +kernel
theorem dX11_readList_29 : decode cX11_readList 29 = .ok (.iastore, 1) := by decide +kernel
theorem dX11_readList_30 : decode cX11_readList 30 = .ok (.aload_n 0, 1) := by decide +kernel
theorem dX11_readList_31 : decode cX11_readList 31 = .ok (.dup, 1) := by decide +kernel
theorem dX11_readList_32 : decode cX11_readList 32 = .ok (.getfield 407, 3) := by decide +kernel
theorem dX11_readList_35 : decode cX11_readList 35 = .ok (.iconst 1, 1) := by decide +kernel
theorem dX11_readList_36 : decode cX11_readList 36 = .ok (.iadd, 1) := by decide +kernel
theorem dX11_readList_37 : decode cX11_readList 37 = .ok (.putfield 407, 3) := by decide +kernel
theorem dX11_readList_40 : decode cX11_readList 40 = .ok (.iinc 2 1, 3) := by decide +kernel
theorem dX11_readList_43 : decode cX11_readList 43 = .ok (.goto (-41), 3) := by decide +kernel
theorem dX11_readList_46 : decode cX11_readList 46 = .ok (.aload_n 0, 1) := by decide +kernel
theorem dX11_readList_47 : decode cX11_readList 47 = .ok (.iload_n 1, 1) := by decide +kernel
theorem dX11_readList_48 : decode cX11_readList 48 = .ok (.invokevirtual 386, 3) := by decide +kernel
theorem dX11_readList_51 : decode cX11_readList 51 = .ok (.istore_n 2, 1) := by decide +kernel
theorem dX11_readList_52 : decode cX11_readList 52 = .ok (.iconst 1, 1) := by decide +kernel
theorem dX11_readList_53 : decode cX11_readList 53 = .ok (.istore_n 3, 1) := by decide +kernel
theorem dX11_readList_54 : decode cX11_readList 54 = .ok (.iload_n 3, 1) := by decide +kernel
theorem dX11_readList_55 : decode cX11_readList 55 = .ok (.iload_n 2, 1) := by decide +kernel
theorem dX11_readList_56 : decode cX11_readList 56 = .ok (.if_icmp .ge 102, 3) := by decide +kernel
theorem dX11_readList_59 : decode cX11_readList 59 = .ok (.aload_n 0, 1) := by decide +kernel
theorem dX11_readList_60 : decode cX11_readList 60 = .ok (.iload_n 1, 1) := by decide +kernel
theorem dX11_readList_61 : decode cX11_readList 61 = .ok (.iload_n 3, 1) := by decide +kernel
theorem dX11_readList_62 : decode cX11_readList 62 = .ok (.invokevirtual 419, 3) := by decide +kernel
theorem dX11_readList_65 : decode cX11_readList 65 = .ok (.istore 4, 2) := by decide +kernel
theorem dX11_readList_67 : decode cX11_readList 67 = .ok (.aload_n 0, 1) := by decide +kernel
theorem dX11_readList_68 : decode cX11_readList 68 = .ok (.iload_n 1, 1) := by decide +kernel
theorem dX11_readList_69 : decode cX11_readList 69 = .ok (.iload 4, 2) := by decide +kernel
theorem dX11_readList_71 : decode cX11_readList 71 = .ok (.invokevirtual 422, 3) := by decide +kernel
theorem dX11_readList_74 : decode cX11_readList 74 = .ok (.istore 5, 2) := by decide +kernel
theorem dX11_readList_76 : decode cX11_readList 76 = .ok (.iconst 0, 1) := by decide +kernel
theorem dX11_readList_77 : decode cX11_readList 77 = .ok (.istore 6, 2) := by decide +kernel
theorem dX11_readList_79 : decode cX11_readList 79 = .ok (.iload 6, 2) := by decide +kernel
theorem dX11_readList_81 : decode cX11_readList 81 = .ok (.aload_n 0, 1) := by decide +kernel
theorem dX11_readList_82 : decode cX11_readList 82 = .ok (.getfield 407, 3) := by decide +kernel
theorem dX11_readList_85 : decode cX11_readList 85 = .ok (.if_icmp .ge 33, 3) := by decide +kernel
theorem dX11_readList_88 : decode cX11_readList 88 = .ok (.iload 5, 2) := by decide +kernel
theorem dX11_readList_90 : decode cX11_readList 90 = .ok (.ifCond .eq 28, 3) := by decide +kernel
theorem dX11_readList_93 : decode cX11_readList 93 = .ok (.aload_n 0, 1) := by decide +kernel
theorem dX11_readList_94 : decode cX11_readList 94 = .ok (.getfield 105, 3) := by decide +kernel
theorem dX11_readList_97 : decode cX11_readList 97 = .ok (.iload 6, 2) := by decide +kernel
theorem dX11_readList_99 : decode cX11_readList 99 = .ok (.iaload, 1) := by decide +kernel
theorem dX11_readList_100 : decode cX11_readList 100 = .ok (.iload 4, 2) := by decide +kernel
theorem dX11_readList_102 : decode cX11_readList 102 = .ok (.if_icmp .eq 7, 3) := by decide +kernel
theorem dX11_readList_105 : decode cX11_readList 105 = .ok (.iconst 1, 1) := by decide +kernel
theorem dX11_readList_106 : decode cX11_readList 106 = .ok (.goto 4, 3) := by decide +kernel
theorem dX11_readList_109 : decode cX11_readList 109 = .ok (.iconst 0, 1) := by decide +kernel
theorem dX11_readList_110 : decode cX11_readList 110 = .ok (.istore 5, 2) := by decide +kernel
theorem dX11_readList_112 : decode cX11_readList 112 = .ok (.iinc 6 1, 3) := by decide +kernel
theorem dX11_readList_115 : decode cX11_readList 115 = .ok (.goto (-36), 3) := by decide +kernel
theorem dX11_readList_118 : decode cX11_readList 118 = .ok (.iload 5, 2) := by decide +kernel
theorem dX11_readList_120 : decode cX11_readList 120 = .ok (.ifCond .ne 11, 3) := by decide +kernel
theorem dX11_readList_123 : decode cX11_readList 123 = .ok (.aload_n 0, 1) := by decide +kernel
theorem dX11_readList_124 : decode cX11_readList 124 = .ok (.bipush (-2), 2) := by decide +kernel
theorem dX11_readList_126 : decode cX11_readList 126 = .ok (.iload_n 3, 1) := by decide +kernel
theorem dX11_readList_127 : decode cX11_readList 127 = .ok (.invokevirtual 410, 3) := by decide +kernel
theorem dX11_readList_130 : decode cX11_readList 130 = .ok (.ireturn, 1) := by decide +kernel
theorem dX11_readList_131 : decode cX11_readList 131 = .ok (.aload_n 0, 1) := by decide +kernel
theorem dX11_readList_132 : decode cX11_readList 132 = .ok (.getfield 105, 3) := by decide +kernel
theorem dX11_readList_135 : decode cX11_readList 135 = .ok (.aload_n 0, 1) := by decide +kernel
theorem dX11_readList_136 : decode cX11_readList 136 = .ok (.getfield 407, 3) := by decide +kernel
theorem dX11_readList_139 : decode cX11_readList 139 = .ok (.iload 4, 2) := by decide +kernel
theorem dX11_readList_141 : decode cX11_readList 141 = .ok (.iastore, 1) := by decide +kernel
theorem dX11_readList_142 : decode cX11_readList 142 = .ok (.aload_n 0, 1) := by decide +kernel
theorem dX11_readList_143 : decode cX11_readList 143 = .ok (.dup, 1) := by decide +kernel
theorem dX11_readList_144 : decode cX11_readList 144 = .ok (.getfield 407, 3) := by decide +kernel
theorem dX11_readList_147 : decode cX11_readList 147 = .ok (.iconst 1, 1) := by decide +kernel
theorem dX11_readList_148 : decode cX11_readList 148 = .ok (.iadd, 1) := by decide +kernel
theorem dX11_readList_149 : decode cX11_readList 149 = .ok (.putfield 407, 3) := by decide +kernel
theorem dX11_readList_152 : decode cX11_readList 152 = .ok (.iinc 3 1, 3) := by decide +kernel
theorem dX11_readList_155 : decode cX11_readList 155 = .ok (.goto (-101), 3) := by decide +kernel
theorem dX11_readList_158 : decode cX11_readList 158 = .ok (.iload_n 2, 1) := by decide +kernel
theorem dX11_readList_159 : decode cX11_readList 159 = .ok (.aload_n 0, 1) := by decide +kernel
theorem dX11_readList_160 : decode cX11_readList 160 = .ok (.getfield 50, 3) := by decide +kernel
theorem dX11_readList_163 : decode cX11_readList 163 = .ok (.aload_n 0, 1) := by decide +kernel
theorem dX11_readList_164 : decode cX11_readList 164 = .ok (.iload_n 1, 1) := by decide +kernel
theorem dX11_readList_165 : decode cX11_readList 165 = .ok (.invokevirtual 344, 3) := by decide +kernel
theorem dX11_readList_168 : decode cX11_readList 168 = .ok (.iaload, 1) := by decide +kernel
theorem dX11_readList_169 : decode cX11_readList 169 = .ok (.if_icmp .lt 22, 3) := by decide +kernel
theorem dX11_readList_172 : decode cX11_readList 172 = .ok (.aload_n 0, 1) := by decide +kernel
theorem dX11_readList_173 : decode cX11_readList 173 = .ok (.bipush (-3), 2) := by decide +kernel
theorem dX11_readList_175 : decode cX11_readList 175 = .ok (.aload_n 0, 1) := by decide +kernel
theorem dX11_readList_176 : decode cX11_readList 176 = .ok (.getfield 50, 3) := by decide +kernel
theorem dX11_readList_179 : decode cX11_readList 179 = .ok (.aload_n 0, 1) := by decide +kernel
theorem dX11_readList_180 : decode cX11_readList 180 = .ok (.iload_n 1, 1) := by decide +kernel
theorem dX11_readList_181 : decode cX11_readList 181 = .ok (.invokevirtual 344, 3) := by decide +kernel
theorem dX11_readList_184 : decode cX11_readList 184 = .ok (.iaload, 1) := by decide +kernel
theorem dX11_readList_185 : decode cX11_readList 185 = .ok (.invokevirtual 410, 3) := by decide +kernel
theorem dX11_readList_188 : decode cX11_readList 188 = .ok (.ifCond .eq 7, 3) := by decide +kernel
theorem dX11_readList_191 : decode cX11_readList 191 = .ok (.iconst 1, 1) := by decide +kernel
theorem dX11_readList_192 : decode cX11_readList 192 = .ok (.goto 4, 3) := by decide +kernel
theorem dX11_readList_195 : decode cX11_readList 195 = .ok (.iconst 0, 1) := by decide +kernel
theorem dX11_readList_196 : decode cX11_readList 196 = .ok (.ireturn, 1) := by decide +kernel
theorem dX11_readLetters_0 : decode cX11_readLetters 0 = .ok (.aload_n 0, 1) := by decide +kernel
theorem dX11_readLetters_1 : decode cX11_readLetters 1 = .ok (.iload_n 1, 1) := by decide +kernel
theorem dX11_readLetters_2 : decode cX11_readLetters 2 = .ok (.invokevirtual 392, 3) := by decide +kernel
theorem dX11_readLetters_5 : decode cX11_readLetters 5 = .ok (.iconst 0, 1) := by decide +kernel
theorem dX11_readLetters_6 : decode cX11_readLetters 6 = .ok (.istore_n 2, 1) := by decide +kernel
theorem dX11_readLetters_7 : decode cX11_readLetters 7 = .ok (.iconst 0, 1) := by decide +kernel
theorem dX11_readLetters_8 : decode cX11_readLetters 8 = .ok (.istore_n 3, 1) := by decide +kernel
theorem dX11_readLetters_9 : decode cX11_readLetters 9 = .ok (.iconst 0, 1) := by decide +kernel
theorem dX11_readLetters_10 : decode cX11_readLetters 10 = .ok (.istore 4, 2) := by decide +kernel
theorem dX11_readLetters_12 : decode cX11_readLetters 12 = .ok (.iconst 0, 1) := by decide +kernel
theorem dX11_readLetters_13 : decode cX11_readLetters 13 = .ok (.istore 5, 2) := by decide +kernel
theorem dX11_readLetters_15 : decode cX11_readLetters 15 = .ok (.iload 5, 2) := by decide +kernel
theorem dX11_readLetters_17 : decode cX11_readLetters 17 = .ok (.aload_n 0, 1) := by decide +kernel
theorem dX11_readLetters_18 : decode cX11_readLetters 18 = .ok (.getfield 383, 3) := by decide +kernel
theorem dX11_readLetters_21 : decode cX11_readLetters 21 = .ok (.if_icmp .ge 282, 3) := by decide +kernel
theorem dX11_readLetters_24 : decode cX11_readLetters 24 = .ok (.aload_n 0, 1) := by decide +kernel
theorem dX11_readLetters_25 : decode cX11_readLetters 25 = .ok (.getfield 108, 3) := by decide +kernel
theorem dX11_readLetters_28 : decode cX11_readLetters 28 = .ok (.iload 5, 2) := by decide +kernel
theorem dX11_readLetters_30 : decode cX11_readLetters 30 = .ok (.iaload, 1) := by decide +kernel
theorem dX11_readLetters_31 : decode cX11_readLetters 31 = .ok (.istore 6, 2) := by decide +kernel
theorem dX11_readLetters_33 : decode cX11_readLetters 33 = .ok (.iload 6, 2) := by decide +kernel
theorem dX11_readLetters_35 : decode cX11_readLetters 35 = .ok (.bipush 85, 2) := by decide +kernel
theorem dX11_readLetters_37 : decode cX11_readLetters 37 = .ok (.if_icmp .lt 41, 3) := by decide +kernel
theorem dX11_readLetters_40 : decode cX11_readLetters 40 = .ok (.iload 6, 2) := by decide +kernel
theorem dX11_readLetters_42 : decode cX11_readLetters 42 = .ok (.bipush 89, 2) := by decide +kernel
theorem dX11_readLetters_44 : decode cX11_readLetters 44 = .ok (.if_icmp .gt 34, 3) := by decide +kernel
theorem dX11_readLetters_47 : decode cX11_readLetters 47 = .ok (.iload_n 2, 1) := by decide +kernel
theorem dX11_readLetters_48 : decode cX11_readLetters 48 = .ok (.ldc_w 425, 3) := by decide +kernel
theorem dX11_readLetters_51 : decode cX11_readLetters 51 = .ok (.if_icmp .le 7, 3) := by decide +kernel
theorem dX11_readLetters_54 : decode cX11_readLetters 54 = .ok (.iload_n 2, 1) := by decide +kernel
theorem dX11_readLetters_55 : decode cX11_readLetters 55 = .ok (.goto 14, 3) := by decide +kernel
theorem dX11_readLetters_58 : decode cX11_readLetters 58 = .ok (.iconst 5, 1) := by decide +kernel
theorem dX11_readLetters_59 : decode cX11_readLetters 59 = .ok (.iload_n 2, 1) := by decide +kernel
theorem dX11_readLetters_60 : decode cX11_readLetters 60 = .ok (.imul, 1) := by decide +kernel
theorem dX11_readLetters_61 : decode cX11_readLetters 61 = .ok (.iload 6, 2) := by decide +kernel
theorem dX11_readLetters_63 : decode cX11_readLetters 63 = .ok (.iadd, 1) := by decide +kernel
theorem dX11_readLetters_64 : decode cX11_readLetters 64 = .ok (.bipush 85, 2) := by decide +kernel
theorem dX11_readLetters_66 : decode cX11_readLetters 66 = .ok (.isub, 1) := by decide +kernel
theorem dX11_readLetters_67 : decode cX11_readLetters 67 = .ok (.iconst 1, 1) := by decide +kernel
theorem dX11_readLetters_68 : decode cX11_readLetters 68 = .ok (.iadd, 1) := by decide +kernel
theorem dX11_readLetters_69 : decode cX11_readLetters 69 = .ok (.istore_n 2, 1) := by decide +kernel
theorem dX11_readLetters_70 : decode cX11_readLetters 70 = .ok (.iconst 1, 1) := by decide +kernel
theorem dX11_readLetters_71 : decode cX11_readLetters 71 = .ok (.istore_n 3, 1) := by decide +kernel
theorem dX11_readLetters_72 : decode cX11_readLetters 72 = .ok (.iconst 0, 1) := by decide +kernel
theorem dX11_readLetters_73 : decode cX11_readLetters 73 = .ok (.istore 4, 2) := by decide +kernel
theorem dX11_readLetters_75 : decode cX11_readLetters 75 = .ok (.goto 222, 3) := by decide +kernel
theorem dX11_readLetters_78 : decode cX11_readLetters 78 = .ok (.iload 6, 2) := by decide +kernel
theorem dX11_readLetters_80 : decode cX11_readLetters 80 = .ok (.bipush 65, 2) := by decide +kernel
theorem dX11_readLetters_82 : decode cX11_readLetters 82 = .ok (.if_icmp .lt 129, 3) := by decide +kernel
theorem dX11_readLetters_85 : decode cX11_readLetters 85 = .ok (.iload 6, 2) := by decide +kernel
theorem dX11_readLetters_87 : decode cX11_readLetters 87 = .ok (.bipush 84, 2) := by decide +kernel
theorem dX11_readLetters_89 : decode cX11_readLetters 89 = .ok (.if_icmp .gt 122, 3) := by decide +kernel
theorem dX11_readLetters_92 : decode cX11_readLetters 92 = .ok (.bipush 20, 2) := by decide +kernel
theorem dX11_readLetters_94 : decode cX11_readLetters 94 = .ok (.iload_n 2, 1) := by decide +kernel
theorem dX11_readLetters_95 : decode cX11_readLetters 95 = .ok (.imul, 1) := by decide +kernel
theorem dX11_readLetters_96 : decode cX11_readLetters 96 = .ok (.iload 6, 2) := by decide +kernel
theorem dX11_readLetters_98 : decode cX11_readLetters 98 = .ok (.iadd, 1) := by decide +kernel
theorem dX11_readLetters_99 : decode cX11_readLetters 99 = .ok (.bipush 65, 2) := by decide +kernel
theorem dX11_readLetters_101 : decode cX11_readLetters 101 = .ok (.isub, 1) := by decide +kernel
theorem dX11_readLetters_102 : decode cX11_readLetters 102 = .ok (.iconst 1, 1) := by decide +kernel
theorem dX11_readLetters_103 : decode cX11_readLetters 103 = .ok (.iadd, 1) := by decide +kernel
theorem dX11_readLetters_104 : decode cX11_readLetters 104 = .ok (.istore 7, 2) := by decide +kernel
theorem dX11_readLetters_106 : decode cX11_readLetters 106 = .ok (.iload 7, 2) := by decide +kernel
theorem dX11_readLetters_108 : decode cX11_readLetters 108 = .ok (.aload_n 0, 1) := by decide +kernel
theorem dX11_readLetters_109 : decode cX11_readLetters 109 = .ok (.getfield 407, 3) := by decide +kernel
theorem dX11_readLetters_112 : decode cX11_readLetters 112 = .ok (.aload_n 0, 1) := by decide +kernel
theorem dX11_readLetters_113 : decode cX11_readLetters 113 = .ok (.getfield 404, 3) := by decide +kernel
theorem dX11_readLetters_116 : decode cX11_readLetters 116 = .ok (.iadd, 1) := by decide +kernel
theorem dX11_readLetters_117 : decode cX11_readLetters 117 = .ok (.if_icmp .le 12, 3) := by decide +kernel
theorem dX11_readLetters_120 : decode cX11_readLetters 120 = .ok (.aload_n 0, 1) := by decide +kernel
theorem dX11_readLetters_121 : decode cX11_readLetters 121 = .ok (.bipush (-3), 2) := by decide +kernel
theorem dX11_readLetters_123 : decode cX11_readLetters 123 = .ok (.iload 5, 2) := by decide +kernel
theorem dX11_readLetters_125 : decode cX11_readLetters 125 = .ok (.invokevirtual 410, 3) := by decide +kernel
theorem dX11_readLetters_128 : decode cX11_readLetters 128 = .ok (.ireturn, 1) := by decide +kernel
theorem dX11_readLetters_129 : decode cX11_readLetters 129 = .ok (.aload_n 0, 1) := by decide +kernel
theorem dX11_readLetters_130 : decode cX11_readLetters 130 = .ok (.getfield 401, 3) := by decide +kernel
theorem dX11_readLetters_133 : decode cX11_readLetters 133 = .ok (.sipush 1000, 3) := by decide +kernel
theorem dX11_readLetters_136 : decode cX11_readLetters 136 = .ok (.if_icmp .ne 12, 3) := by decide +kernel
theorem dX11_readLetters_139 : decode cX11_readLetters 139 = .ok (.aload_n 0, 1) := by decide +kernel
theorem dX11_readLetters_140 : decode cX11_readLetters 140 = .ok (.bipush (-10), 2) := by decide +kernel
theorem dX11_readLetters_142 : decode cX11_readLetters 142 = .ok (.iload 5, 2) := by decide +kernel
theorem dX11_readLetters_144 : decode cX11_readLetters 144 = .ok (.invokevirtual 410, 3) := by decide +kernel
theorem dX11_readLetters_147 : decode cX11_readLetters 147 = .ok (.ireturn, 1) := by decide +kernel
theorem dX11_readLetters_148 : decode cX11_readLetters 148 = .ok (.aload_n 0, 1) := by decide +kernel
theorem dX11_readLetters_149 : decode cX11_readLetters 149 = .ok (.getfield 111, 3) := by decide +kernel
theorem dX11_readLetters_152 : decode cX11_readLetters 152 = .ok (.aload_n 0, 1) := by decide +kernel
theorem dX11_readLetters_153 : decode cX11_readLetters 153 = .ok (.getfield 401, 3) := by decide +kernel
theorem dX11_readLetters_156 : decode cX11_readLetters 156 = .ok (.iload 7, 2) := by decide +kernel
theorem dX11_readLetters_158 : decode cX11_readLetters 158 = .ok (.aload_n 0, 1) := by decide +kernel
theorem dX11_readLetters_159 : decode cX11_readLetters 159 = .ok (.getfield 407, 3) := by decide +kernel

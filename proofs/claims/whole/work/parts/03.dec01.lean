theorem dX6_advance_107 : decode cX6_advance 107 = .ok (.ifCond .ne 7, 3) := by decide +kernel
theorem dX6_advance_110 : decode cX6_advance 110 = .ok (.iconst 1, 1) := by decide +kernel
theorem dX6_advance_111 : decode cX6_advance 111 = .ok (.goto 4, 3) := by decide +kernel
theorem dX6_advance_114 : decode cX6_advance 114 = .ok (.iconst 0, 1) := by decide +kernel
theorem dX6_advance_115 : decode cX6_advance 115 = .ok (.istore_n 1, 1) := by decide +kernel
theorem dX6_advance_116 : decode cX6_advance 116 = .ok (.iinc 2 1, 3) := by decide +kernel
theorem dX6_advance_119 : decode cX6_advance 119 = .ok (.goto (-115), 3) := by decide +kernel
theorem dX6_advance_122 : decode cX6_advance 122 = .ok (.iconst 0, 1) := by decide +kernel
theorem dX6_advance_123 : decode cX6_advance 123 = .ok (.ireturn, 1) := by decide +kernel
theorem dX6_cut_0 : decode cX6_cut 0 = .ok (.aload_n 0, 1) := by decide +kernel
theorem dX6_cut_1 : decode cX6_cut 1 = .ok (.aload_n 0, 1) := by decide +kernel
theorem dX6_cut_2 : decode cX6_cut 2 = .ok (.getfield 22, 3) := by decide +kernel
theorem dX6_cut_5 : decode cX6_cut 5 = .ok (.putfield 19, 3) := by decide +kernel
theorem dX6_cut_8 : decode cX6_cut 8 = .ok (.aload_n 0, 1) := by decide +kernel
theorem dX6_cut_9 : decode cX6_cut 9 = .ok (.getfield 19, 3) := by decide +kernel
theorem dX6_cut_12 : decode cX6_cut 12 = .ok (.aload_n 0, 1) := by decide +kernel
theorem dX6_cut_13 : decode cX6_cut 13 = .ok (.getfield 15, 3) := by decide +kernel
theorem dX6_cut_16 : decode cX6_cut 16 = .ok (.if_icmp .ge 31, 3) := by decide +kernel
theorem dX6_cut_19 : decode cX6_cut 19 = .ok (.aload_n 0, 1) := by decide +kernel
theorem dX6_cut_20 : decode cX6_cut 20 = .ok (.getfield 9, 3) := by decide +kernel
theorem dX6_cut_23 : decode cX6_cut 23 = .ok (.aload_n 0, 1) := by decide +kernel
theorem dX6_cut_24 : decode cX6_cut 24 = .ok (.getfield 19, 3) := by decide +kernel
theorem dX6_cut_27 : decode cX6_cut 27 = .ok (.baload, 1) := by decide +kernel
theorem dX6_cut_28 : decode cX6_cut 28 = .ok (.invokestatic 42, 3) := by decide +kernel
theorem dX6_cut_31 : decode cX6_cut 31 = .ok (.ifCond .eq 16, 3) := by decide +kernel
theorem dX6_cut_34 : decode cX6_cut 34 = .ok (.aload_n 0, 1) := by decide +kernel
theorem dX6_cut_35 : decode cX6_cut 35 = .ok (.dup, 1) := by decide +kernel
theorem dX6_cut_36 : decode cX6_cut 36 = .ok (.getfield 19, 3) := by decide +kernel
theorem dX6_cut_39 : decode cX6_cut 39 = .ok (.iconst 1, 1) := by decide +kernel
theorem dX6_cut_40 : decode cX6_cut 40 = .ok (.iadd, 1) := by decide +kernel
theorem dX6_cut_41 : decode cX6_cut 41 = .ok (.putfield 19, 3) := by decide +kernel
theorem dX6_cut_44 : decode cX6_cut 44 = .ok (.goto (-36), 3) := by decide +kernel
theorem dX6_cut_47 : decode cX6_cut 47 = .ok (.aload_n 0, 1) := by decide +kernel
theorem dX6_cut_48 : decode cX6_cut 48 = .ok (.aload_n 0, 1) := by decide +kernel
theorem dX6_cut_49 : decode cX6_cut 49 = .ok (.getfield 19, 3) := by decide +kernel
theorem dX6_cut_52 : decode cX6_cut 52 = .ok (.putfield 22, 3) := by decide +kernel
theorem dX6_cut_55 : decode cX6_cut 55 = .ok (.aload_n 0, 1) := by decide +kernel
theorem dX6_cut_56 : decode cX6_cut 56 = .ok (.getfield 22, 3) := by decide +kernel
theorem dX6_cut_59 : decode cX6_cut 59 = .ok (.aload_n 0, 1) := by decide +kernel
theorem dX6_cut_60 : decode cX6_cut 60 = .ok (.getfield 15, 3) := by decide +kernel
theorem dX6_cut_63 : decode cX6_cut 63 = .ok (.if_icmp .ge 31, 3) := by decide +kernel
theorem dX6_cut_66 : decode cX6_cut 66 = .ok (.aload_n 0, 1) := by decide +kernel
theorem dX6_cut_67 : decode cX6_cut 67 = .ok (.getfield 9, 3) := by decide +kernel
theorem dX6_cut_70 : decode cX6_cut 70 = .ok (.aload_n 0, 1) := by decide +kernel
theorem dX6_cut_71 : decode cX6_cut 71 = .ok (.getfield 22, 3) := by decide +kernel
theorem dX6_cut_74 : decode cX6_cut 74 = .ok (.baload, 1) := by decide +kernel
theorem dX6_cut_75 : decode cX6_cut 75 = .ok (.invokestatic 42, 3) := by decide +kernel
theorem dX6_cut_78 : decode cX6_cut 78 = .ok (.ifCond .ne 16, 3) := by decide +kernel
theorem dX6_cut_81 : decode cX6_cut 81 = .ok (.aload_n 0, 1) := by decide +kernel
theorem dX6_cut_82 : decode cX6_cut 82 = .ok (.dup, 1) := by decide +kernel
theorem dX6_cut_83 : decode cX6_cut 83 = .ok (.getfield 22, 3) := by decide +kernel
theorem dX6_cut_86 : decode cX6_cut 86 = .ok (.iconst 1, 1) := by decide +kernel
theorem dX6_cut_87 : decode cX6_cut 87 = .ok (.iadd, 1) := by decide +kernel
theorem dX6_cut_88 : decode cX6_cut 88 = .ok (.putfield 22, 3) := by decide +kernel
theorem dX6_cut_91 : decode cX6_cut 91 = .ok (.goto (-36), 3) := by decide +kernel
theorem dX6_cut_94 : decode cX6_cut 94 = .ok (.return_, 1) := by decide +kernel
theorem dX6_isBlank_0 : decode cX6_isBlank 0 = .ok (.iload_n 0, 1) := by decide +kernel
theorem dX6_isBlank_1 : decode cX6_isBlank 1 = .ok (.bipush 32, 2) := by decide +kernel
theorem dX6_isBlank_3 : decode cX6_isBlank 3 = .ok (.if_icmp .eq 27, 3) := by decide +kernel
theorem dX6_isBlank_6 : decode cX6_isBlank 6 = .ok (.iload_n 0, 1) := by decide +kernel
theorem dX6_isBlank_7 : decode cX6_isBlank 7 = .ok (.bipush 9, 2) := by decide +kernel
theorem dX6_isBlank_9 : decode cX6_isBlank 9 = .ok (.if_icmp .eq 21, 3) := by decide +kernel
theorem dX6_isBlank_12 : decode cX6_isBlank 12 = .ok (.iload_n 0, 1) := by decide +kernel
theorem dX6_isBlank_13 : decode cX6_isBlank 13 = .ok (.bipush 10, 2) := by decide +kernel
theorem dX6_isBlank_15 : decode cX6_isBlank 15 = .ok (.if_icmp .eq 15, 3) := by decide +kernel
theorem dX6_isBlank_18 : decode cX6_isBlank 18 = .ok (.iload_n 0, 1) := by decide +kernel
theorem dX6_isBlank_19 : decode cX6_isBlank 19 = .ok (.bipush 12, 2) := by decide +kernel
theorem dX6_isBlank_21 : decode cX6_isBlank 21 = .ok (.if_icmp .eq 9, 3) := by decide +kernel
theorem dX6_isBlank_24 : decode cX6_isBlank 24 = .ok (.iload_n 0, 1) := by decide +kernel
theorem dX6_isBlank_25 : decode cX6_isBlank 25 = .ok (.bipush 13, 2) := by decide +kernel
theorem dX6_isBlank_27 : decode cX6_isBlank 27 = .ok (.if_icmp .ne 7, 3) := by decide +kernel
theorem dX6_isBlank_30 : decode cX6_isBlank 30 = .ok (.iconst 1, 1) := by decide +kernel
theorem dX6_isBlank_31 : decode cX6_isBlank 31 = .ok (.goto 4, 3) := by decide +kernel
theorem dX6_isBlank_34 : decode cX6_isBlank 34 = .ok (.iconst 0, 1) := by decide +kernel
theorem dX6_isBlank_35 : decode cX6_isBlank 35 = .ok (.ireturn, 1) := by decide +kernel
theorem dX6_hasWrongByte_0 : decode cX6_hasWrongByte 0 = .ok (.aload_n 0, 1) := by decide +kernel
theorem dX6_hasWrongByte_1 : decode cX6_hasWrongByte 1 = .ok (.getfield 19, 3) := by decide +kernel
theorem dX6_hasWrongByte_4 : decode cX6_hasWrongByte 4 = .ok (.istore_n 1, 1) := by decide +kernel
theorem dX6_hasWrongByte_5 : decode cX6_hasWrongByte 5 = .ok (.iload_n 1, 1) := by decide +kernel
theorem dX6_hasWrongByte_6 : decode cX6_hasWrongByte 6 = .ok (.aload_n 0, 1) := by decide +kernel
theorem dX6_hasWrongByte_7 : decode cX6_hasWrongByte 7 = .ok (.getfield 22, 3) := by decide +kernel
theorem dX6_hasWrongByte_10 : decode cX6_hasWrongByte 10 = .ok (.if_icmp .ge 33, 3) := by decide +kernel
theorem dX6_hasWrongByte_13 : decode cX6_hasWrongByte 13 = .ok (.aload_n 0, 1) := by decide +kernel
theorem dX6_hasWrongByte_14 : decode cX6_hasWrongByte 14 = .ok (.getfield 9, 3) := by decide +kernel
theorem dX6_hasWrongByte_17 : decode cX6_hasWrongByte 17 = .ok (.iload_n 1, 1) := by decide +kernel
theorem dX6_hasWrongByte_18 : decode cX6_hasWrongByte 18 = .ok (.baload, 1) := by decide +kernel
theorem dX6_hasWrongByte_19 : decode cX6_hasWrongByte 19 = .ok (.bipush 33, 2) := by decide +kernel
theorem dX6_hasWrongByte_21 : decode cX6_hasWrongByte 21 = .ok (.if_icmp .lt 14, 3) := by decide +kernel
theorem dX6_hasWrongByte_24 : decode cX6_hasWrongByte 24 = .ok (.aload_n 0, 1) := by decide +kernel
theorem dX6_hasWrongByte_25 : decode cX6_hasWrongByte 25 = .ok (.getfield 9, 3) := by decide +kernel
theorem dX6_hasWrongByte_28 : decode cX6_hasWrongByte 28 = .ok (.iload_n 1, 1) := by decide +kernel
theorem dX6_hasWrongByte_29 : decode cX6_hasWrongByte 29 = .ok (.baload, 1) := by decide +kernel
theorem dX6_hasWrongByte_30 : decode cX6_hasWrongByte 30 = .ok (.bipush 126, 2) := by decide +kernel
theorem dX6_hasWrongByte_32 : decode cX6_hasWrongByte 32 = .ok (.if_icmp .le 5, 3) := by decide +kernel
theorem dX6_hasWrongByte_35 : decode cX6_hasWrongByte 35 = .ok (.iconst 1, 1) := by decide +kernel
theorem dX6_hasWrongByte_36 : decode cX6_hasWrongByte 36 = .ok (.ireturn, 1) := by decide +kernel
theorem dX6_hasWrongByte_37 : decode cX6_hasWrongByte 37 = .ok (.iinc 1 1, 3) := by decide +kernel
theorem dX6_hasWrongByte_40 : decode cX6_hasWrongByte 40 = .ok (.goto (-35), 3) := by decide +kernel
theorem dX6_hasWrongByte_43 : decode cX6_hasWrongByte 43 = .ok (.iconst 0, 1) := by decide +kernel
theorem dX6_hasWrongByte_44 : decode cX6_hasWrongByte 44 = .ok (.ireturn, 1) := by decide +kernel
theorem dX6_isDollarAnd_0 : decode cX6_isDollarAnd 0 = .ok (.aload_n 0, 1) := by decide +kernel
theorem dX6_isDollarAnd_1 : decode cX6_isDollarAnd 1 = .ok (.getfield 22, 3) := by decide +kernel
theorem dX6_isDollarAnd_4 : decode cX6_isDollarAnd 4 = .ok (.aload_n 0, 1) := by decide +kernel
theorem dX6_isDollarAnd_5 : decode cX6_isDollarAnd 5 = .ok (.getfield 19, 3) := by decide +kernel
theorem dX6_isDollarAnd_8 : decode cX6_isDollarAnd 8 = .ok (.isub, 1) := by decide +kernel
theorem dX6_isDollarAnd_9 : decode cX6_isDollarAnd 9 = .ok (.iconst 2, 1) := by decide +kernel
theorem dX6_isDollarAnd_10 : decode cX6_isDollarAnd 10 = .ok (.if_icmp .ne 36, 3) := by decide +kernel
theorem dX6_isDollarAnd_13 : decode cX6_isDollarAnd 13 = .ok (.aload_n 0, 1) := by decide +kernel
theorem dX6_isDollarAnd_14 : decode cX6_isDollarAnd 14 = .ok (.getfield 9, 3) := by decide +kernel
theorem dX6_isDollarAnd_17 : decode cX6_isDollarAnd 17 = .ok (.aload_n 0, 1) := by decide +kernel
theorem dX6_isDollarAnd_18 : decode cX6_isDollarAnd 18 = .ok (.getfield 19, 3) := by decide +kernel
theorem dX6_isDollarAnd_21 : decode cX6_isDollarAnd 21 = .ok (.baload, 1) := by decide +kernel
theorem dX6_isDollarAnd_22 : decode cX6_isDollarAnd 22 = .ok (.bipush 36, 2) := by decide +kernel
theorem dX6_isDollarAnd_24 : decode cX6_isDollarAnd 24 = .ok (.if_icmp .ne 22, 3) := by decide +kernel
theorem dX6_isDollarAnd_27 : decode cX6_isDollarAnd 27 = .ok (.aload_n 0, 1) := by decide +kernel
theorem dX6_isDollarAnd_28 : decode cX6_isDollarAnd 28 = .ok (.getfield 9, 3) := by decide +kernel
theorem dX6_isDollarAnd_31 : decode cX6_isDollarAnd 31 = .ok (.aload_n 0, 1) := by decide +kernel
theorem dX6_isDollarAnd_32 : decode cX6_isDollarAnd 32 = .ok (.getfield 19, 3) := by decide +kernel
theorem dX6_isDollarAnd_35 : decode cX6_isDollarAnd 35 = .ok (.iconst 1, 1) := by decide +kernel
theorem dX6_isDollarAnd_36 : decode cX6_isDollarAnd 36 = .ok (.iadd, 1) := by decide +kernel
theorem dX6_isDollarAnd_37 : decode cX6_isDollarAnd 37 = .ok (.baload, 1) := by decide +kernel
theorem dX6_isDollarAnd_38 : decode cX6_isDollarAnd 38 = .ok (.iload_n 1, 1) := by decide +kernel
theorem dX6_isDollarAnd_39 : decode cX6_isDollarAnd 39 = .ok (.if_icmp .ne 7, 3) := by decide +kernel
theorem dX6_isDollarAnd_42 : decode cX6_isDollarAnd 42 = .ok (.iconst 1, 1) := by decide +kernel
theorem dX6_isDollarAnd_43 : decode cX6_isDollarAnd 43 = .ok (.goto 4, 3) := by decide +kernel
theorem dX6_isDollarAnd_46 : decode cX6_isDollarAnd 46 = .ok (.iconst 0, 1) := by decide +kernel
theorem dX6_isDollarAnd_47 : decode cX6_isDollarAnd 47 = .ok (.ireturn, 1) := by decide +kernel
theorem dX6_hasCommentMark_0 : decode cX6_hasCommentMark 0 = .ok (.aload_n 0, 1) := by decide +kernel
theorem dX6_hasCommentMark_1 : decode cX6_hasCommentMark 1 = .ok (.getfield 19, 3) := by decide +kernel
theorem dX6_hasCommentMark_4 : decode cX6_hasCommentMark 4 = .ok (.istore_n 1, 1) := by decide +kernel
theorem dX6_hasCommentMark_5 : decode cX6_hasCommentMark 5 = .ok (.iload_n 1, 1) := by decide +kernel
theorem dX6_hasCommentMark_6 : decode cX6_hasCommentMark 6 = .ok (.iconst 1, 1) := by decide +kernel
theorem dX6_hasCommentMark_7 : decode cX6_hasCommentMark 7 = .ok (.iadd, 1) := by decide +kernel
theorem dX6_hasCommentMark_8 : decode cX6_hasCommentMark 8 = .ok (.aload_n 0, 1) := by decide +kernel
theorem dX6_hasCommentMark_9 : decode cX6_hasCommentMark 9 = .ok (.getfield 22, 3) := by decide +kernel
theorem dX6_hasCommentMark_12 : decode cX6_hasCommentMark 12 = .ok (.if_icmp .ge 48, 3) := by decide +kernel
theorem dX6_hasCommentMark_15 : decode cX6_hasCommentMark 15 = .ok (.aload_n 0, 1) := by decide +kernel
theorem dX6_hasCommentMark_16 : decode cX6_hasCommentMark 16 = .ok (.getfield 9, 3) := by decide +kernel
theorem dX6_hasCommentMark_19 : decode cX6_hasCommentMark 19 = .ok (.iload_n 1, 1) := by decide +kernel
theorem dX6_hasCommentMark_20 : decode cX6_hasCommentMark 20 = .ok (.baload, 1) := by decide +kernel
theorem dX6_hasCommentMark_21 : decode cX6_hasCommentMark 21 = .ok (.bipush 36, 2) := by decide +kernel
theorem dX6_hasCommentMark_23 : decode cX6_hasCommentMark 23 = .ok (.if_icmp .ne 31, 3) := by decide +kernel
theorem dX6_hasCommentMark_26 : decode cX6_hasCommentMark 26 = .ok (.aload_n 0, 1) := by decide +kernel
theorem dX6_hasCommentMark_27 : decode cX6_hasCommentMark 27 = .ok (.getfield 9, 3) := by decide +kernel
theorem dX6_hasCommentMark_30 : decode cX6_hasCommentMark 30 = .ok (.iload_n 1, 1) := by decide +kernel
theorem dX6_hasCommentMark_31 : decode cX6_hasCommentMark 31 = .ok (.iconst 1, 1) := by decide +kernel
theorem dX6_hasCommentMark_32 : decode cX6_hasCommentMark 32 = .ok (.iadd, 1) := by decide +kernel
theorem dX6_hasCommentMark_33 : decode cX6_hasCommentMark 33 = .ok (.baload, 1) := by decide +kernel
theorem dX6_hasCommentMark_34 : decode cX6_hasCommentMark 34 = .ok (.bipush 40, 2) := by decide +kernel
theorem dX6_hasCommentMark_36 : decode cX6_hasCommentMark 36 = .ok (.if_icmp .eq 16, 3) := by decide +kernel
theorem dX6_hasCommentMark_39 : decode cX6_hasCommentMark 39 = .ok (.aload_n 0, 1) := by decide +kernel
theorem dX6_hasCommentMark_40 : decode cX6_hasCommentMark 40 = .ok (.getfield 9, 3) := by decide +kernel
theorem dX6_hasCommentMark_43 : decode cX6_hasCommentMark 43 = .ok (.iload_n 1, 1) := by decide +kernel
theorem dX6_hasCommentMark_44 : decode cX6_hasCommentMark 44 = .ok (.iconst 1, 1) := by decide +kernel
theorem dX6_hasCommentMark_45 : decode cX6_hasCommentMark 45 = .ok (.iadd, 1) := by decide +kernel
theorem dX6_hasCommentMark_46 : decode cX6_hasCommentMark 46 = .ok (.baload, 1) := by decide +kernel
theorem dX6_hasCommentMark_47 : decode cX6_hasCommentMark 47 = .ok (.bipush 41, 2) := by decide +kernel
theorem dX6_hasCommentMark_49 : decode cX6_hasCommentMark 49 = .ok (.if_icmp .ne 5, 3) := by decide +kernel
theorem dX6_hasCommentMark_52 : decode cX6_hasCommentMark 52 = .ok (.iconst 1, 1) := by decide +kernel
theorem dX6_hasCommentMark_53 : decode cX6_hasCommentMark 53 = .ok (.ireturn, 1) := by decide +kernel
theorem dX6_hasCommentMark_54 : decode cX6_hasCommentMark 54 = .ok (.iinc 1 1, 3) := by decide +kernel
theorem dX6_hasCommentMark_57 : decode cX6_hasCommentMark 57 = .ok (.goto (-52), 3) := by decide +kernel
theorem dX6_hasCommentMark_60 : decode cX6_hasCommentMark 60 = .ok (.iconst 0, 1) := by decide +kernel
theorem dX6_hasCommentMark_61 : decode cX6_hasCommentMark 61 = .ok (.ireturn, 1) := by decide +kernel
theorem dX6_word_0 : decode cX6_word 0 = .ok (.aload_n 0, 1) := by decide +kernel
theorem dX6_word_1 : decode cX6_word 1 = .ok (.getfield 19, 3) := by decide +kernel
theorem dX6_word_4 : decode cX6_word 4 = .ok (.istore_n 1, 1) := by decide +kernel
theorem dX6_word_5 : decode cX6_word 5 = .ok (.iload_n 1, 1) := by decide +kernel
theorem dX6_word_6 : decode cX6_word 6 = .ok (.aload_n 0, 1) := by decide +kernel
theorem dX6_word_7 : decode cX6_word 7 = .ok (.getfield 22, 3) := by decide +kernel
theorem dX6_word_10 : decode cX6_word 10 = .ok (.if_icmp .ge 25, 3) := by decide +kernel
theorem dX6_word_13 : decode cX6_word 13 = .ok (.aload_n 0, 1) := by decide +kernel
theorem dX6_word_14 : decode cX6_word 14 = .ok (.getfield 9, 3) := by decide +kernel
theorem dX6_word_17 : decode cX6_word 17 = .ok (.iload_n 1, 1) := by decide +kernel
theorem dX6_word_18 : decode cX6_word 18 = .ok (.baload, 1) := by decide +kernel
theorem dX6_word_19 : decode cX6_word 19 = .ok (.bipush 36, 2) := by decide +kernel
theorem dX6_word_21 : decode cX6_word 21 = .ok (.if_icmp .ne 8, 3) := by decide +kernel
theorem dX6_word_24 : decode cX6_word 24 = .ok (.aload_n 0, 1) := by decide +kernel
theorem dX6_word_25 : decode cX6_word 25 = .ok (.invokevirtual 45, 3) := by decide +kernel
theorem dX6_word_28 : decode cX6_word 28 = .ok (.ireturn, 1) := by decide +kernel
theorem dX6_word_29 : decode cX6_word 29 = .ok (.iinc 1 1, 3) := by decide +kernel
theorem dX6_word_32 : decode cX6_word 32 = .ok (.goto (-27), 3) := by decide +kernel
theorem dX6_word_35 : decode cX6_word 35 = .ok (.iconst 0, 1) := by decide +kernel
theorem dX6_word_36 : decode cX6_word 36 = .ok (.ireturn, 1) := by decide +kernel
theorem dX6_keyword_0 : decode cX6_keyword 0 = .ok (.aload_n 0, 1) := by decide +kernel
theorem dX6_keyword_1 : decode cX6_keyword 1 = .ok (.getfield 22, 3) := by decide +kernel
theorem dX6_keyword_4 : decode cX6_keyword 4 = .ok (.aload_n 0, 1) := by decide +kernel
theorem dX6_keyword_5 : decode cX6_keyword 5 = .ok (.getfield 19, 3) := by decide +kernel
theorem dX6_keyword_8 : decode cX6_keyword 8 = .ok (.isub, 1) := by decide +kernel
theorem dX6_keyword_9 : decode cX6_keyword 9 = .ok (.iconst 2, 1) := by decide +kernel
theorem dX6_keyword_10 : decode cX6_keyword 10 = .ok (.if_icmp .ne 17, 3) := by decide +kernel
theorem dX6_keyword_13 : decode cX6_keyword 13 = .ok (.aload_n 0, 1) := by decide +kernel
theorem dX6_keyword_14 : decode cX6_keyword 14 = .ok (.getfield 9, 3) := by decide +kernel
theorem dX6_keyword_17 : decode cX6_keyword 17 = .ok (.aload_n 0, 1) := by decide +kernel
theorem dX6_keyword_18 : decode cX6_keyword 18 = .ok (.getfield 19, 3) := by decide +kernel
theorem dX6_keyword_21 : decode cX6_keyword 21 = .ok (.baload, 1) := by decide +kernel
theorem dX6_keyword_22 : decode cX6_keyword 22 = .ok (.bipush 36, 2) := by decide +kernel
theorem dX6_keyword_24 : decode cX6_keyword 24 = .ok (.if_icmp .eq 5, 3) := by decide +kernel
theorem dX6_keyword_27 : decode cX6_keyword 27 = .ok (.iconst (-1), 1) := by decide +kernel
theorem dX6_keyword_28 : decode cX6_keyword 28 = .ok (.ireturn, 1) := by decide +kernel
theorem dX6_keyword_29 : decode cX6_keyword 29 = .ok (.aload_n 0, 1) := by decide +kernel
theorem dX6_keyword_30 : decode cX6_keyword 30 = .ok (.getfield 9, 3) := by decide +kernel
theorem dX6_keyword_33 : decode cX6_keyword 33 = .ok (.aload_n 0, 1) := by decide +kernel
theorem dX6_keyword_34 : decode cX6_keyword 34 = .ok (.getfield 19, 3) := by decide +kernel
theorem dX6_keyword_37 : decode cX6_keyword 37 = .ok (.iconst 1, 1) := by decide +kernel
theorem dX6_keyword_38 : decode cX6_keyword 38 = .ok (.iadd, 1) := by decide +kernel
theorem dX6_keyword_39 : decode cX6_keyword 39 = .ok (.baload, 1) := by decide +kernel
theorem dX6_keyword_40 : decode cX6_keyword 40 = .ok (.lookupswitch 112 #[(46, 100), (61, 100), (97, 100), (99, 100), (100, 100), (101, 100), (102, 100), (112, 100), (118, 100), (123, 100), (125, 100)], 100) := by decide +kernel
theorem dX6_keyword_140 : decode cX6_keyword 140 = .ok (.aload_n 0, 1) := by decide +kernel
theorem dX6_keyword_141 : decode cX6_keyword 141 = .ok (.getfield 9, 3) := by decide +kernel
theorem dX6_keyword_144 : decode cX6_keyword 144 = .ok (.aload_n 0, 1) := by decide +kernel
theorem dX6_keyword_145 : decode cX6_keyword 145 = .ok (.getfield 19, 3) := by decide +kernel
theorem dX6_keyword_148 : decode cX6_keyword 148 = .ok (.iconst 1, 1) := by decide +kernel
theorem dX6_keyword_149 : decode cX6_keyword 149 = .ok (.iadd, 1) := by decide +kernel
theorem dX6_keyword_150 : decode cX6_keyword 150 = .ok (.baload, 1) := by decide +kernel
theorem dX6_keyword_151 : decode cX6_keyword 151 = .ok (.ireturn, 1) := by decide +kernel
theorem dX6_keyword_152 : decode cX6_keyword 152 = .ok (.iconst (-1), 1) := by decide +kernel
theorem dX6_keyword_153 : decode cX6_keyword 153 = .ok (.ireturn, 1) := by decide +kernel
theorem dX6_isLabel_0 : decode cX6_isLabel 0 = .ok (.aload_n 0, 1) := by decide +kernel
theorem dX6_isLabel_1 : decode cX6_isLabel 1 = .ok (.getfield 19, 3) := by decide +kernel
theorem dX6_isLabel_4 : decode cX6_isLabel 4 = .ok (.istore_n 1, 1) := by decide +kernel
theorem dX6_isLabel_5 : decode cX6_isLabel 5 = .ok (.iload_n 1, 1) := by decide +kernel
theorem dX6_isLabel_6 : decode cX6_isLabel 6 = .ok (.aload_n 0, 1) := by decide +kernel
theorem dX6_isLabel_7 : decode cX6_isLabel 7 = .ok (.getfield 22, 3) := by decide +kernel
theorem dX6_isLabel_10 : decode cX6_isLabel 10 = .ok (.if_icmp .ge 94, 3) := by decide +kernel
theorem dX6_isLabel_13 : decode cX6_isLabel 13 = .ok (.aload_n 0, 1) := by decide +kernel
theorem dX6_isLabel_14 : decode cX6_isLabel 14 = .ok (.getfield 9, 3) := by decide +kernel
theorem dX6_isLabel_17 : decode cX6_isLabel 17 = .ok (.iload_n 1, 1) := by decide +kernel
theorem dX6_isLabel_18 : decode cX6_isLabel 18 = .ok (.baload, 1) := by decide +kernel
theorem dX6_isLabel_19 : decode cX6_isLabel 19 = .ok (.istore_n 2, 1) := by decide +kernel
theorem dX6_isLabel_20 : decode cX6_isLabel 20 = .ok (.iload_n 2, 1) := by decide +kernel
theorem dX6_isLabel_21 : decode cX6_isLabel 21 = .ok (.bipush 97, 2) := by decide +kernel
theorem dX6_isLabel_23 : decode cX6_isLabel 23 = .ok (.if_icmp .lt 9, 3) := by decide +kernel
theorem dX6_isLabel_26 : decode cX6_isLabel 26 = .ok (.iload_n 2, 1) := by decide +kernel
theorem dX6_isLabel_27 : decode cX6_isLabel 27 = .ok (.bipush 122, 2) := by decide +kernel
theorem dX6_isLabel_29 : decode cX6_isLabel 29 = .ok (.if_icmp .le 15, 3) := by decide +kernel
theorem dX6_isLabel_32 : decode cX6_isLabel 32 = .ok (.iload_n 2, 1) := by decide +kernel
theorem dX6_isLabel_33 : decode cX6_isLabel 33 = .ok (.bipush 65, 2) := by decide +kernel
theorem dX6_isLabel_35 : decode cX6_isLabel 35 = .ok (.if_icmp .lt 13, 3) := by decide +kernel
theorem dX6_isLabel_38 : decode cX6_isLabel 38 = .ok (.iload_n 2, 1) := by decide +kernel
theorem dX6_isLabel_39 : decode cX6_isLabel 39 = .ok (.bipush 90, 2) := by decide +kernel
theorem dX6_isLabel_41 : decode cX6_isLabel 41 = .ok (.if_icmp .gt 7, 3) := by decide +kernel
theorem dX6_isLabel_44 : decode cX6_isLabel 44 = .ok (.iconst 1, 1) := by decide +kernel
theorem dX6_isLabel_45 : decode cX6_isLabel 45 = .ok (.goto 4, 3) := by decide +kernel
theorem dX6_isLabel_48 : decode cX6_isLabel 48 = .ok (.iconst 0, 1) := by decide +kernel
theorem dX6_isLabel_49 : decode cX6_isLabel 49 = .ok (.istore_n 3, 1) := by decide +kernel
theorem dX6_isLabel_50 : decode cX6_isLabel 50 = .ok (.iload_n 2, 1) := by decide +kernel
theorem dX6_isLabel_51 : decode cX6_isLabel 51 = .ok (.bipush 48, 2) := by decide +kernel
theorem dX6_isLabel_53 : decode cX6_isLabel 53 = .ok (.if_icmp .lt 13, 3) := by decide +kernel
theorem dX6_isLabel_56 : decode cX6_isLabel 56 = .ok (.iload_n 2, 1) := by decide +kernel
theorem dX6_isLabel_57 : decode cX6_isLabel 57 = .ok (.bipush 57, 2) := by decide +kernel
theorem dX6_isLabel_59 : decode cX6_isLabel 59 = .ok (.if_icmp .gt 7, 3) := by decide +kernel
theorem dX6_isLabel_62 : decode cX6_isLabel 62 = .ok (.iconst 1, 1) := by decide +kernel
theorem dX6_isLabel_63 : decode cX6_isLabel 63 = .ok (.goto 4, 3) := by decide +kernel
theorem dX6_isLabel_66 : decode cX6_isLabel 66 = .ok (.iconst 0, 1) := by decide +kernel
theorem dX6_isLabel_67 : decode cX6_isLabel 67 = .ok (.istore 4, 2) := by decide +kernel
theorem dX6_isLabel_69 : decode cX6_isLabel 69 = .ok (.iload_n 3, 1) := by decide +kernel
theorem dX6_isLabel_70 : decode cX6_isLabel 70 = .ok (.ifCond .ne 28, 3) := by decide +kernel
theorem dX6_isLabel_73 : decode cX6_isLabel 73 = .ok (.iload 4, 2) := by decide +kernel
theorem dX6_isLabel_75 : decode cX6_isLabel 75 = .ok (.ifCond .ne 23, 3) := by decide +kernel
theorem dX6_isLabel_78 : decode cX6_isLabel 78 = .ok (.iload_n 2, 1) := by decide +kernel
theorem dX6_isLabel_79 : decode cX6_isLabel 79 = .ok (.bipush 46, 2) := by decide +kernel
theorem dX6_isLabel_81 : decode cX6_isLabel 81 = .ok (.if_icmp .eq 17, 3) := by decide +kernel
theorem dX6_isLabel_84 : decode cX6_isLabel 84 = .ok (.iload_n 2, 1) := by decide +kernel
theorem dX6_isLabel_85 : decode cX6_isLabel 85 = .ok (.bipush 45, 2) := by decide +kernel
theorem dX6_isLabel_87 : decode cX6_isLabel 87 = .ok (.if_icmp .eq 11, 3) := by decide +kernel
theorem dX6_isLabel_90 : decode cX6_isLabel 90 = .ok (.iload_n 2, 1) := by decide +kernel
theorem dX6_isLabel_91 : decode cX6_isLabel 91 = .ok (.bipush 95, 2) := by decide +kernel
theorem dX6_isLabel_93 : decode cX6_isLabel 93 = .ok (.if_icmp .eq 5, 3) := by decide +kernel
theorem dX6_isLabel_96 : decode cX6_isLabel 96 = .ok (.iconst 0, 1) := by decide +kernel
theorem dX6_isLabel_97 : decode cX6_isLabel 97 = .ok (.ireturn, 1) := by decide +kernel
theorem dX6_isLabel_98 : decode cX6_isLabel 98 = .ok (.iinc 1 1, 3) := by decide +kernel
theorem dX6_isLabel_101 : decode cX6_isLabel 101 = .ok (.goto (-96), 3) := by decide +kernel
theorem dX6_isLabel_104 : decode cX6_isLabel 104 = .ok (.iconst 1, 1) := by decide +kernel
theorem dX6_isLabel_105 : decode cX6_isLabel 105 = .ok (.ireturn, 1) := by decide +kernel
theorem dX7_init_0 : decode cX7_init 0 = .ok (.aload_n 0, 1) := by decide +kernel
theorem dX7_init_1 : decode cX7_init 1 = .ok (.invokespecial 3, 3) := by decide +kernel
theorem dX7_init_4 : decode cX7_init 4 = .ok (.aload_n 0, 1) := by decide +kernel
theorem dX7_init_5 : decode cX7_init 5 = .ok (.bipush 16, 2) := by decide +kernel
theorem dX7_init_7 : decode cX7_init 7 = .ok (.newarray .int, 2) := by decide +kernel
theorem dX7_init_9 : decode cX7_init 9 = .ok (.putfield 9, 3) := by decide +kernel
theorem dX7_init_12 : decode cX7_init 12 = .ok (.aload_n 0, 1) := by decide +kernel
theorem dX7_init_13 : decode cX7_init 13 = .ok (.bipush 16, 2) := by decide +kernel
theorem dX7_init_15 : decode cX7_init 15 = .ok (.newarray .int, 2) := by decide +kernel
theorem dX7_init_17 : decode cX7_init 17 = .ok (.putfield 15, 3) := by decide +kernel
theorem dX7_init_20 : decode cX7_init 20 = .ok (.aload_n 0, 1) := by decide +kernel
theorem dX7_init_21 : decode cX7_init 21 = .ok (.sipush 300, 3) := by decide +kernel
theorem dX7_init_24 : decode cX7_init 24 = .ok (.newarray .int, 2) := by decide +kernel
theorem dX7_init_26 : decode cX7_init 26 = .ok (.putfield 18, 3) := by decide +kernel
theorem dX7_init_29 : decode cX7_init 29 = .ok (.aload_n 0, 1) := by decide +kernel
theorem dX7_init_30 : decode cX7_init 30 = .ok (.sipush 300, 3) := by decide +kernel
theorem dX7_init_33 : decode cX7_init 33 = .ok (.newarray .byte, 2) := by decide +kernel
theorem dX7_init_35 : decode cX7_init 35 = .ok (.putfield 21, 3) := by decide +kernel
theorem dX7_init_38 : decode cX7_init 38 = .ok (.aload_n 0, 1) := by decide +kernel
theorem dX7_init_39 : decode cX7_init 39 = .ok (.sipush 300, 3) := by decide +kernel
theorem dX7_init_42 : decode cX7_init 42 = .ok (.newarray .byte, 2) := by decide +kernel
theorem dX7_init_44 : decode cX7_init 44 = .ok (.putfield 25, 3) := by decide +kernel
theorem dX7_init_47 : decode cX7_init 47 = .ok (.aload_n 0, 1) := by decide +kernel
theorem dX7_init_48 : decode cX7_init 48 = .ok (.sipush 300, 3) := by decide +kernel
theorem dX7_init_51 : decode cX7_init 51 = .ok (.newarray .int, 2) := by decide +kernel
theorem dX7_init_53 : decode cX7_init 53 = .ok (.putfield 28, 3) := by decide +kernel
theorem dX7_init_56 : decode cX7_init 56 = .ok (.aload_n 0, 1) := by decide +kernel
theorem dX7_init_57 : decode cX7_init 57 = .ok (.sipush 200, 3) := by decide +kernel
theorem dX7_init_60 : decode cX7_init 60 = .ok (.newarray .int, 2) := by decide +kernel
theorem dX7_init_62 : decode cX7_init 62 = .ok (.putfield 31, 3) := by decide +kernel
theorem dX7_init_65 : decode cX7_init 65 = .ok (.aload_n 0, 1) := by decide +kernel
theorem dX7_init_66 : decode cX7_init 66 = .ok (.sipush 200, 3) := by decide +kernel
theorem dX7_init_69 : decode cX7_init 69 = .ok (.newarray .int, 2) := by decide +kernel
theorem dX7_init_71 : decode cX7_init 71 = .ok (.putfield 34, 3) := by decide +kernel
theorem dX7_init_74 : decode cX7_init 74 = .ok (.aload_n 0, 1) := by decide +kernel
theorem dX7_init_75 : decode cX7_init 75 = .ok (.sipush 200, 3) := by decide +kernel
theorem dX7_init_78 : decode cX7_init 78 = .ok (.newarray .int, 2) := by decide +kernel
theorem dX7_init_80 : decode cX7_init 80 = .ok (.putfield 37, 3) := by decide +kernel
theorem dX7_init_83 : decode cX7_init 83 = .ok (.return_, 1) := by decide +kernel
theorem dX7_clear_0 : decode cX7_clear 0 = .ok (.aload_n 0, 1) := by decide +kernel
theorem dX7_clear_1 : decode cX7_clear 1 = .ok (.iconst 0, 1) := by decide +kernel
theorem dX7_clear_2 : decode cX7_clear 2 = .ok (.putfield 40, 3) := by decide +kernel
theorem dX7_clear_5 : decode cX7_clear 5 = .ok (.aload_n 0, 1) := by decide +kernel
theorem dX7_clear_6 : decode cX7_clear 6 = .ok (.iconst 0, 1) := by decide +kernel
theorem dX7_clear_7 : decode cX7_clear 7 = .ok (.putfield 44, 3) := by decide +kernel
theorem dX7_clear_10 : decode cX7_clear 10 = .ok (.aload_n 0, 1) := by decide +kernel
theorem dX7_clear_11 : decode cX7_clear 11 = .ok (.iconst 0, 1) := by decide +kernel
theorem dX7_clear_12 : decode cX7_clear 12 = .ok (.putfield 47, 3) := by decide +kernel
theorem dX7_clear_15 : decode cX7_clear 15 = .ok (.aload_n 0, 1) := by decide +kernel
theorem dX7_clear_16 : decode cX7_clear 16 = .ok (.iconst 0, 1) := by decide +kernel
theorem dX7_clear_17 : decode cX7_clear 17 = .ok (.putfield 50, 3) := by decide +kernel
theorem dX7_clear_20 : decode cX7_clear 20 = .ok (.aload_n 0, 1) := by decide +kernel
theorem dX7_clear_21 : decode cX7_clear 21 = .ok (.getfield 21, 3) := by decide +kernel
theorem dX7_clear_24 : decode cX7_clear 24 = .ok (.iconst 0, 1) := by decide +kernel
theorem dX7_clear_25 : decode cX7_clear 25 = .ok (.invokestatic 53, 3) := by decide +kernel
theorem dX7_clear_28 : decode cX7_clear 28 = .ok (.aload_n 0, 1) := by decide +kernel
theorem dX7_clear_29 : decode cX7_clear 29 = .ok (.getfield 25, 3) := by decide +kernel
theorem dX7_clear_32 : decode cX7_clear 32 = .ok (.iconst 0, 1) := by decide +kernel
theorem dX7_clear_33 : decode cX7_clear 33 = .ok (.invokestatic 53, 3) := by decide +kernel
theorem dX7_clear_36 : decode cX7_clear 36 = .ok (.aload_n 0, 1) := by decide +kernel
theorem dX7_clear_37 : decode cX7_clear 37 = .ok (.getfield 28, 3) := by decide +kernel
theorem dX7_clear_40 : decode cX7_clear 40 = .ok (.iconst 0, 1) := by decide +kernel
theorem dX7_clear_41 : decode cX7_clear 41 = .ok (.invokestatic 59, 3) := by decide +kernel
theorem dX7_clear_44 : decode cX7_clear 44 = .ok (.return_, 1) := by decide +kernel
theorem dX7_openBlock_0 : decode cX7_openBlock 0 = .ok (.aload_n 0, 1) := by decide +kernel
theorem dX7_openBlock_1 : decode cX7_openBlock 1 = .ok (.getfield 40, 3) := by decide +kernel
theorem dX7_openBlock_4 : decode cX7_openBlock 4 = .ok (.bipush 16, 2) := by decide +kernel
theorem dX7_openBlock_6 : decode cX7_openBlock 6 = .ok (.if_icmp .ne 5, 3) := by decide +kernel
theorem dX7_openBlock_9 : decode cX7_openBlock 9 = .ok (.iconst 0, 1) := by decide +kernel
theorem dX7_openBlock_10 : decode cX7_openBlock 10 = .ok (.ireturn, 1) := by decide +kernel
theorem dX7_openBlock_11 : decode cX7_openBlock 11 = .ok (.aload_n 0, 1) := by decide +kernel
theorem dX7_openBlock_12 : decode cX7_openBlock 12 = .ok (.getfield 9, 3) := by decide +kernel
theorem dX7_openBlock_15 : decode cX7_openBlock 15 = .ok (.aload_n 0, 1) := by decide +kernel
theorem dX7_openBlock_16 : decode cX7_openBlock 16 = .ok (.getfield 40, 3) := by decide +kernel
theorem dX7_openBlock_19 : decode cX7_openBlock 19 = .ok (.aload_n 0, 1) := by decide +kernel
theorem dX7_openBlock_20 : decode cX7_openBlock 20 = .ok (.getfield 44, 3) := by decide +kernel
theorem dX7_openBlock_23 : decode cX7_openBlock 23 = .ok (.iastore, 1) := by decide +kernel
theorem dX7_openBlock_24 : decode cX7_openBlock 24 = .ok (.aload_n 0, 1) := by decide +kernel
theorem dX7_openBlock_25 : decode cX7_openBlock 25 = .ok (.getfield 15, 3) := by decide +kernel
theorem dX7_openBlock_28 : decode cX7_openBlock 28 = .ok (.aload_n 0, 1) := by decide +kernel
theorem dX7_openBlock_29 : decode cX7_openBlock 29 = .ok (.getfield 40, 3) := by decide +kernel
theorem dX7_openBlock_32 : decode cX7_openBlock 32 = .ok (.aload_n 0, 1) := by decide +kernel
theorem dX7_openBlock_33 : decode cX7_openBlock 33 = .ok (.getfield 47, 3) := by decide +kernel
theorem dX7_openBlock_36 : decode cX7_openBlock 36 = .ok (.iastore, 1) := by decide +kernel
theorem dX7_openBlock_37 : decode cX7_openBlock 37 = .ok (.aload_n 0, 1) := by decide +kernel
theorem dX7_openBlock_38 : decode cX7_openBlock 38 = .ok (.dup, 1) := by decide +kernel
theorem dX7_openBlock_39 : decode cX7_openBlock 39 = .ok (.getfield 40, 3) := by decide +kernel
theorem dX7_openBlock_42 : decode cX7_openBlock 42 = .ok (.iconst 1, 1) := by decide +kernel
theorem dX7_openBlock_43 : decode cX7_openBlock 43 = .ok (.iadd, 1) := by decide +kernel
theorem dX7_openBlock_44 : decode cX7_openBlock 44 = .ok (.putfield 40, 3) := by decide +kernel
theorem dX7_openBlock_47 : decode cX7_openBlock 47 = .ok (.iconst 1, 1) := by decide +kernel
theorem dX7_openBlock_48 : decode cX7_openBlock 48 = .ok (.ireturn, 1) := by decide +kernel
theorem dX7_closeBlock_0 : decode cX7_closeBlock 0 = .ok (.aload_n 0, 1) := by decide +kernel
theorem dX7_closeBlock_1 : decode cX7_closeBlock 1 = .ok (.invokevirtual 62, 3) := by decide +kernel
theorem dX7_closeBlock_4 : decode cX7_closeBlock 4 = .ok (.aload_n 0, 1) := by decide +kernel
theorem dX7_closeBlock_5 : decode cX7_closeBlock 5 = .ok (.dup, 1) := by decide +kernel
theorem dX7_closeBlock_6 : decode cX7_closeBlock 6 = .ok (.getfield 40, 3) := by decide +kernel
theorem dX7_closeBlock_9 : decode cX7_closeBlock 9 = .ok (.iconst 1, 1) := by decide +kernel
theorem dX7_closeBlock_10 : decode cX7_closeBlock 10 = .ok (.isub, 1) := by decide +kernel
theorem dX7_closeBlock_11 : decode cX7_closeBlock 11 = .ok (.putfield 40, 3) := by decide +kernel
theorem dX7_closeBlock_14 : decode cX7_closeBlock 14 = .ok (.aload_n 0, 1) := by decide +kernel
theorem dX7_closeBlock_15 : decode cX7_closeBlock 15 = .ok (.getfield 15, 3) := by decide +kernel
theorem dX7_closeBlock_18 : decode cX7_closeBlock 18 = .ok (.aload_n 0, 1) := by decide +kernel
theorem dX7_closeBlock_19 : decode cX7_closeBlock 19 = .ok (.getfield 40, 3) := by decide +kernel
theorem dX7_closeBlock_22 : decode cX7_closeBlock 22 = .ok (.iaload, 1) := by decide +kernel
theorem dX7_closeBlock_23 : decode cX7_closeBlock 23 = .ok (.istore_n 2, 1) := by decide +kernel
theorem dX7_closeBlock_24 : decode cX7_closeBlock 24 = .ok (.iload_n 2, 1) := by decide +kernel
theorem dX7_closeBlock_25 : decode cX7_closeBlock 25 = .ok (.aload_n 0, 1) := by decide +kernel
theorem dX7_closeBlock_26 : decode cX7_closeBlock 26 = .ok (.getfield 47, 3) := by decide +kernel
theorem dX7_closeBlock_29 : decode cX7_closeBlock 29 = .ok (.if_icmp .ge 20, 3) := by decide +kernel
theorem dX7_closeBlock_32 : decode cX7_closeBlock 32 = .ok (.aload_n 0, 1) := by decide +kernel
theorem dX7_closeBlock_33 : decode cX7_closeBlock 33 = .ok (.aload_n 1, 1) := by decide +kernel
theorem dX7_closeBlock_34 : decode cX7_closeBlock 34 = .ok (.aload_n 0, 1) := by decide +kernel
theorem dX7_closeBlock_35 : decode cX7_closeBlock 35 = .ok (.getfield 31, 3) := by decide +kernel
theorem dX7_closeBlock_38 : decode cX7_closeBlock 38 = .ok (.iload_n 2, 1) := by decide +kernel
theorem dX7_closeBlock_39 : decode cX7_closeBlock 39 = .ok (.iaload, 1) := by decide +kernel
theorem dX7_closeBlock_40 : decode cX7_closeBlock 40 = .ok (.invokevirtual 65, 3) := by decide +kernel
theorem dX7_closeBlock_43 : decode cX7_closeBlock 43 = .ok (.iinc 2 1, 3) := by decide +kernel
theorem dX7_closeBlock_46 : decode cX7_closeBlock 46 = .ok (.goto (-22), 3) := by decide +kernel
theorem dX7_closeBlock_49 : decode cX7_closeBlock 49 = .ok (.aload_n 0, 1) := by decide +kernel
theorem dX7_closeBlock_50 : decode cX7_closeBlock 50 = .ok (.aload_n 0, 1) := by decide +kernel
theorem dX7_closeBlock_51 : decode cX7_closeBlock 51 = .ok (.getfield 15, 3) := by decide +kernel
theorem dX7_closeBlock_54 : decode cX7_closeBlock 54 = .ok (.aload_n 0, 1) := by decide +kernel
theorem dX7_closeBlock_55 : decode cX7_closeBlock 55 = .ok (.getfield 40, 3) := by decide +kernel
theorem dX7_closeBlock_58 : decode cX7_closeBlock 58 = .ok (.iaload, 1) := by decide +kernel
theorem dX7_closeBlock_59 : decode cX7_closeBlock 59 = .ok (.putfield 47, 3) := by decide +kernel
theorem dX7_closeBlock_62 : decode cX7_closeBlock 62 = .ok (.aload_n 0, 1) := by decide +kernel
theorem dX7_closeBlock_63 : decode cX7_closeBlock 63 = .ok (.getfield 9, 3) := by decide +kernel
theorem dX7_closeBlock_66 : decode cX7_closeBlock 66 = .ok (.aload_n 0, 1) := by decide +kernel
theorem dX7_closeBlock_67 : decode cX7_closeBlock 67 = .ok (.getfield 40, 3) := by decide +kernel
theorem dX7_closeBlock_70 : decode cX7_closeBlock 70 = .ok (.iaload, 1) := by decide +kernel
theorem dX7_closeBlock_71 : decode cX7_closeBlock 71 = .ok (.istore_n 2, 1) := by decide +kernel
theorem dX7_closeBlock_72 : decode cX7_closeBlock 72 = .ok (.iload_n 2, 1) := by decide +kernel
theorem dX7_closeBlock_73 : decode cX7_closeBlock 73 = .ok (.aload_n 0, 1) := by decide +kernel
theorem dX7_closeBlock_74 : decode cX7_closeBlock 74 = .ok (.getfield 44, 3) := by decide +kernel
theorem dX7_closeBlock_77 : decode cX7_closeBlock 77 = .ok (.if_icmp .ge 21, 3) := by decide +kernel
theorem dX7_closeBlock_80 : decode cX7_closeBlock 80 = .ok (.aload_n 0, 1) := by decide +kernel
theorem dX7_closeBlock_81 : decode cX7_closeBlock 81 = .ok (.getfield 21, 3) := by decide +kernel
theorem dX7_closeBlock_84 : decode cX7_closeBlock 84 = .ok (.aload_n 0, 1) := by decide +kernel
theorem dX7_closeBlock_85 : decode cX7_closeBlock 85 = .ok (.getfield 18, 3) := by decide +kernel
theorem dX7_closeBlock_88 : decode cX7_closeBlock 88 = .ok (.iload_n 2, 1) := by decide +kernel
theorem dX7_closeBlock_89 : decode cX7_closeBlock 89 = .ok (.iaload, 1) := by decide +kernel
theorem dX7_closeBlock_90 : decode cX7_closeBlock 90 = .ok (.iconst 0, 1) := by decide +kernel
theorem dX7_closeBlock_91 : decode cX7_closeBlock 91 = .ok (.bastore, 1) := by decide +kernel
theorem dX7_closeBlock_92 : decode cX7_closeBlock 92 = .ok (.iinc 2 1, 3) := by decide +kernel
theorem dX7_closeBlock_95 : decode cX7_closeBlock 95 = .ok (.goto (-23), 3) := by decide +kernel
theorem dX7_closeBlock_98 : decode cX7_closeBlock 98 = .ok (.aload_n 0, 1) := by decide +kernel
theorem dX7_closeBlock_99 : decode cX7_closeBlock 99 = .ok (.aload_n 0, 1) := by decide +kernel
theorem dX7_closeBlock_100 : decode cX7_closeBlock 100 = .ok (.getfield 9, 3) := by decide +kernel
theorem dX7_closeBlock_103 : decode cX7_closeBlock 103 = .ok (.aload_n 0, 1) := by decide +kernel
theorem dX7_closeBlock_104 : decode cX7_closeBlock 104 = .ok (.getfield 40, 3) := by decide +kernel
theorem dX7_closeBlock_107 : decode cX7_closeBlock 107 = .ok (.iaload, 1) := by decide +kernel
theorem dX7_closeBlock_108 : decode cX7_closeBlock 108 = .ok (.putfield 44, 3) := by decide +kernel
theorem dX7_closeBlock_111 : decode cX7_closeBlock 111 = .ok (.return_, 1) := by decide +kernel
theorem dX7_dropHypothesis_0 : decode cX7_dropHypothesis 0 = .ok (.aload_n 1, 1) := by decide +kernel
theorem dX7_dropHypothesis_1 : decode cX7_dropHypothesis 1 = .ok (.getfield 69, 3) := by decide +kernel
theorem dX7_dropHypothesis_4 : decode cX7_dropHypothesis 4 = .ok (.iload_n 2, 1) := by decide +kernel
theorem dX7_dropHypothesis_5 : decode cX7_dropHypothesis 5 = .ok (.aload_n 1, 1) := by decide +kernel
theorem dX7_dropHypothesis_6 : decode cX7_dropHypothesis 6 = .ok (.getfield 74, 3) := by decide +kernel
theorem dX7_dropHypothesis_9 : decode cX7_dropHypothesis 9 = .ok (.iastore, 1) := by decide +kernel
theorem dX7_dropHypothesis_10 : decode cX7_dropHypothesis 10 = .ok (.aload_n 1, 1) := by decide +kernel
theorem dX7_dropHypothesis_11 : decode cX7_dropHypothesis 11 = .ok (.getfield 77, 3) := by decide +kernel
theorem dX7_dropHypothesis_14 : decode cX7_dropHypothesis 14 = .ok (.iload_n 2, 1) := by decide +kernel
theorem dX7_dropHypothesis_15 : decode cX7_dropHypothesis 15 = .ok (.iaload, 1) := by decide +kernel
theorem dX7_dropHypothesis_16 : decode cX7_dropHypothesis 16 = .ok (.ifCond .ne 21, 3) := by decide +kernel
theorem dX7_dropHypothesis_19 : decode cX7_dropHypothesis 19 = .ok (.aload_n 0, 1) := by decide +kernel
theorem dX7_dropHypothesis_20 : decode cX7_dropHypothesis 20 = .ok (.getfield 25, 3) := by decide +kernel
theorem dX7_dropHypothesis_23 : decode cX7_dropHypothesis 23 = .ok (.aload_n 1, 1) := by decide +kernel
theorem dX7_dropHypothesis_24 : decode cX7_dropHypothesis 24 = .ok (.getfield 80, 3) := by decide +kernel
theorem dX7_dropHypothesis_27 : decode cX7_dropHypothesis 27 = .ok (.iload_n 2, 1) := by decide +kernel
theorem dX7_dropHypothesis_28 : decode cX7_dropHypothesis 28 = .ok (.iconst 1, 1) := by decide +kernel
theorem dX7_dropHypothesis_29 : decode cX7_dropHypothesis 29 = .ok (.invokevirtual 84, 3) := by decide +kernel
theorem dX7_dropHypothesis_32 : decode cX7_dropHypothesis 32 = .ok (.iconst 0, 1) := by decide +kernel
theorem dX7_dropHypothesis_33 : decode cX7_dropHypothesis 33 = .ok (.bastore, 1) := by decide +kernel
theorem dX7_dropHypothesis_34 : decode cX7_dropHypothesis 34 = .ok (.goto 10, 3) := by decide +kernel
theorem dX7_dropHypothesis_37 : decode cX7_dropHypothesis 37 = .ok (.aload_n 0, 1) := by decide +kernel
theorem dX7_dropHypothesis_38 : decode cX7_dropHypothesis 38 = .ok (.aload_n 1, 1) := by decide +kernel
theorem dX7_dropHypothesis_39 : decode cX7_dropHypothesis 39 = .ok (.iload_n 2, 1) := by decide +kernel
theorem dX7_dropHypothesis_40 : decode cX7_dropHypothesis 40 = .ok (.iconst (-1), 1) := by decide +kernel
theorem dX7_dropHypothesis_41 : decode cX7_dropHypothesis 41 = .ok (.invokevirtual 90, 3) := by decide +kernel
theorem dX7_dropHypothesis_44 : decode cX7_dropHypothesis 44 = .ok (.return_, 1) := by decide +kernel
theorem dX7_dropPairs_0 : decode cX7_dropPairs 0 = .ok (.iconst 0, 1) := by decide +kernel
theorem dX7_dropPairs_1 : decode cX7_dropPairs 1 = .ok (.istore_n 1, 1) := by decide +kernel
theorem dX7_dropPairs_2 : decode cX7_dropPairs 2 = .ok (.iconst 0, 1) := by decide +kernel
theorem dX7_dropPairs_3 : decode cX7_dropPairs 3 = .ok (.istore_n 2, 1) := by decide +kernel
theorem dX7_dropPairs_4 : decode cX7_dropPairs 4 = .ok (.iload_n 2, 1) := by decide +kernel
theorem dX7_dropPairs_5 : decode cX7_dropPairs 5 = .ok (.aload_n 0, 1) := by decide +kernel
theorem dX7_dropPairs_6 : decode cX7_dropPairs 6 = .ok (.getfield 50, 3) := by decide +kernel
theorem dX7_dropPairs_9 : decode cX7_dropPairs 9 = .ok (.if_icmp .ge 49, 3) := by decide +kernel
theorem dX7_dropPairs_12 : decode cX7_dropPairs 12 = .ok (.aload_n 0, 1) := by decide +kernel
theorem dX7_dropPairs_13 : decode cX7_dropPairs 13 = .ok (.getfield 37, 3) := by decide +kernel
theorem dX7_dropPairs_16 : decode cX7_dropPairs 16 = .ok (.iload_n 2, 1) := by decide +kernel
theorem dX7_dropPairs_17 : decode cX7_dropPairs 17 = .ok (.iaload, 1) := by decide +kernel
theorem dX7_dropPairs_18 : decode cX7_dropPairs 18 = .ok (.aload_n 0, 1) := by decide +kernel
theorem dX7_dropPairs_19 : decode cX7_dropPairs 19 = .ok (.getfield 40, 3) := by decide +kernel
theorem dX7_dropPairs_22 : decode cX7_dropPairs 22 = .ok (.if_icmp .ge 30, 3) := by decide +kernel
theorem dX7_dropPairs_25 : decode cX7_dropPairs 25 = .ok (.aload_n 0, 1) := by decide +kernel
theorem dX7_dropPairs_26 : decode cX7_dropPairs 26 = .ok (.getfield 34, 3) := by decide +kernel
theorem dX7_dropPairs_29 : decode cX7_dropPairs 29 = .ok (.iload_n 1, 1) := by decide +kernel
theorem dX7_dropPairs_30 : decode cX7_dropPairs 30 = .ok (.aload_n 0, 1) := by decide +kernel
theorem dX7_dropPairs_31 : decode cX7_dropPairs 31 = .ok (.getfield 34, 3) := by decide +kernel
theorem dX7_dropPairs_34 : decode cX7_dropPairs 34 = .ok (.iload_n 2, 1) := by decide +kernel
theorem dX7_dropPairs_35 : decode cX7_dropPairs 35 = .ok (.iaload, 1) := by decide +kernel
theorem dX7_dropPairs_36 : decode cX7_dropPairs 36 = .ok (.iastore, 1) := by decide +kernel
theorem dX7_dropPairs_37 : decode cX7_dropPairs 37 = .ok (.aload_n 0, 1) := by decide +kernel
theorem dX7_dropPairs_38 : decode cX7_dropPairs 38 = .ok (.getfield 37, 3) := by decide +kernel
theorem dX7_dropPairs_41 : decode cX7_dropPairs 41 = .ok (.iload_n 1, 1) := by decide +kernel
theorem dX7_dropPairs_42 : decode cX7_dropPairs 42 = .ok (.aload_n 0, 1) := by decide +kernel
theorem dX7_dropPairs_43 : decode cX7_dropPairs 43 = .ok (.getfield 37, 3) := by decide +kernel
theorem dX7_dropPairs_46 : decode cX7_dropPairs 46 = .ok (.iload_n 2, 1) := by decide +kernel
theorem dX7_dropPairs_47 : decode cX7_dropPairs 47 = .ok (.iaload, 1) := by decide +kernel
theorem dX7_dropPairs_48 : decode cX7_dropPairs 48 = .ok (.iastore, 1) := by decide +kernel
theorem dX7_dropPairs_49 : decode cX7_dropPairs 49 = .ok (.iinc 1 1, 3) := by decide +kernel
theorem dX7_dropPairs_52 : decode cX7_dropPairs 52 = .ok (.iinc 2 1, 3) := by decide +kernel
theorem dX7_dropPairs_55 : decode cX7_dropPairs 55 = .ok (.goto (-51), 3) := by decide +kernel
theorem dX7_dropPairs_58 : decode cX7_dropPairs 58 = .ok (.aload_n 0, 1) := by decide +kernel
theorem dX7_dropPairs_59 : decode cX7_dropPairs 59 = .ok (.iload_n 1, 1) := by decide +kernel
theorem dX7_dropPairs_60 : decode cX7_dropPairs 60 = .ok (.putfield 50, 3) := by decide +kernel
theorem dX7_dropPairs_63 : decode cX7_dropPairs 63 = .ok (.return_, 1) := by decide +kernel
theorem dX7_isActive_0 : decode cX7_isActive 0 = .ok (.iload_n 1, 1) := by decide +kernel
theorem dX7_isActive_1 : decode cX7_isActive 1 = .ok (.ifCond .lt 23, 3) := by decide +kernel
theorem dX7_isActive_4 : decode cX7_isActive 4 = .ok (.iload_n 1, 1) := by decide +kernel
theorem dX7_isActive_5 : decode cX7_isActive 5 = .ok (.sipush 300, 3) := by decide +kernel
theorem dX7_isActive_8 : decode cX7_isActive 8 = .ok (.if_icmp .ge 16, 3) := by decide +kernel
theorem dX7_isActive_11 : decode cX7_isActive 11 = .ok (.aload_n 0, 1) := by decide +kernel
theorem dX7_isActive_12 : decode cX7_isActive 12 = .ok (.getfield 21, 3) := by decide +kernel
theorem dX7_isActive_15 : decode cX7_isActive 15 = .ok (.iload_n 1, 1) := by decide +kernel
theorem dX7_isActive_16 : decode cX7_isActive 16 = .ok (.baload, 1) := by decide +kernel
theorem dX7_isActive_17 : decode cX7_isActive 17 = .ok (.ifCond .eq 7, 3) := by decide +kernel
theorem dX7_isActive_20 : decode cX7_isActive 20 = .ok (.iconst 1, 1) := by decide +kernel
theorem dX7_isActive_21 : decode cX7_isActive 21 = .ok (.goto 4, 3) := by decide +kernel
theorem dX7_isActive_24 : decode cX7_isActive 24 = .ok (.iconst 0, 1) := by decide +kernel
theorem dX7_isActive_25 : decode cX7_isActive 25 = .ok (.ireturn, 1) := by decide +kernel
theorem dX7_isTyped_0 : decode cX7_isTyped 0 = .ok (.iload_n 1, 1) := by decide +kernel
theorem dX7_isTyped_1 : decode cX7_isTyped 1 = .ok (.ifCond .lt 23, 3) := by decide +kernel
theorem dX7_isTyped_4 : decode cX7_isTyped 4 = .ok (.iload_n 1, 1) := by decide +kernel
theorem dX7_isTyped_5 : decode cX7_isTyped 5 = .ok (.sipush 300, 3) := by decide +kernel
theorem dX7_isTyped_8 : decode cX7_isTyped 8 = .ok (.if_icmp .ge 16, 3) := by decide +kernel
theorem dX7_isTyped_11 : decode cX7_isTyped 11 = .ok (.aload_n 0, 1) := by decide +kernel
theorem dX7_isTyped_12 : decode cX7_isTyped 12 = .ok (.getfield 25, 3) := by decide +kernel
theorem dX7_isTyped_15 : decode cX7_isTyped 15 = .ok (.iload_n 1, 1) := by decide +kernel
theorem dX7_isTyped_16 : decode cX7_isTyped 16 = .ok (.baload, 1) := by decide +kernel
theorem dX7_isTyped_17 : decode cX7_isTyped 17 = .ok (.ifCond .eq 7, 3) := by decide +kernel
theorem dX7_isTyped_20 : decode cX7_isTyped 20 = .ok (.iconst 1, 1) := by decide +kernel
theorem dX7_isTyped_21 : decode cX7_isTyped 21 = .ok (.goto 4, 3) := by decide +kernel
theorem dX7_isTyped_24 : decode cX7_isTyped 24 = .ok (.iconst 0, 1) := by decide +kernel
theorem dX7_isTyped_25 : decode cX7_isTyped 25 = .ok (.ireturn, 1) := by decide +kernel
theorem dX7_activate_0 : decode cX7_activate 0 = .ok (.aload_n 0, 1) := by decide +kernel
theorem dX7_activate_1 : decode cX7_activate 1 = .ok (.getfield 21, 3) := by decide +kernel
theorem dX7_activate_4 : decode cX7_activate 4 = .ok (.iload_n 1, 1) := by decide +kernel
theorem dX7_activate_5 : decode cX7_activate 5 = .ok (.iconst 1, 1) := by decide +kernel
theorem dX7_activate_6 : decode cX7_activate 6 = .ok (.bastore, 1) := by decide +kernel
theorem dX7_activate_7 : decode cX7_activate 7 = .ok (.aload_n 0, 1) := by decide +kernel
theorem dX7_activate_8 : decode cX7_activate 8 = .ok (.getfield 18, 3) := by decide +kernel
theorem dX7_activate_11 : decode cX7_activate 11 = .ok (.aload_n 0, 1) := by decide +kernel
theorem dX7_activate_12 : decode cX7_activate 12 = .ok (.getfield 44, 3) := by decide +kernel
theorem dX7_activate_15 : decode cX7_activate 15 = .ok (.iload_n 1, 1) := by decide +kernel
theorem dX7_activate_16 : decode cX7_activate 16 = .ok (.iastore, 1) := by decide +kernel
theorem dX7_activate_17 : decode cX7_activate 17 = .ok (.aload_n 0, 1) := by decide +kernel
theorem dX7_activate_18 : decode cX7_activate 18 = .ok (.dup, 1) := by decide +kernel
theorem dX7_activate_19 : decode cX7_activate 19 = .ok (.getfield 44, 3) := by decide +kernel
theorem dX7_activate_22 : decode cX7_activate 22 = .ok (.iconst 1, 1) := by decide +kernel
theorem dX7_activate_23 : decode cX7_activate 23 = .ok (.iadd, 1) := by decide +kernel
theorem dX7_activate_24 : decode cX7_activate 24 = .ok (.putfield 44, 3) := by decide +kernel
theorem dX7_activate_27 : decode cX7_activate 27 = .ok (.return_, 1) := by decide +kernel
theorem dX7_addHypothesis_0 : decode cX7_addHypothesis 0 = .ok (.aload_n 1, 1) := by decide +kernel
theorem dX7_addHypothesis_1 : decode cX7_addHypothesis 1 = .ok (.getfield 69, 3) := by decide +kernel
theorem dX7_addHypothesis_4 : decode cX7_addHypothesis 4 = .ok (.iload_n 2, 1) := by decide +kernel
theorem dX7_addHypothesis_5 : decode cX7_addHypothesis 5 = .ok (.sipush 200, 3) := by decide +kernel
theorem dX7_addHypothesis_8 : decode cX7_addHypothesis 8 = .ok (.iastore, 1) := by decide +kernel
theorem dX7_addHypothesis_9 : decode cX7_addHypothesis 9 = .ok (.aload_n 0, 1) := by decide +kernel
theorem dX7_addHypothesis_10 : decode cX7_addHypothesis 10 = .ok (.getfield 31, 3) := by decide +kernel
theorem dX7_addHypothesis_13 : decode cX7_addHypothesis 13 = .ok (.aload_n 0, 1) := by decide +kernel
theorem dX7_addHypothesis_14 : decode cX7_addHypothesis 14 = .ok (.getfield 47, 3) := by decide +kernel
theorem dX7_addHypothesis_17 : decode cX7_addHypothesis 17 = .ok (.iload_n 2, 1) := by decide +kernel
theorem dX7_addHypothesis_18 : decode cX7_addHypothesis 18 = .ok (.iastore, 1) := by decide +kernel
theorem dX7_addHypothesis_19 : decode cX7_addHypothesis 19 = .ok (.aload_n 0, 1) := by decide +kernel
theorem dX7_addHypothesis_20 : decode cX7_addHypothesis 20 = .ok (.dup, 1) := by decide +kernel
theorem dX7_addHypothesis_21 : decode cX7_addHypothesis 21 = .ok (.getfield 47, 3) := by decide +kernel
theorem dX7_addHypothesis_24 : decode cX7_addHypothesis 24 = .ok (.iconst 1, 1) := by decide +kernel
theorem dX7_addHypothesis_25 : decode cX7_addHypothesis 25 = .ok (.iadd, 1) := by decide +kernel
theorem dX7_addHypothesis_26 : decode cX7_addHypothesis 26 = .ok (.putfield 47, 3) := by decide +kernel
theorem dX7_addHypothesis_29 : decode cX7_addHypothesis 29 = .ok (.aload_n 1, 1) := by decide +kernel
theorem dX7_addHypothesis_30 : decode cX7_addHypothesis 30 = .ok (.getfield 77, 3) := by decide +kernel
theorem dX7_addHypothesis_33 : decode cX7_addHypothesis 33 = .ok (.iload_n 2, 1) := by decide +kernel
theorem dX7_addHypothesis_34 : decode cX7_addHypothesis 34 = .ok (.iaload, 1) := by decide +kernel
theorem dX7_addHypothesis_35 : decode cX7_addHypothesis 35 = .ok (.ifCond .ne 21, 3) := by decide +kernel
theorem dX7_addHypothesis_38 : decode cX7_addHypothesis 38 = .ok (.aload_n 0, 1) := by decide +kernel
theorem dX7_addHypothesis_39 : decode cX7_addHypothesis 39 = .ok (.getfield 25, 3) := by decide +kernel
theorem dX7_addHypothesis_42 : decode cX7_addHypothesis 42 = .ok (.aload_n 1, 1) := by decide +kernel
theorem dX7_addHypothesis_43 : decode cX7_addHypothesis 43 = .ok (.getfield 80, 3) := by decide +kernel
theorem dX7_addHypothesis_46 : decode cX7_addHypothesis 46 = .ok (.iload_n 2, 1) := by decide +kernel
theorem dX7_addHypothesis_47 : decode cX7_addHypothesis 47 = .ok (.iconst 1, 1) := by decide +kernel
theorem dX7_addHypothesis_48 : decode cX7_addHypothesis 48 = .ok (.invokevirtual 84, 3) := by decide +kernel
theorem dX7_addHypothesis_51 : decode cX7_addHypothesis 51 = .ok (.iconst 1, 1) := by decide +kernel
theorem dX7_addHypothesis_52 : decode cX7_addHypothesis 52 = .ok (.bastore, 1) := by decide +kernel
theorem dX7_addHypothesis_53 : decode cX7_addHypothesis 53 = .ok (.goto 10, 3) := by decide +kernel
theorem dX7_addHypothesis_56 : decode cX7_addHypothesis 56 = .ok (.aload_n 0, 1) := by decide +kernel
theorem dX7_addHypothesis_57 : decode cX7_addHypothesis 57 = .ok (.aload_n 1, 1) := by decide +kernel
theorem dX7_addHypothesis_58 : decode cX7_addHypothesis 58 = .ok (.iload_n 2, 1) := by decide +kernel
theorem dX7_addHypothesis_59 : decode cX7_addHypothesis 59 = .ok (.iconst 1, 1) := by decide +kernel
theorem dX7_addHypothesis_60 : decode cX7_addHypothesis 60 = .ok (.invokevirtual 90, 3) := by decide +kernel
theorem dX7_addHypothesis_63 : decode cX7_addHypothesis 63 = .ok (.return_, 1) := by decide +kernel
theorem dX7_addNeeds_0 : decode cX7_addNeeds 0 = .ok (.aload_n 1, 1) := by decide +kernel
theorem dX7_addNeeds_1 : decode cX7_addNeeds 1 = .ok (.getfield 80, 3) := by decide +kernel
theorem dX7_addNeeds_4 : decode cX7_addNeeds 4 = .ok (.iload_n 2, 1) := by decide +kernel
theorem dX7_addNeeds_5 : decode cX7_addNeeds 5 = .ok (.invokevirtual 94, 3) := by decide +kernel
theorem dX7_addNeeds_8 : decode cX7_addNeeds 8 = .ok (.istore 4, 2) := by decide +kernel
theorem dX7_addNeeds_10 : decode cX7_addNeeds 10 = .ok (.iconst 0, 1) := by decide +kernel
theorem dX7_addNeeds_11 : decode cX7_addNeeds 11 = .ok (.istore 5, 2) := by decide +kernel
theorem dX7_addNeeds_13 : decode cX7_addNeeds 13 = .ok (.iload 5, 2) := by decide +kernel
theorem dX7_addNeeds_15 : decode cX7_addNeeds 15 = .ok (.iload 4, 2) := by decide +kernel
theorem dX7_addNeeds_17 : decode cX7_addNeeds 17 = .ok (.if_icmp .ge 28, 3) := by decide +kernel
theorem dX7_addNeeds_20 : decode cX7_addNeeds 20 = .ok (.aload_n 0, 1) := by decide +kernel
theorem dX7_addNeeds_21 : decode cX7_addNeeds 21 = .ok (.getfield 28, 3) := by decide +kernel
theorem dX7_addNeeds_24 : decode cX7_addNeeds 24 = .ok (.aload_n 1, 1) := by decide +kernel
theorem dX7_addNeeds_25 : decode cX7_addNeeds 25 = .ok (.getfield 80, 3) := by decide +kernel
theorem dX7_addNeeds_28 : decode cX7_addNeeds 28 = .ok (.iload_n 2, 1) := by decide +kernel
theorem dX7_addNeeds_29 : decode cX7_addNeeds 29 = .ok (.iload 5, 2) := by decide +kernel
theorem dX7_addNeeds_31 : decode cX7_addNeeds 31 = .ok (.invokevirtual 84, 3) := by decide +kernel
theorem dX7_addNeeds_34 : decode cX7_addNeeds 34 = .ok (.dup2, 1) := by decide +kernel
theorem dX7_addNeeds_35 : decode cX7_addNeeds 35 = .ok (.iaload, 1) := by decide +kernel
theorem dX7_addNeeds_36 : decode cX7_addNeeds 36 = .ok (.iload_n 3, 1) := by decide +kernel
theorem dX7_addNeeds_37 : decode cX7_addNeeds 37 = .ok (.iadd, 1) := by decide +kernel
theorem dX7_addNeeds_38 : decode cX7_addNeeds 38 = .ok (.iastore, 1) := by decide +kernel
theorem dX7_addNeeds_39 : decode cX7_addNeeds 39 = .ok (.iinc 5 1, 3) := by decide +kernel
theorem dX7_addNeeds_42 : decode cX7_addNeeds 42 = .ok (.goto (-29), 3) := by decide +kernel
theorem dX7_addNeeds_45 : decode cX7_addNeeds 45 = .ok (.return_, 1) := by decide +kernel
theorem dX7_addPair_0 : decode cX7_addPair 0 = .ok (.iload_n 1, 1) := by decide +kernel
theorem dX7_addPair_1 : decode cX7_addPair 1 = .ok (.iload_n 2, 1) := by decide +kernel
theorem dX7_addPair_2 : decode cX7_addPair 2 = .ok (.invokestatic 98, 3) := by decide +kernel
theorem dX7_addPair_5 : decode cX7_addPair 5 = .ok (.sipush 300, 3) := by decide +kernel
theorem dX7_addPair_8 : decode cX7_addPair 8 = .ok (.imul, 1) := by decide +kernel
theorem dX7_addPair_9 : decode cX7_addPair 9 = .ok (.iload_n 1, 1) := by decide +kernel
theorem dX7_addPair_10 : decode cX7_addPair 10 = .ok (.iload_n 2, 1) := by decide +kernel
theorem dX7_addPair_11 : decode cX7_addPair 11 = .ok (.invokestatic 103, 3) := by decide +kernel
theorem dX7_addPair_14 : decode cX7_addPair 14 = .ok (.iadd, 1) := by decide +kernel
theorem dX7_addPair_15 : decode cX7_addPair 15 = .ok (.istore_n 3, 1) := by decide +kernel
theorem dX7_addPair_16 : decode cX7_addPair 16 = .ok (.iconst 0, 1) := by decide +kernel
theorem dX7_addPair_17 : decode cX7_addPair 17 = .ok (.istore 4, 2) := by decide +kernel
theorem dX7_addPair_19 : decode cX7_addPair 19 = .ok (.iload 4, 2) := by decide +kernel
theorem dX7_addPair_21 : decode cX7_addPair 21 = .ok (.aload_n 0, 1) := by decide +kernel
theorem dX7_addPair_22 : decode cX7_addPair 22 = .ok (.getfield 50, 3) := by decide +kernel
theorem dX7_addPair_25 : decode cX7_addPair 25 = .ok (.if_icmp .ge 20, 3) := by decide +kernel
theorem dX7_addPair_28 : decode cX7_addPair 28 = .ok (.aload_n 0, 1) := by decide +kernel
theorem dX7_addPair_29 : decode cX7_addPair 29 = .ok (.getfield 34, 3) := by decide +kernel
theorem dX7_addPair_32 : decode cX7_addPair 32 = .ok (.iload 4, 2) := by decide +kernel
theorem dX7_addPair_34 : decode cX7_addPair 34 = .ok (.iaload, 1) := by decide +kernel
theorem dX7_addPair_35 : decode cX7_addPair 35 = .ok (.iload_n 3, 1) := by decide +kernel
theorem dX7_addPair_36 : decode cX7_addPair 36 = .ok (.if_icmp .ge 9, 3) := by decide +kernel
theorem dX7_addPair_39 : decode cX7_addPair 39 = .ok (.iinc 4 1, 3) := by decide +kernel
theorem dX7_addPair_42 : decode cX7_addPair 42 = .ok (.goto (-23), 3) := by decide +kernel
theorem dX7_addPair_45 : decode cX7_addPair 45 = .ok (.iload 4, 2) := by decide +kernel
theorem dX7_addPair_47 : decode cX7_addPair 47 = .ok (.aload_n 0, 1) := by decide +kernel
theorem dX7_addPair_48 : decode cX7_addPair 48 = .ok (.getfield 50, 3) := by decide +kernel
theorem dX7_addPair_51 : decode cX7_addPair 51 = .ok (.if_icmp .ge 16, 3) := by decide +kernel
theorem dX7_addPair_54 : decode cX7_addPair 54 = .ok (.aload_n 0, 1) := by decide +kernel
theorem dX7_addPair_55 : decode cX7_addPair 55 = .ok (.getfield 34, 3) := by decide +kernel
theorem dX7_addPair_58 : decode cX7_addPair 58 = .ok (.iload 4, 2) := by decide +kernel
theorem dX7_addPair_60 : decode cX7_addPair 60 = .ok (.iaload, 1) := by decide +kernel
theorem dX7_addPair_61 : decode cX7_addPair 61 = .ok (.iload_n 3, 1) := by decide +kernel
theorem dX7_addPair_62 : decode cX7_addPair 62 = .ok (.if_icmp .ne 5, 3) := by decide +kernel
theorem dX7_addPair_65 : decode cX7_addPair 65 = .ok (.iconst 1, 1) := by decide +kernel
theorem dX7_addPair_66 : decode cX7_addPair 66 = .ok (.ireturn, 1) := by decide +kernel
theorem dX7_addPair_67 : decode cX7_addPair 67 = .ok (.aload_n 0, 1) := by decide +kernel
theorem dX7_addPair_68 : decode cX7_addPair 68 = .ok (.getfield 50, 3) := by decide +kernel
theorem dX7_addPair_71 : decode cX7_addPair 71 = .ok (.sipush 200, 3) := by decide +kernel
theorem dX7_addPair_74 : decode cX7_addPair 74 = .ok (.if_icmp .ne 5, 3) := by decide +kernel
theorem dX7_addPair_77 : decode cX7_addPair 77 = .ok (.iconst 0, 1) := by decide +kernel
theorem dX7_addPair_78 : decode cX7_addPair 78 = .ok (.ireturn, 1) := by decide +kernel
theorem dX7_addPair_79 : decode cX7_addPair 79 = .ok (.aload_n 0, 1) := by decide +kernel
theorem dX7_addPair_80 : decode cX7_addPair 80 = .ok (.getfield 34, 3) := by decide +kernel
theorem dX7_addPair_83 : decode cX7_addPair 83 = .ok (.iload 4, 2) := by decide +kernel
theorem dX7_addPair_85 : decode cX7_addPair 85 = .ok (.aload_n 0, 1) := by decide +kernel
theorem dX7_addPair_86 : decode cX7_addPair 86 = .ok (.getfield 34, 3) := by decide +kernel
theorem dX7_addPair_89 : decode cX7_addPair 89 = .ok (.iload 4, 2) := by decide +kernel
theorem dX7_addPair_91 : decode cX7_addPair 91 = .ok (.iconst 1, 1) := by decide +kernel
theorem dX7_addPair_92 : decode cX7_addPair 92 = .ok (.iadd, 1) := by decide +kernel
theorem dX7_addPair_93 : decode cX7_addPair 93 = .ok (.aload_n 0, 1) := by decide +kernel
theorem dX7_addPair_94 : decode cX7_addPair 94 = .ok (.getfield 50, 3) := by decide +kernel
theorem dX7_addPair_97 : decode cX7_addPair 97 = .ok (.iload 4, 2) := by decide +kernel
theorem dX7_addPair_99 : decode cX7_addPair 99 = .ok (.isub, 1) := by decide +kernel
theorem dX7_addPair_100 : decode cX7_addPair 100 = .ok (.invokestatic 106, 3) := by decide +kernel
theorem dX7_addPair_103 : decode cX7_addPair 103 = .ok (.aload_n 0, 1) := by decide +kernel
theorem dX7_addPair_104 : decode cX7_addPair 104 = .ok (.getfield 37, 3) := by decide +kernel
theorem dX7_addPair_107 : decode cX7_addPair 107 = .ok (.iload 4, 2) := by decide +kernel
theorem dX7_addPair_109 : decode cX7_addPair 109 = .ok (.aload_n 0, 1) := by decide +kernel
theorem dX7_addPair_110 : decode cX7_addPair 110 = .ok (.getfield 37, 3) := by decide +kernel
theorem dX7_addPair_113 : decode cX7_addPair 113 = .ok (.iload 4, 2) := by decide +kernel
theorem dX7_addPair_115 : decode cX7_addPair 115 = .ok (.iconst 1, 1) := by decide +kernel
theorem dX7_addPair_116 : decode cX7_addPair 116 = .ok (.iadd, 1) := by decide +kernel
theorem dX7_addPair_117 : decode cX7_addPair 117 = .ok (.aload_n 0, 1) := by decide +kernel
theorem dX7_addPair_118 : decode cX7_addPair 118 = .ok (.getfield 50, 3) := by decide +kernel
theorem dX7_addPair_121 : decode cX7_addPair 121 = .ok (.iload 4, 2) := by decide +kernel
theorem dX7_addPair_123 : decode cX7_addPair 123 = .ok (.isub, 1) := by decide +kernel
theorem dX7_addPair_124 : decode cX7_addPair 124 = .ok (.invokestatic 106, 3) := by decide +kernel
theorem dX7_addPair_127 : decode cX7_addPair 127 = .ok (.aload_n 0, 1) := by decide +kernel
theorem dX7_addPair_128 : decode cX7_addPair 128 = .ok (.getfield 34, 3) := by decide +kernel
theorem dX7_addPair_131 : decode cX7_addPair 131 = .ok (.iload 4, 2) := by decide +kernel
theorem dX7_addPair_133 : decode cX7_addPair 133 = .ok (.iload_n 3, 1) := by decide +kernel
theorem dX7_addPair_134 : decode cX7_addPair 134 = .ok (.iastore, 1) := by decide +kernel
theorem dX7_addPair_135 : decode cX7_addPair 135 = .ok (.aload_n 0, 1) := by decide +kernel
theorem dX7_addPair_136 : decode cX7_addPair 136 = .ok (.getfield 37, 3) := by decide +kernel
theorem dX7_addPair_139 : decode cX7_addPair 139 = .ok (.iload 4, 2) := by decide +kernel
theorem dX7_addPair_141 : decode cX7_addPair 141 = .ok (.aload_n 0, 1) := by decide +kernel
theorem dX7_addPair_142 : decode cX7_addPair 142 = .ok (.getfield 40, 3) := by decide +kernel
theorem dX7_addPair_145 : decode cX7_addPair 145 = .ok (.iastore, 1) := by decide +kernel
theorem dX7_addPair_146 : decode cX7_addPair 146 = .ok (.aload_n 0, 1) := by decide +kernel
theorem dX7_addPair_147 : decode cX7_addPair 147 = .ok (.dup, 1) := by decide +kernel
theorem dX7_addPair_148 : decode cX7_addPair 148 = .ok (.getfield 50, 3) := by decide +kernel
theorem dX7_addPair_151 : decode cX7_addPair 151 = .ok (.iconst 1, 1) := by decide +kernel
theorem dX7_addPair_152 : decode cX7_addPair 152 = .ok (.iadd, 1) := by decide +kernel
theorem dX7_addPair_153 : decode cX7_addPair 153 = .ok (.putfield 50, 3) := by decide +kernel
theorem dX7_addPair_156 : decode cX7_addPair 156 = .ok (.iconst 1, 1) := by decide +kernel
theorem dX7_addPair_157 : decode cX7_addPair 157 = .ok (.ireturn, 1) := by decide +kernel
theorem dX7_makeFrame_0 : decode cX7_makeFrame 0 = .ok (.aload_n 0, 1) := by decide +kernel
theorem dX7_makeFrame_1 : decode cX7_makeFrame 1 = .ok (.aload_n 1, 1) := by decide +kernel
theorem dX7_makeFrame_2 : decode cX7_makeFrame 2 = .ok (.iload_n 2, 1) := by decide +kernel
theorem dX7_makeFrame_3 : decode cX7_makeFrame 3 = .ok (.iconst 1, 1) := by decide +kernel
theorem dX7_makeFrame_4 : decode cX7_makeFrame 4 = .ok (.invokevirtual 90, 3) := by decide +kernel
theorem dX7_makeFrame_7 : decode cX7_makeFrame 7 = .ok (.iconst 0, 1) := by decide +kernel
theorem dX7_makeFrame_8 : decode cX7_makeFrame 8 = .ok (.istore_n 3, 1) := by decide +kernel
theorem dX7_makeFrame_9 : decode cX7_makeFrame 9 = .ok (.iload_n 3, 1) := by decide +kernel
theorem dX7_makeFrame_10 : decode cX7_makeFrame 10 = .ok (.aload_n 0, 1) := by decide +kernel
theorem dX7_makeFrame_11 : decode cX7_makeFrame 11 = .ok (.getfield 47, 3) := by decide +kernel
theorem dX7_makeFrame_14 : decode cX7_makeFrame 14 = .ok (.if_icmp .ge 55, 3) := by decide +kernel
theorem dX7_makeFrame_17 : decode cX7_makeFrame 17 = .ok (.aload_n 0, 1) := by decide +kernel
theorem dX7_makeFrame_18 : decode cX7_makeFrame 18 = .ok (.getfield 31, 3) := by decide +kernel
theorem dX7_makeFrame_21 : decode cX7_makeFrame 21 = .ok (.iload_n 3, 1) := by decide +kernel
theorem dX7_makeFrame_22 : decode cX7_makeFrame 22 = .ok (.iaload, 1) := by decide +kernel
theorem dX7_makeFrame_23 : decode cX7_makeFrame 23 = .ok (.istore 4, 2) := by decide +kernel
theorem dX7_makeFrame_25 : decode cX7_makeFrame 25 = .ok (.aload_n 1, 1) := by decide +kernel
theorem dX7_makeFrame_26 : decode cX7_makeFrame 26 = .ok (.getfield 77, 3) := by decide +kernel
theorem dX7_makeFrame_29 : decode cX7_makeFrame 29 = .ok (.iload 4, 2) := by decide +kernel
theorem dX7_makeFrame_31 : decode cX7_makeFrame 31 = .ok (.iaload, 1) := by decide +kernel
theorem dX7_makeFrame_32 : decode cX7_makeFrame 32 = .ok (.iconst 1, 1) := by decide +kernel
theorem dX7_makeFrame_33 : decode cX7_makeFrame 33 = .ok (.if_icmp .eq 21, 3) := by decide +kernel
theorem dX7_makeFrame_36 : decode cX7_makeFrame 36 = .ok (.aload_n 0, 1) := by decide +kernel
theorem dX7_makeFrame_37 : decode cX7_makeFrame 37 = .ok (.getfield 28, 3) := by decide +kernel
theorem dX7_makeFrame_40 : decode cX7_makeFrame 40 = .ok (.aload_n 1, 1) := by decide +kernel
theorem dX7_makeFrame_41 : decode cX7_makeFrame 41 = .ok (.getfield 80, 3) := by decide +kernel
theorem dX7_makeFrame_44 : decode cX7_makeFrame 44 = .ok (.iload 4, 2) := by decide +kernel
theorem dX7_makeFrame_46 : decode cX7_makeFrame 46 = .ok (.iconst 1, 1) := by decide +kernel
theorem dX7_makeFrame_47 : decode cX7_makeFrame 47 = .ok (.invokevirtual 84, 3) := by decide +kernel
theorem dX7_makeFrame_50 : decode cX7_makeFrame 50 = .ok (.iaload, 1) := by decide +kernel
theorem dX7_makeFrame_51 : decode cX7_makeFrame 51 = .ok (.ifCond .le 12, 3) := by decide +kernel
theorem dX7_makeFrame_54 : decode cX7_makeFrame 54 = .ok (.aload_n 1, 1) := by decide +kernel
theorem dX7_makeFrame_55 : decode cX7_makeFrame 55 = .ok (.getfield 112, 3) := by decide +kernel
theorem dX7_makeFrame_58 : decode cX7_makeFrame 58 = .ok (.iload 4, 2) := by decide +kernel
theorem dX7_makeFrame_60 : decode cX7_makeFrame 60 = .ok (.invokevirtual 114, 3) := by decide +kernel
theorem dX7_makeFrame_63 : decode cX7_makeFrame 63 = .ok (.iinc 3 1, 3) := by decide +kernel
theorem dX7_makeFrame_66 : decode cX7_makeFrame 66 = .ok (.goto (-57), 3) := by decide +kernel
theorem dX7_makeFrame_69 : decode cX7_makeFrame 69 = .ok (.aload_n 1, 1) := by decide +kernel
theorem dX7_makeFrame_70 : decode cX7_makeFrame 70 = .ok (.getfield 77, 3) := by decide +kernel
theorem dX7_makeFrame_73 : decode cX7_makeFrame 73 = .ok (.iload_n 2, 1) := by decide +kernel
theorem dX7_makeFrame_74 : decode cX7_makeFrame 74 = .ok (.iaload, 1) := by decide +kernel
theorem dX7_makeFrame_75 : decode cX7_makeFrame 75 = .ok (.iconst 3, 1) := by decide +kernel
theorem dX7_makeFrame_76 : decode cX7_makeFrame 76 = .ok (.if_icmp .ne 7, 3) := by decide +kernel
theorem dX7_makeFrame_79 : decode cX7_makeFrame 79 = .ok (.iconst 1, 1) := by decide +kernel
theorem dX7_makeFrame_80 : decode cX7_makeFrame 80 = .ok (.goto 4, 3) := by decide +kernel
theorem dX7_makeFrame_83 : decode cX7_makeFrame 83 = .ok (.iconst 0, 1) := by decide +kernel
theorem dX7_makeFrame_84 : decode cX7_makeFrame 84 = .ok (.istore_n 3, 1) := by decide +kernel
theorem dX7_makeFrame_85 : decode cX7_makeFrame 85 = .ok (.iconst 0, 1) := by decide +kernel
theorem dX7_makeFrame_86 : decode cX7_makeFrame 86 = .ok (.istore 4, 2) := by decide +kernel
theorem dX7_makeFrame_88 : decode cX7_makeFrame 88 = .ok (.iload 4, 2) := by decide +kernel
theorem dX7_makeFrame_90 : decode cX7_makeFrame 90 = .ok (.aload_n 0, 1) := by decide +kernel
theorem dX7_makeFrame_91 : decode cX7_makeFrame 91 = .ok (.getfield 50, 3) := by decide +kernel
theorem dX7_makeFrame_94 : decode cX7_makeFrame 94 = .ok (.if_icmp .ge 79, 3) := by decide +kernel
theorem dX7_makeFrame_97 : decode cX7_makeFrame 97 = .ok (.aload_n 0, 1) := by decide +kernel
theorem dX7_makeFrame_98 : decode cX7_makeFrame 98 = .ok (.getfield 28, 3) := by decide +kernel
theorem dX7_makeFrame_101 : decode cX7_makeFrame 101 = .ok (.aload_n 0, 1) := by decide +kernel
theorem dX7_makeFrame_102 : decode cX7_makeFrame 102 = .ok (.getfield 34, 3) := by decide +kernel
theorem dX7_makeFrame_105 : decode cX7_makeFrame 105 = .ok (.iload 4, 2) := by decide +kernel
theorem dX7_makeFrame_107 : decode cX7_makeFrame 107 = .ok (.iaload, 1) := by decide +kernel
theorem dX7_makeFrame_108 : decode cX7_makeFrame 108 = .ok (.sipush 300, 3) := by decide +kernel
theorem dX7_makeFrame_111 : decode cX7_makeFrame 111 = .ok (.idiv, 1) := by decide +kernel
theorem dX7_makeFrame_112 : decode cX7_makeFrame 112 = .ok (.iaload, 1) := by decide +kernel
theorem dX7_makeFrame_113 : decode cX7_makeFrame 113 = .ok (.ifCond .le 36, 3) := by decide +kernel
theorem dX7_makeFrame_116 : decode cX7_makeFrame 116 = .ok (.aload_n 0, 1) := by decide +kernel
theorem dX7_makeFrame_117 : decode cX7_makeFrame 117 = .ok (.getfield 28, 3) := by decide +kernel
theorem dX7_makeFrame_120 : decode cX7_makeFrame 120 = .ok (.aload_n 0, 1) := by decide +kernel
theorem dX7_makeFrame_121 : decode cX7_makeFrame 121 = .ok (.getfield 34, 3) := by decide +kernel
theorem dX7_makeFrame_124 : decode cX7_makeFrame 124 = .ok (.iload 4, 2) := by decide +kernel
theorem dX7_makeFrame_126 : decode cX7_makeFrame 126 = .ok (.iaload, 1) := by decide +kernel
theorem dX7_makeFrame_127 : decode cX7_makeFrame 127 = .ok (.sipush 300, 3) := by decide +kernel
theorem dX7_makeFrame_130 : decode cX7_makeFrame 130 = .ok (.irem, 1) := by decide +kernel
theorem dX7_makeFrame_131 : decode cX7_makeFrame 131 = .ok (.iaload, 1) := by decide +kernel
theorem dX7_makeFrame_132 : decode cX7_makeFrame 132 = .ok (.ifCond .le 17, 3) := by decide +kernel
theorem dX7_makeFrame_135 : decode cX7_makeFrame 135 = .ok (.aload_n 1, 1) := by decide +kernel
theorem dX7_makeFrame_136 : decode cX7_makeFrame 136 = .ok (.getfield 118, 3) := by decide +kernel
theorem dX7_makeFrame_139 : decode cX7_makeFrame 139 = .ok (.aload_n 0, 1) := by decide +kernel
theorem dX7_makeFrame_140 : decode cX7_makeFrame 140 = .ok (.getfield 34, 3) := by decide +kernel
theorem dX7_makeFrame_143 : decode cX7_makeFrame 143 = .ok (.iload 4, 2) := by decide +kernel
theorem dX7_makeFrame_145 : decode cX7_makeFrame 145 = .ok (.iaload, 1) := by decide +kernel
theorem dX7_makeFrame_146 : decode cX7_makeFrame 146 = .ok (.invokevirtual 114, 3) := by decide +kernel
theorem dX7_makeFrame_149 : decode cX7_makeFrame 149 = .ok (.iload_n 3, 1) := by decide +kernel
theorem dX7_makeFrame_150 : decode cX7_makeFrame 150 = .ok (.ifCond .eq 17, 3) := by decide +kernel
theorem dX7_makeFrame_153 : decode cX7_makeFrame 153 = .ok (.aload_n 1, 1) := by decide +kernel
theorem dX7_makeFrame_154 : decode cX7_makeFrame 154 = .ok (.getfield 121, 3) := by decide +kernel
theorem dX7_makeFrame_157 : decode cX7_makeFrame 157 = .ok (.aload_n 0, 1) := by decide +kernel
theorem dX7_makeFrame_158 : decode cX7_makeFrame 158 = .ok (.getfield 34, 3) := by decide +kernel
theorem dX7_makeFrame_161 : decode cX7_makeFrame 161 = .ok (.iload 4, 2) := by decide +kernel
theorem dX7_makeFrame_163 : decode cX7_makeFrame 163 = .ok (.iaload, 1) := by decide +kernel
theorem dX7_makeFrame_164 : decode cX7_makeFrame 164 = .ok (.invokevirtual 114, 3) := by decide +kernel
theorem dX7_makeFrame_167 : decode cX7_makeFrame 167 = .ok (.iinc 4 1, 3) := by decide +kernel
theorem dX7_makeFrame_170 : decode cX7_makeFrame 170 = .ok (.goto (-82), 3) := by decide +kernel
theorem dX7_makeFrame_173 : decode cX7_makeFrame 173 = .ok (.aload_n 0, 1) := by decide +kernel
theorem dX7_makeFrame_174 : decode cX7_makeFrame 174 = .ok (.aload_n 1, 1) := by decide +kernel
theorem dX7_makeFrame_175 : decode cX7_makeFrame 175 = .ok (.iload_n 2, 1) := by decide +kernel
theorem dX7_makeFrame_176 : decode cX7_makeFrame 176 = .ok (.iconst (-1), 1) := by decide +kernel
theorem dX7_makeFrame_177 : decode cX7_makeFrame 177 = .ok (.invokevirtual 90, 3) := by decide +kernel
theorem dX7_makeFrame_180 : decode cX7_makeFrame 180 = .ok (.return_, 1) := by decide +kernel
theorem dX8_init_0 : decode cX8_init 0 = .ok (.aload_n 0, 1) := by decide +kernel
theorem dX8_init_1 : decode cX8_init 1 = .ok (.invokespecial 3, 3) := by decide +kernel
theorem dX8_init_4 : decode cX8_init 4 = .ok (.aload_n 0, 1) := by decide +kernel
theorem dX8_init_5 : decode cX8_init 5 = .ok (.sipush 6000, 3) := by decide +kernel
theorem dX8_init_8 : decode cX8_init 8 = .ok (.newarray .byte, 2) := by decide +kernel
theorem dX8_init_10 : decode cX8_init 10 = .ok (.putfield 9, 3) := by decide +kernel
theorem dX8_init_13 : decode cX8_init 13 = .ok (.return_, 1) := by decide +kernel
theorem dX8_clear_0 : decode cX8_clear 0 = .ok (.aload_n 0, 1) := by decide +kernel
theorem dX8_clear_1 : decode cX8_clear 1 = .ok (.iconst 0, 1) := by decide +kernel
theorem dX8_clear_2 : decode cX8_clear 2 = .ok (.putfield 15, 3) := by decide +kernel
theorem dX8_clear_5 : decode cX8_clear 5 = .ok (.aload_n 0, 1) := by decide +kernel
theorem dX8_clear_6 : decode cX8_clear 6 = .ok (.iconst 0, 1) := by decide +kernel
theorem dX8_clear_7 : decode cX8_clear 7 = .ok (.putfield 19, 3) := by decide +kernel
theorem dX8_clear_10 : decode cX8_clear 10 = .ok (.return_, 1) := by decide +kernel
theorem dX8_put_0 : decode cX8_put 0 = .ok (.aload_n 0, 1) := by decide +kernel
theorem dX8_put_1 : decode cX8_put 1 = .ok (.getfield 15, 3) := by decide +kernel
theorem dX8_put_4 : decode cX8_put 4 = .ok (.sipush 6000, 3) := by decide +kernel
theorem dX8_put_7 : decode cX8_put 7 = .ok (.if_icmp .ne 9, 3) := by decide +kernel
theorem dX8_put_10 : decode cX8_put 10 = .ok (.aload_n 0, 1) := by decide +kernel
theorem dX8_put_11 : decode cX8_put 11 = .ok (.iconst 1, 1) := by decide +kernel
theorem dX8_put_12 : decode cX8_put 12 = .ok (.putfield 19, 3) := by decide +kernel
theorem dX8_put_15 : decode cX8_put 15 = .ok (.return_, 1) := by decide +kernel
theorem dX8_put_16 : decode cX8_put 16 = .ok (.aload_n 0, 1) := by decide +kernel
theorem dX8_put_17 : decode cX8_put 17 = .ok (.getfield 9, 3) := by decide +kernel
theorem dX8_put_20 : decode cX8_put 20 = .ok (.aload_n 0, 1) := by decide +kernel
theorem dX8_put_21 : decode cX8_put 21 = .ok (.getfield 15, 3) := by decide +kernel
theorem dX8_put_24 : decode cX8_put 24 = .ok (.iload_n 1, 1) := by decide +kernel
theorem dX8_put_25 : decode cX8_put 25 = .ok (.i2b, 1) := by decide +kernel
theorem dX8_put_26 : decode cX8_put 26 = .ok (.bastore, 1) := by decide +kernel
theorem dX8_put_27 : decode cX8_put 27 = .ok (.aload_n 0, 1) := by decide +kernel
theorem dX8_put_28 : decode cX8_put 28 = .ok (.dup, 1) := by decide +kernel
theorem dX8_put_29 : decode cX8_put 29 = .ok (.getfield 15, 3) := by decide +kernel
theorem dX8_put_32 : decode cX8_put 32 = .ok (.iconst 1, 1) := by decide +kernel
theorem dX8_put_33 : decode cX8_put 33 = .ok (.iadd, 1) := by decide +kernel
theorem dX8_put_34 : decode cX8_put 34 = .ok (.putfield 15, 3) := by decide +kernel
theorem dX8_put_37 : decode cX8_put 37 = .ok (.return_, 1) := by decide +kernel
theorem dX8_putName_0 : decode cX8_putName 0 = .ok (.aload_n 1, 1) := by decide +kernel
theorem dX8_putName_1 : decode cX8_putName 1 = .ok (.iload_n 2, 1) := by decide +kernel
theorem dX8_putName_2 : decode cX8_putName 2 = .ok (.invokevirtual 23, 3) := by decide +kernel
theorem dX8_putName_5 : decode cX8_putName 5 = .ok (.istore_n 3, 1) := by decide +kernel
theorem dX8_putName_6 : decode cX8_putName 6 = .ok (.iconst 0, 1) := by decide +kernel
theorem dX8_putName_7 : decode cX8_putName 7 = .ok (.istore 4, 2) := by decide +kernel
theorem dX8_putName_9 : decode cX8_putName 9 = .ok (.iload 4, 2) := by decide +kernel
theorem dX8_putName_11 : decode cX8_putName 11 = .ok (.iload_n 3, 1) := by decide +kernel
theorem dX8_putName_12 : decode cX8_putName 12 = .ok (.if_icmp .ge 20, 3) := by decide +kernel
theorem dX8_putName_15 : decode cX8_putName 15 = .ok (.aload_n 0, 1) := by decide +kernel
theorem dX8_putName_16 : decode cX8_putName 16 = .ok (.aload_n 1, 1) := by decide +kernel
theorem dX8_putName_17 : decode cX8_putName 17 = .ok (.iload_n 2, 1) := by decide +kernel
theorem dX8_putName_18 : decode cX8_putName 18 = .ok (.iload 4, 2) := by decide +kernel
theorem dX8_putName_20 : decode cX8_putName 20 = .ok (.invokevirtual 29, 3) := by decide +kernel
theorem dX8_putName_23 : decode cX8_putName 23 = .ok (.invokevirtual 33, 3) := by decide +kernel
theorem dX8_putName_26 : decode cX8_putName 26 = .ok (.iinc 4 1, 3) := by decide +kernel
theorem dX8_putName_29 : decode cX8_putName 29 = .ok (.goto (-20), 3) := by decide +kernel
theorem dX8_putName_32 : decode cX8_putName 32 = .ok (.return_, 1) := by decide +kernel
theorem dX9_init_0 : decode cX9_init 0 = .ok (.aload_n 0, 1) := by decide +kernel
theorem dX9_init_1 : decode cX9_init 1 = .ok (.invokespecial 3, 3) := by decide +kernel
theorem dX9_init_4 : decode cX9_init 4 = .ok (.aload_n 0, 1) := by decide +kernel
theorem dX9_init_5 : decode cX9_init 5 = .ok (.sipush 1000, 3) := by decide +kernel
theorem dX9_init_8 : decode cX9_init 8 = .ok (.newarray .int, 2) := by decide +kernel
theorem dX9_init_10 : decode cX9_init 10 = .ok (.putfield 9, 3) := by decide +kernel
theorem dX9_init_13 : decode cX9_init 13 = .ok (.aload_n 0, 1) := by decide +kernel
theorem dX9_init_14 : decode cX9_init 14 = .ok (.new 15, 3) := by decide +kernel
theorem dX9_init_17 : decode cX9_init 17 = .ok (.dup, 1) := by decide +kernel
theorem dX9_init_18 : decode cX9_init 18 = .ok (.sipush 1000, 3) := by decide +kernel
theorem dX9_init_21 : decode cX9_init 21 = .ok (.invokespecial 17, 3) := by decide +kernel
theorem dX9_init_24 : decode cX9_init 24 = .ok (.putfield 20, 3) := by decide +kernel
theorem dX9_init_27 : decode cX9_init 27 = .ok (.aload_n 0, 1) := by decide +kernel
theorem dX9_init_28 : decode cX9_init 28 = .ok (.sipush 1000, 3) := by decide +kernel
theorem dX9_init_31 : decode cX9_init 31 = .ok (.newarray .int, 2) := by decide +kernel
theorem dX9_init_33 : decode cX9_init 33 = .ok (.putfield 24, 3) := by decide +kernel
theorem dX9_init_36 : decode cX9_init 36 = .ok (.aload_n 0, 1) := by decide +kernel
theorem dX9_init_37 : decode cX9_init 37 = .ok (.sipush 256, 3) := by decide +kernel
theorem dX9_init_40 : decode cX9_init 40 = .ok (.newarray .int, 2) := by decide +kernel
theorem dX9_init_42 : decode cX9_init 42 = .ok (.putfield 27, 3) := by decide +kernel
theorem dX9_init_45 : decode cX9_init 45 = .ok (.aload_n 0, 1) := by decide +kernel
theorem dX9_init_46 : decode cX9_init 46 = .ok (.sipush 1000, 3) := by decide +kernel
theorem dX9_init_49 : decode cX9_init 49 = .ok (.newarray .int, 2) := by decide +kernel
theorem dX9_init_51 : decode cX9_init 51 = .ok (.putfield 30, 3) := by decide +kernel
theorem dX9_init_54 : decode cX9_init 54 = .ok (.aload_n 0, 1) := by decide +kernel
theorem dX9_init_55 : decode cX9_init 55 = .ok (.sipush 200, 3) := by decide +kernel
theorem dX9_init_58 : decode cX9_init 58 = .ok (.newarray .int, 2) := by decide +kernel
theorem dX9_init_60 : decode cX9_init 60 = .ok (.putfield 33, 3) := by decide +kernel
theorem dX9_init_63 : decode cX9_init 63 = .ok (.aload_n 0, 1) := by decide +kernel
theorem dX9_init_64 : decode cX9_init 64 = .ok (.sipush 1000, 3) := by decide +kernel
theorem dX9_init_67 : decode cX9_init 67 = .ok (.newarray .int, 2) := by decide +kernel
theorem dX9_init_69 : decode cX9_init 69 = .ok (.putfield 36, 3) := by decide +kernel
theorem dX9_init_72 : decode cX9_init 72 = .ok (.aload_n 0, 1) := by decide +kernel
theorem dX9_init_73 : decode cX9_init 73 = .ok (.sipush 1000, 3) := by decide +kernel
theorem dX9_init_76 : decode cX9_init 76 = .ok (.newarray .int, 2) := by decide +kernel
theorem dX9_init_78 : decode cX9_init 78 = .ok (.putfield 39, 3) := by decide +kernel
theorem dX9_init_81 : decode cX9_init 81 = .ok (.aload_n 0, 1) := by decide +kernel
theorem dX9_init_82 : decode cX9_init 82 = .ok (.sipush 200, 3) := by decide +kernel
theorem dX9_init_85 : decode cX9_init 85 = .ok (.newarray .int, 2) := by decide +kernel
theorem dX9_init_87 : decode cX9_init 87 = .ok (.putfield 42, 3) := by decide +kernel
theorem dX9_init_90 : decode cX9_init 90 = .ok (.aload_n 0, 1) := by decide +kernel
theorem dX9_init_91 : decode cX9_init 91 = .ok (.sipush 1000, 3) := by decide +kernel
theorem dX9_init_94 : decode cX9_init 94 = .ok (.newarray .int, 2) := by decide +kernel
theorem dX9_init_96 : decode cX9_init 96 = .ok (.putfield 45, 3) := by decide +kernel
theorem dX9_init_99 : decode cX9_init 99 = .ok (.aload_n 0, 1) := by decide +kernel
theorem dX9_init_100 : decode cX9_init 100 = .ok (.bipush 16, 2) := by decide +kernel
theorem dX9_init_102 : decode cX9_init 102 = .ok (.newarray .int, 2) := by decide +kernel
theorem dX9_init_104 : decode cX9_init 104 = .ok (.putfield 48, 3) := by decide +kernel
theorem dX9_init_107 : decode cX9_init 107 = .ok (.aload_n 0, 1) := by decide +kernel
theorem dX9_init_108 : decode cX9_init 108 = .ok (.aload_n 1, 1) := by decide +kernel
theorem dX9_init_109 : decode cX9_init 109 = .ok (.putfield 51, 3) := by decide +kernel
theorem dX9_init_112 : decode cX9_init 112 = .ok (.aload_n 0, 1) := by decide +kernel
theorem dX9_init_113 : decode cX9_init 113 = .ok (.aload_n 2, 1) := by decide +kernel
theorem dX9_init_114 : decode cX9_init 114 = .ok (.putfield 55, 3) := by decide +kernel
theorem dX9_init_117 : decode cX9_init 117 = .ok (.return_, 1) := by decide +kernel
theorem dX9_plant_0 : decode cX9_plant 0 = .ok (.aload_n 0, 1) := by decide +kernel
theorem dX9_plant_1 : decode cX9_plant 1 = .ok (.aload_n 1, 1) := by decide +kernel
theorem dX9_plant_2 : decode cX9_plant 2 = .ok (.putfield 51, 3) := by decide +kernel
theorem dX9_plant_5 : decode cX9_plant 5 = .ok (.aload_n 0, 1) := by decide +kernel
theorem dX9_plant_6 : decode cX9_plant 6 = .ok (.aload_n 2, 1) := by decide +kernel
theorem dX9_plant_7 : decode cX9_plant 7 = .ok (.putfield 55, 3) := by decide +kernel
theorem dX9_plant_10 : decode cX9_plant 10 = .ok (.aload_n 0, 1) := by decide +kernel
theorem dX9_plant_11 : decode cX9_plant 11 = .ok (.iconst 0, 1) := by decide +kernel
theorem dX9_plant_12 : decode cX9_plant 12 = .ok (.putfield 59, 3) := by decide +kernel
theorem dX9_plant_15 : decode cX9_plant 15 = .ok (.aload_n 0, 1) := by decide +kernel
theorem dX9_plant_16 : decode cX9_plant 16 = .ok (.getfield 20, 3) := by decide +kernel
theorem dX9_plant_19 : decode cX9_plant 19 = .ok (.invokevirtual 63, 3) := by decide +kernel
theorem dX9_plant_22 : decode cX9_plant 22 = .ok (.aload_n 0, 1) := by decide +kernel
theorem dX9_plant_23 : decode cX9_plant 23 = .ok (.getfield 27, 3) := by decide +kernel
theorem dX9_plant_26 : decode cX9_plant 26 = .ok (.iconst (-1), 1) := by decide +kernel
theorem dX9_plant_27 : decode cX9_plant 27 = .ok (.invokestatic 66, 3) := by decide +kernel
theorem dX9_plant_30 : decode cX9_plant 30 = .ok (.iconst 0, 1) := by decide +kernel
theorem dX9_plant_31 : decode cX9_plant 31 = .ok (.istore_n 3, 1) := by decide +kernel
theorem dX9_plant_32 : decode cX9_plant 32 = .ok (.iconst 0, 1) := by decide +kernel
theorem dX9_plant_33 : decode cX9_plant 33 = .ok (.istore 4, 2) := by decide +kernel
theorem dX9_plant_35 : decode cX9_plant 35 = .ok (.iconst 0, 1) := by decide +kernel
theorem dX9_plant_36 : decode cX9_plant 36 = .ok (.istore 5, 2) := by decide +kernel
theorem dX9_plant_38 : decode cX9_plant 38 = .ok (.iload 5, 2) := by decide +kernel
theorem dX9_plant_40 : decode cX9_plant 40 = .ok (.aload_n 0, 1) := by decide +kernel
theorem dX9_plant_41 : decode cX9_plant 41 = .ok (.getfield 55, 3) := by decide +kernel
theorem dX9_plant_44 : decode cX9_plant 44 = .ok (.getfield 72, 3) := by decide +kernel
theorem dX9_plant_47 : decode cX9_plant 47 = .ok (.if_icmp .ge 119, 3) := by decide +kernel
theorem dX9_plant_50 : decode cX9_plant 50 = .ok (.aload_n 0, 1) := by decide +kernel
theorem dX9_plant_51 : decode cX9_plant 51 = .ok (.getfield 55, 3) := by decide +kernel
theorem dX9_plant_54 : decode cX9_plant 54 = .ok (.getfield 77, 3) := by decide +kernel
theorem dX9_plant_57 : decode cX9_plant 57 = .ok (.iload 5, 2) := by decide +kernel
theorem dX9_plant_59 : decode cX9_plant 59 = .ok (.iaload, 1) := by decide +kernel
theorem dX9_plant_60 : decode cX9_plant 60 = .ok (.istore 6, 2) := by decide +kernel
theorem dX9_plant_62 : decode cX9_plant 62 = .ok (.iload 6, 2) := by decide +kernel
theorem dX9_plant_64 : decode cX9_plant 64 = .ok (.ifCond .ge 7, 3) := by decide +kernel
theorem dX9_plant_67 : decode cX9_plant 67 = .ok (.iconst 0, 1) := by decide +kernel
theorem dX9_plant_68 : decode cX9_plant 68 = .ok (.goto 15, 3) := by decide +kernel
theorem dX9_plant_71 : decode cX9_plant 71 = .ok (.aload_n 0, 1) := by decide +kernel
theorem dX9_plant_72 : decode cX9_plant 72 = .ok (.getfield 51, 3) := by decide +kernel
theorem dX9_plant_75 : decode cX9_plant 75 = .ok (.getfield 80, 3) := by decide +kernel
theorem dX9_plant_78 : decode cX9_plant 78 = .ok (.iload 6, 2) := by decide +kernel
theorem dX9_plant_80 : decode cX9_plant 80 = .ok (.invokevirtual 85, 3) := by decide +kernel
theorem dX9_plant_83 : decode cX9_plant 83 = .ok (.istore 7, 2) := by decide +kernel
theorem dX9_plant_85 : decode cX9_plant 85 = .ok (.iload 6, 2) := by decide +kernel
theorem dX9_plant_87 : decode cX9_plant 87 = .ok (.ifCond .ge 15, 3) := by decide +kernel
theorem dX9_plant_90 : decode cX9_plant 90 = .ok (.aload_n 0, 1) := by decide +kernel
theorem dX9_plant_91 : decode cX9_plant 91 = .ok (.getfield 33, 3) := by decide +kernel
theorem dX9_plant_94 : decode cX9_plant 94 = .ok (.iconst (-1), 1) := by decide +kernel
theorem dX9_plant_95 : decode cX9_plant 95 = .ok (.iload 6, 2) := by decide +kernel
theorem dX9_plant_97 : decode cX9_plant 97 = .ok (.isub, 1) := by decide +kernel
theorem dX9_plant_98 : decode cX9_plant 98 = .ok (.iaload, 1) := by decide +kernel
theorem dX9_plant_99 : decode cX9_plant 99 = .ok (.goto 16, 3) := by decide +kernel
theorem dX9_plant_102 : decode cX9_plant 102 = .ok (.aload_n 0, 1) := by decide +kernel
theorem dX9_plant_103 : decode cX9_plant 103 = .ok (.iload 6, 2) := by decide +kernel
theorem dX9_plant_105 : decode cX9_plant 105 = .ok (.iload 4, 2) := by decide +kernel
theorem dX9_plant_107 : decode cX9_plant 107 = .ok (.iload 7, 2) := by decide +kernel
theorem dX9_plant_109 : decode cX9_plant 109 = .ok (.isub, 1) := by decide +kernel
theorem dX9_plant_110 : decode cX9_plant 110 = .ok (.iload 7, 2) := by decide +kernel
theorem dX9_plant_112 : decode cX9_plant 112 = .ok (.invokevirtual 89, 3) := by decide +kernel
theorem dX9_plant_115 : decode cX9_plant 115 = .ok (.istore 8, 2) := by decide +kernel
theorem dX9_plant_117 : decode cX9_plant 117 = .ok (.iload 4, 2) := by decide +kernel
theorem dX9_plant_119 : decode cX9_plant 119 = .ok (.iload 7, 2) := by decide +kernel
theorem dX9_plant_121 : decode cX9_plant 121 = .ok (.isub, 1) := by decide +kernel
theorem dX9_plant_122 : decode cX9_plant 122 = .ok (.istore 4, 2) := by decide +kernel
theorem dX9_plant_124 : decode cX9_plant 124 = .ok (.aload_n 0, 1) := by decide +kernel
theorem dX9_plant_125 : decode cX9_plant 125 = .ok (.getfield 36, 3) := by decide +kernel
theorem dX9_plant_128 : decode cX9_plant 128 = .ok (.iload 4, 2) := by decide +kernel
theorem dX9_plant_130 : decode cX9_plant 130 = .ok (.iload 8, 2) := by decide +kernel
theorem dX9_plant_132 : decode cX9_plant 132 = .ok (.iastore, 1) := by decide +kernel
theorem dX9_plant_133 : decode cX9_plant 133 = .ok (.iinc 4 1, 3) := by decide +kernel
theorem dX9_plant_136 : decode cX9_plant 136 = .ok (.aload_n 0, 1) := by decide +kernel
theorem dX9_plant_137 : decode cX9_plant 137 = .ok (.getfield 55, 3) := by decide +kernel
theorem dX9_plant_140 : decode cX9_plant 140 = .ok (.getfield 93, 3) := by decide +kernel
theorem dX9_plant_143 : decode cX9_plant 143 = .ok (.iload 5, 2) := by decide +kernel
theorem dX9_plant_145 : decode cX9_plant 145 = .ok (.baload, 1) := by decide +kernel
theorem dX9_plant_146 : decode cX9_plant 146 = .ok (.ifCond .eq 14, 3) := by decide +kernel
theorem dX9_plant_149 : decode cX9_plant 149 = .ok (.aload_n 0, 1) := by decide +kernel
theorem dX9_plant_150 : decode cX9_plant 150 = .ok (.getfield 33, 3) := by decide +kernel
theorem dX9_plant_153 : decode cX9_plant 153 = .ok (.iload_n 3, 1) := by decide +kernel
theorem dX9_plant_154 : decode cX9_plant 154 = .ok (.iload 8, 2) := by decide +kernel
theorem dX9_plant_156 : decode cX9_plant 156 = .ok (.iastore, 1) := by decide +kernel
theorem dX9_plant_157 : decode cX9_plant 157 = .ok (.iinc 3 1, 3) := by decide +kernel
theorem dX9_plant_160 : decode cX9_plant 160 = .ok (.iinc 5 1, 3) := by decide +kernel
theorem dX9_plant_163 : decode cX9_plant 163 = .ok (.goto (-125), 3) := by decide +kernel
theorem dX9_plant_166 : decode cX9_plant 166 = .ok (.aload_n 0, 1) := by decide +kernel
theorem dX9_plant_167 : decode cX9_plant 167 = .ok (.aload_n 0, 1) := by decide +kernel
theorem dX9_plant_168 : decode cX9_plant 168 = .ok (.getfield 36, 3) := by decide +kernel
theorem dX9_plant_171 : decode cX9_plant 171 = .ok (.iconst 0, 1) := by decide +kernel
theorem dX9_plant_172 : decode cX9_plant 172 = .ok (.iaload, 1) := by decide +kernel
theorem dX9_plant_173 : decode cX9_plant 173 = .ok (.putfield 97, 3) := by decide +kernel
theorem dX9_plant_176 : decode cX9_plant 176 = .ok (.return_, 1) := by decide +kernel
theorem dX9_nodeOf_0 : decode cX9_nodeOf 0 = .ok (.iload_n 1, 1) := by decide +kernel
theorem dX9_nodeOf_1 : decode cX9_nodeOf 1 = .ok (.istore 4, 2) := by decide +kernel
theorem dX9_nodeOf_3 : decode cX9_nodeOf 3 = .ok (.iconst 0, 1) := by decide +kernel
theorem dX9_nodeOf_4 : decode cX9_nodeOf 4 = .ok (.istore 5, 2) := by decide +kernel
theorem dX9_nodeOf_6 : decode cX9_nodeOf 6 = .ok (.iload 5, 2) := by decide +kernel
theorem dX9_nodeOf_8 : decode cX9_nodeOf 8 = .ok (.iload_n 3, 1) := by decide +kernel
theorem dX9_nodeOf_9 : decode cX9_nodeOf 9 = .ok (.if_icmp .ge 26, 3) := by decide +kernel
theorem dX9_nodeOf_12 : decode cX9_nodeOf 12 = .ok (.bipush 31, 2) := by decide +kernel
theorem dX9_nodeOf_14 : decode cX9_nodeOf 14 = .ok (.iload 4, 2) := by decide +kernel
theorem dX9_nodeOf_16 : decode cX9_nodeOf 16 = .ok (.imul, 1) := by decide +kernel
theorem dX9_nodeOf_17 : decode cX9_nodeOf 17 = .ok (.aload_n 0, 1) := by decide +kernel
theorem dX9_nodeOf_18 : decode cX9_nodeOf 18 = .ok (.getfield 36, 3) := by decide +kernel
theorem dX9_nodeOf_21 : decode cX9_nodeOf 21 = .ok (.iload_n 2, 1) := by decide +kernel
theorem dX9_nodeOf_22 : decode cX9_nodeOf 22 = .ok (.iload 5, 2) := by decide +kernel
theorem dX9_nodeOf_24 : decode cX9_nodeOf 24 = .ok (.iadd, 1) := by decide +kernel
theorem dX9_nodeOf_25 : decode cX9_nodeOf 25 = .ok (.iaload, 1) := by decide +kernel
theorem dX9_nodeOf_26 : decode cX9_nodeOf 26 = .ok (.iadd, 1) := by decide +kernel
theorem dX9_nodeOf_27 : decode cX9_nodeOf 27 = .ok (.istore 4, 2) := by decide +kernel
theorem dX9_nodeOf_29 : decode cX9_nodeOf 29 = .ok (.iinc 5 1, 3) := by decide +kernel
theorem dX9_nodeOf_32 : decode cX9_nodeOf 32 = .ok (.goto (-26), 3) := by decide +kernel
theorem dX9_nodeOf_35 : decode cX9_nodeOf 35 = .ok (.iload 4, 2) := by decide +kernel
theorem dX9_nodeOf_37 : decode cX9_nodeOf 37 = .ok (.iload 4, 2) := by decide +kernel
theorem dX9_nodeOf_39 : decode cX9_nodeOf 39 = .ok (.bipush 8, 2) := by decide +kernel
theorem dX9_nodeOf_41 : decode cX9_nodeOf 41 = .ok (.iushr, 1) := by decide +kernel
theorem dX9_nodeOf_42 : decode cX9_nodeOf 42 = .ok (.ixor, 1) := by decide +kernel
theorem dX9_nodeOf_43 : decode cX9_nodeOf 43 = .ok (.sipush 255, 3) := by decide +kernel
theorem dX9_nodeOf_46 : decode cX9_nodeOf 46 = .ok (.iand, 1) := by decide +kernel
theorem dX9_nodeOf_47 : decode cX9_nodeOf 47 = .ok (.istore 5, 2) := by decide +kernel
theorem dX9_nodeOf_49 : decode cX9_nodeOf 49 = .ok (.aload_n 0, 1) := by decide +kernel
theorem dX9_nodeOf_50 : decode cX9_nodeOf 50 = .ok (.getfield 27, 3) := by decide +kernel
theorem dX9_nodeOf_53 : decode cX9_nodeOf 53 = .ok (.iload 5, 2) := by decide +kernel
theorem dX9_nodeOf_55 : decode cX9_nodeOf 55 = .ok (.iaload, 1) := by decide +kernel
theorem dX9_nodeOf_56 : decode cX9_nodeOf 56 = .ok (.istore 6, 2) := by decide +kernel
theorem dX9_nodeOf_58 : decode cX9_nodeOf 58 = .ok (.iconst 0, 1) := by decide +kernel
theorem dX9_nodeOf_59 : decode cX9_nodeOf 59 = .ok (.istore 7, 2) := by decide +kernel
theorem dX9_nodeOf_61 : decode cX9_nodeOf 61 = .ok (.iload 7, 2) := by decide +kernel
theorem dX9_nodeOf_63 : decode cX9_nodeOf 63 = .ok (.sipush 1000, 3) := by decide +kernel
theorem dX9_nodeOf_66 : decode cX9_nodeOf 66 = .ok (.if_icmp .ge 48, 3) := by decide +kernel
theorem dX9_nodeOf_69 : decode cX9_nodeOf 69 = .ok (.iload 6, 2) := by decide +kernel
theorem dX9_nodeOf_71 : decode cX9_nodeOf 71 = .ok (.iconst (-1), 1) := by decide +kernel
theorem dX9_nodeOf_72 : decode cX9_nodeOf 72 = .ok (.if_icmp .eq 42, 3) := by decide +kernel
theorem dX9_nodeOf_75 : decode cX9_nodeOf 75 = .ok (.aload_n 0, 1) := by decide +kernel
theorem dX9_nodeOf_76 : decode cX9_nodeOf 76 = .ok (.getfield 9, 3) := by decide +kernel
theorem dX9_nodeOf_79 : decode cX9_nodeOf 79 = .ok (.iload 6, 2) := by decide +kernel
theorem dX9_nodeOf_81 : decode cX9_nodeOf 81 = .ok (.iaload, 1) := by decide +kernel
theorem dX9_nodeOf_82 : decode cX9_nodeOf 82 = .ok (.iload_n 1, 1) := by decide +kernel
theorem dX9_nodeOf_83 : decode cX9_nodeOf 83 = .ok (.if_icmp .ne 16, 3) := by decide +kernel
theorem dX9_nodeOf_86 : decode cX9_nodeOf 86 = .ok (.aload_n 0, 1) := by decide +kernel
theorem dX9_nodeOf_87 : decode cX9_nodeOf 87 = .ok (.iload 6, 2) := by decide +kernel
theorem dX9_nodeOf_89 : decode cX9_nodeOf 89 = .ok (.iload_n 2, 1) := by decide +kernel
theorem dX9_nodeOf_90 : decode cX9_nodeOf 90 = .ok (.invokevirtual 100, 3) := by decide +kernel
theorem dX9_nodeOf_93 : decode cX9_nodeOf 93 = .ok (.ifCond .eq 6, 3) := by decide +kernel
theorem dX9_nodeOf_96 : decode cX9_nodeOf 96 = .ok (.iload 6, 2) := by decide +kernel
theorem dX9_nodeOf_98 : decode cX9_nodeOf 98 = .ok (.ireturn, 1) := by decide +kernel
theorem dX9_nodeOf_99 : decode cX9_nodeOf 99 = .ok (.aload_n 0, 1) := by decide +kernel
theorem dX9_nodeOf_100 : decode cX9_nodeOf 100 = .ok (.getfield 30, 3) := by decide +kernel
theorem dX9_nodeOf_103 : decode cX9_nodeOf 103 = .ok (.iload 6, 2) := by decide +kernel
theorem dX9_nodeOf_105 : decode cX9_nodeOf 105 = .ok (.iaload, 1) := by decide +kernel
theorem dX9_nodeOf_106 : decode cX9_nodeOf 106 = .ok (.istore 6, 2) := by decide +kernel
theorem dX9_nodeOf_108 : decode cX9_nodeOf 108 = .ok (.iinc 7 1, 3) := by decide +kernel
theorem dX9_nodeOf_111 : decode cX9_nodeOf 111 = .ok (.goto (-50), 3) := by decide +kernel
theorem dX9_nodeOf_114 : decode cX9_nodeOf 114 = .ok (.aload_n 0, 1) := by decide +kernel
theorem dX9_nodeOf_115 : decode cX9_nodeOf 115 = .ok (.iload_n 1, 1) := by decide +kernel
theorem dX9_nodeOf_116 : decode cX9_nodeOf 116 = .ok (.iload_n 2, 1) := by decide +kernel
theorem dX9_nodeOf_117 : decode cX9_nodeOf 117 = .ok (.iload_n 3, 1) := by decide +kernel
theorem dX9_nodeOf_118 : decode cX9_nodeOf 118 = .ok (.iload 5, 2) := by decide +kernel
theorem dX9_nodeOf_120 : decode cX9_nodeOf 120 = .ok (.invokevirtual 104, 3) := by decide +kernel
theorem dX9_nodeOf_123 : decode cX9_nodeOf 123 = .ok (.ireturn, 1) := by decide +kernel
theorem dX9_takesStack_0 : decode cX9_takesStack 0 = .ok (.aload_n 0, 1) := by decide +kernel
theorem dX9_takesStack_1 : decode cX9_takesStack 1 = .ok (.getfield 20, 3) := by decide +kernel
theorem dX9_takesStack_4 : decode cX9_takesStack 4 = .ok (.iload_n 1, 1) := by decide +kernel
theorem dX9_takesStack_5 : decode cX9_takesStack 5 = .ok (.invokevirtual 85, 3) := by decide +kernel
theorem dX9_takesStack_8 : decode cX9_takesStack 8 = .ok (.istore_n 3, 1) := by decide +kernel
theorem dX9_takesStack_9 : decode cX9_takesStack 9 = .ok (.iconst 0, 1) := by decide +kernel
theorem dX9_takesStack_10 : decode cX9_takesStack 10 = .ok (.istore 4, 2) := by decide +kernel
theorem dX9_takesStack_12 : decode cX9_takesStack 12 = .ok (.iload 4, 2) := by decide +kernel
theorem dX9_takesStack_14 : decode cX9_takesStack 14 = .ok (.iload_n 3, 1) := by decide +kernel
theorem dX9_takesStack_15 : decode cX9_takesStack 15 = .ok (.if_icmp .ge 33, 3) := by decide +kernel
theorem dX9_takesStack_18 : decode cX9_takesStack 18 = .ok (.aload_n 0, 1) := by decide +kernel
theorem dX9_takesStack_19 : decode cX9_takesStack 19 = .ok (.getfield 20, 3) := by decide +kernel
theorem dX9_takesStack_22 : decode cX9_takesStack 22 = .ok (.iload_n 1, 1) := by decide +kernel
theorem dX9_takesStack_23 : decode cX9_takesStack 23 = .ok (.iload 4, 2) := by decide +kernel
theorem dX9_takesStack_25 : decode cX9_takesStack 25 = .ok (.invokevirtual 108, 3) := by decide +kernel
theorem dX9_takesStack_28 : decode cX9_takesStack 28 = .ok (.aload_n 0, 1) := by decide +kernel
theorem dX9_takesStack_29 : decode cX9_takesStack 29 = .ok (.getfield 36, 3) := by decide +kernel
theorem dX9_takesStack_32 : decode cX9_takesStack 32 = .ok (.iload_n 2, 1) := by decide +kernel
theorem dX9_takesStack_33 : decode cX9_takesStack 33 = .ok (.iload 4, 2) := by decide +kernel
theorem dX9_takesStack_35 : decode cX9_takesStack 35 = .ok (.iadd, 1) := by decide +kernel
theorem dX9_takesStack_36 : decode cX9_takesStack 36 = .ok (.iaload, 1) := by decide +kernel
theorem dX9_takesStack_37 : decode cX9_takesStack 37 = .ok (.if_icmp .eq 5, 3) := by decide +kernel
theorem dX9_takesStack_40 : decode cX9_takesStack 40 = .ok (.iconst 0, 1) := by decide +kernel
theorem dX9_takesStack_41 : decode cX9_takesStack 41 = .ok (.ireturn, 1) := by decide +kernel
theorem dX9_takesStack_42 : decode cX9_takesStack 42 = .ok (.iinc 4 1, 3) := by decide +kernel
theorem dX9_takesStack_45 : decode cX9_takesStack 45 = .ok (.goto (-33), 3) := by decide +kernel
theorem dX9_takesStack_48 : decode cX9_takesStack 48 = .ok (.iconst 1, 1) := by decide +kernel
theorem dX9_takesStack_49 : decode cX9_takesStack 49 = .ok (.ireturn, 1) := by decide +kernel
theorem dX9_addNode_0 : decode cX9_addNode 0 = .ok (.aload_n 0, 1) := by decide +kernel
theorem dX9_addNode_1 : decode cX9_addNode 1 = .ok (.getfield 59, 3) := by decide +kernel
theorem dX9_addNode_4 : decode cX9_addNode 4 = .ok (.istore 5, 2) := by decide +kernel
theorem dX9_addNode_6 : decode cX9_addNode 6 = .ok (.aload_n 0, 1) := by decide +kernel
theorem dX9_addNode_7 : decode cX9_addNode 7 = .ok (.getfield 9, 3) := by decide +kernel
theorem dX9_addNode_10 : decode cX9_addNode 10 = .ok (.iload 5, 2) := by decide +kernel
theorem dX9_addNode_12 : decode cX9_addNode 12 = .ok (.iload_n 1, 1) := by decide +kernel
theorem dX9_addNode_13 : decode cX9_addNode 13 = .ok (.iastore, 1) := by decide +kernel
theorem dX9_addNode_14 : decode cX9_addNode 14 = .ok (.aload_n 0, 1) := by decide +kernel
theorem dX9_addNode_15 : decode cX9_addNode 15 = .ok (.getfield 24, 3) := by decide +kernel
theorem dX9_addNode_18 : decode cX9_addNode 18 = .ok (.iload 5, 2) := by decide +kernel
theorem dX9_addNode_20 : decode cX9_addNode 20 = .ok (.iconst 0, 1) := by decide +kernel
theorem dX9_addNode_21 : decode cX9_addNode 21 = .ok (.iastore, 1) := by decide +kernel
theorem dX9_addNode_22 : decode cX9_addNode 22 = .ok (.aload_n 0, 1) := by decide +kernel
theorem dX9_addNode_23 : decode cX9_addNode 23 = .ok (.getfield 30, 3) := by decide +kernel
theorem dX9_addNode_26 : decode cX9_addNode 26 = .ok (.iload 5, 2) := by decide +kernel
theorem dX9_addNode_28 : decode cX9_addNode 28 = .ok (.aload_n 0, 1) := by decide +kernel
theorem dX9_addNode_29 : decode cX9_addNode 29 = .ok (.getfield 27, 3) := by decide +kernel
theorem dX9_addNode_32 : decode cX9_addNode 32 = .ok (.iload 4, 2) := by decide +kernel
theorem dX9_addNode_34 : decode cX9_addNode 34 = .ok (.iaload, 1) := by decide +kernel
theorem dX9_addNode_35 : decode cX9_addNode 35 = .ok (.iastore, 1) := by decide +kernel
theorem dX9_addNode_36 : decode cX9_addNode 36 = .ok (.aload_n 0, 1) := by decide +kernel
theorem dX9_addNode_37 : decode cX9_addNode 37 = .ok (.getfield 27, 3) := by decide +kernel
theorem dX9_addNode_40 : decode cX9_addNode 40 = .ok (.iload 4, 2) := by decide +kernel
theorem dX9_addNode_42 : decode cX9_addNode 42 = .ok (.iload 5, 2) := by decide +kernel
theorem dX9_addNode_44 : decode cX9_addNode 44 = .ok (.iastore, 1) := by decide +kernel
theorem dX9_addNode_45 : decode cX9_addNode 45 = .ok (.iconst 0, 1) := by decide +kernel
theorem dX9_addNode_46 : decode cX9_addNode 46 = .ok (.istore 6, 2) := by decide +kernel
theorem dX9_addNode_48 : decode cX9_addNode 48 = .ok (.iload 6, 2) := by decide +kernel
theorem dX9_addNode_50 : decode cX9_addNode 50 = .ok (.iload_n 3, 1) := by decide +kernel
theorem dX9_addNode_51 : decode cX9_addNode 51 = .ok (.if_icmp .ge 43, 3) := by decide +kernel
theorem dX9_addNode_54 : decode cX9_addNode 54 = .ok (.aload_n 0, 1) := by decide +kernel
theorem dX9_addNode_55 : decode cX9_addNode 55 = .ok (.getfield 20, 3) := by decide +kernel
theorem dX9_addNode_58 : decode cX9_addNode 58 = .ok (.aload_n 0, 1) := by decide +kernel
theorem dX9_addNode_59 : decode cX9_addNode 59 = .ok (.getfield 36, 3) := by decide +kernel
theorem dX9_addNode_62 : decode cX9_addNode 62 = .ok (.iload_n 2, 1) := by decide +kernel
theorem dX9_addNode_63 : decode cX9_addNode 63 = .ok (.iload 6, 2) := by decide +kernel
theorem dX9_addNode_65 : decode cX9_addNode 65 = .ok (.iadd, 1) := by decide +kernel
theorem dX9_addNode_66 : decode cX9_addNode 66 = .ok (.iaload, 1) := by decide +kernel
theorem dX9_addNode_67 : decode cX9_addNode 67 = .ok (.invokevirtual 112, 3) := by decide +kernel
theorem dX9_addNode_70 : decode cX9_addNode 70 = .ok (.aload_n 0, 1) := by decide +kernel
theorem dX9_addNode_71 : decode cX9_addNode 71 = .ok (.getfield 24, 3) := by decide +kernel
theorem dX9_addNode_74 : decode cX9_addNode 74 = .ok (.aload_n 0, 1) := by decide +kernel
theorem dX9_addNode_75 : decode cX9_addNode 75 = .ok (.getfield 36, 3) := by decide +kernel
theorem dX9_addNode_78 : decode cX9_addNode 78 = .ok (.iload_n 2, 1) := by decide +kernel
theorem dX9_addNode_79 : decode cX9_addNode 79 = .ok (.iload 6, 2) := by decide +kernel
theorem dX9_addNode_81 : decode cX9_addNode 81 = .ok (.iadd, 1) := by decide +kernel
theorem dX9_addNode_82 : decode cX9_addNode 82 = .ok (.iaload, 1) := by decide +kernel
theorem dX9_addNode_83 : decode cX9_addNode 83 = .ok (.dup2, 1) := by decide +kernel
theorem dX9_addNode_84 : decode cX9_addNode 84 = .ok (.iaload, 1) := by decide +kernel
theorem dX9_addNode_85 : decode cX9_addNode 85 = .ok (.iconst 1, 1) := by decide +kernel
theorem dX9_addNode_86 : decode cX9_addNode 86 = .ok (.iadd, 1) := by decide +kernel
theorem dX9_addNode_87 : decode cX9_addNode 87 = .ok (.iastore, 1) := by decide +kernel
theorem dX9_addNode_88 : decode cX9_addNode 88 = .ok (.iinc 6 1, 3) := by decide +kernel
theorem dX9_addNode_91 : decode cX9_addNode 91 = .ok (.goto (-43), 3) := by decide +kernel
theorem dX9_addNode_94 : decode cX9_addNode 94 = .ok (.aload_n 0, 1) := by decide +kernel
theorem dX9_addNode_95 : decode cX9_addNode 95 = .ok (.getfield 20, 3) := by decide +kernel
theorem dX9_addNode_98 : decode cX9_addNode 98 = .ok (.invokevirtual 115, 3) := by decide +kernel
theorem dX9_addNode_101 : decode cX9_addNode 101 = .ok (.aload_n 0, 1) := by decide +kernel
theorem dX9_addNode_102 : decode cX9_addNode 102 = .ok (.dup, 1) := by decide +kernel
theorem dX9_addNode_103 : decode cX9_addNode 103 = .ok (.getfield 59, 3) := by decide +kernel
theorem dX9_addNode_106 : decode cX9_addNode 106 = .ok (.iconst 1, 1) := by decide +kernel
theorem dX9_addNode_107 : decode cX9_addNode 107 = .ok (.iadd, 1) := by decide +kernel
theorem dX9_addNode_108 : decode cX9_addNode 108 = .ok (.putfield 59, 3) := by decide +kernel
theorem dX9_addNode_111 : decode cX9_addNode 111 = .ok (.iload 5, 2) := by decide +kernel
theorem dX9_addNode_113 : decode cX9_addNode 113 = .ok (.ireturn, 1) := by decide +kernel
theorem dX9_writeOut_0 : decode cX9_writeOut 0 = .ok (.iconst 0, 1) := by decide +kernel
theorem dX9_writeOut_1 : decode cX9_writeOut 1 = .ok (.istore_n 2, 1) := by decide +kernel
theorem dX9_writeOut_2 : decode cX9_writeOut 2 = .ok (.aload_n 0, 1) := by decide +kernel
theorem dX9_writeOut_3 : decode cX9_writeOut 3 = .ok (.invokevirtual 118, 3) := by decide +kernel
theorem dX9_writeOut_6 : decode cX9_writeOut 6 = .ok (.iconst 0, 1) := by decide +kernel
theorem dX9_writeOut_7 : decode cX9_writeOut 7 = .ok (.istore_n 3, 1) := by decide +kernel
theorem dX9_writeOut_8 : decode cX9_writeOut 8 = .ok (.iload_n 3, 1) := by decide +kernel
theorem dX9_writeOut_9 : decode cX9_writeOut 9 = .ok (.sipush 4000, 3) := by decide +kernel
theorem dX9_writeOut_12 : decode cX9_writeOut 12 = .ok (.if_icmp .ge 100, 3) := by decide +kernel
theorem dX9_writeOut_15 : decode cX9_writeOut 15 = .ok (.aload_n 0, 1) := by decide +kernel
theorem dX9_writeOut_16 : decode cX9_writeOut 16 = .ok (.getfield 121, 3) := by decide +kernel
theorem dX9_writeOut_19 : decode cX9_writeOut 19 = .ok (.ifCond .le 93, 3) := by decide +kernel
theorem dX9_writeOut_22 : decode cX9_writeOut 22 = .ok (.aload_n 0, 1) := by decide +kernel
theorem dX9_writeOut_23 : decode cX9_writeOut 23 = .ok (.invokevirtual 124, 3) := by decide +kernel
theorem dX9_writeOut_26 : decode cX9_writeOut 26 = .ok (.istore 4, 2) := by decide +kernel
theorem dX9_writeOut_28 : decode cX9_writeOut 28 = .ok (.iload 4, 2) := by decide +kernel
theorem dX9_writeOut_30 : decode cX9_writeOut 30 = .ok (.iconst (-1), 1) := by decide +kernel
theorem dX9_writeOut_31 : decode cX9_writeOut 31 = .ok (.if_icmp .eq 12, 3) := by decide +kernel
theorem dX9_writeOut_34 : decode cX9_writeOut 34 = .ok (.aload_n 0, 1) := by decide +kernel
theorem dX9_writeOut_35 : decode cX9_writeOut 35 = .ok (.iload 4, 2) := by decide +kernel
theorem dX9_writeOut_37 : decode cX9_writeOut 37 = .ok (.invokevirtual 128, 3) := by decide +kernel
theorem dX9_writeOut_40 : decode cX9_writeOut 40 = .ok (.goto 66, 3) := by decide +kernel
theorem dX9_writeOut_43 : decode cX9_writeOut 43 = .ok (.iload_n 2, 1) := by decide +kernel
theorem dX9_writeOut_44 : decode cX9_writeOut 44 = .ok (.sipush 1000, 3) := by decide +kernel
theorem dX9_writeOut_47 : decode cX9_writeOut 47 = .ok (.if_icmp .ne 5, 3) := by decide +kernel
theorem dX9_writeOut_50 : decode cX9_writeOut 50 = .ok (.iconst 0, 1) := by decide +kernel
theorem dX9_writeOut_51 : decode cX9_writeOut 51 = .ok (.ireturn, 1) := by decide +kernel
theorem dX9_writeOut_52 : decode cX9_writeOut 52 = .ok (.iload_n 2, 1) := by decide +kernel
theorem dX9_writeOut_53 : decode cX9_writeOut 53 = .ok (.ifCond .le 9, 3) := by decide +kernel
theorem dX9_writeOut_56 : decode cX9_writeOut 56 = .ok (.aload_n 1, 1) := by decide +kernel
theorem dX9_writeOut_57 : decode cX9_writeOut 57 = .ok (.bipush 32, 2) := by decide +kernel
theorem dX9_writeOut_59 : decode cX9_writeOut 59 = .ok (.invokevirtual 131, 3) := by decide +kernel
theorem dX9_writeOut_62 : decode cX9_writeOut 62 = .ok (.aload_n 1, 1) := by decide +kernel
theorem dX9_writeOut_63 : decode cX9_writeOut 63 = .ok (.aload_n 0, 1) := by decide +kernel
theorem dX9_writeOut_64 : decode cX9_writeOut 64 = .ok (.getfield 51, 3) := by decide +kernel
theorem dX9_writeOut_67 : decode cX9_writeOut 67 = .ok (.getfield 136, 3) := by decide +kernel
theorem dX9_writeOut_70 : decode cX9_writeOut 70 = .ok (.sipush 300, 3) := by decide +kernel
theorem dX9_writeOut_73 : decode cX9_writeOut 73 = .ok (.aload_n 0, 1) := by decide +kernel
theorem dX9_writeOut_74 : decode cX9_writeOut 74 = .ok (.getfield 9, 3) := by decide +kernel
theorem dX9_writeOut_77 : decode cX9_writeOut 77 = .ok (.aload_n 0, 1) := by decide +kernel
theorem dX9_writeOut_78 : decode cX9_writeOut 78 = .ok (.getfield 36, 3) := by decide +kernel
theorem dX9_writeOut_81 : decode cX9_writeOut 81 = .ok (.aload_n 0, 1) := by decide +kernel
theorem dX9_writeOut_82 : decode cX9_writeOut 82 = .ok (.getfield 121, 3) := by decide +kernel
theorem dX9_writeOut_85 : decode cX9_writeOut 85 = .ok (.iconst 1, 1) := by decide +kernel
theorem dX9_writeOut_86 : decode cX9_writeOut 86 = .ok (.isub, 1) := by decide +kernel
theorem dX9_writeOut_87 : decode cX9_writeOut 87 = .ok (.iaload, 1) := by decide +kernel
theorem dX9_writeOut_88 : decode cX9_writeOut 88 = .ok (.iaload, 1) := by decide +kernel
theorem dX9_writeOut_89 : decode cX9_writeOut 89 = .ok (.iadd, 1) := by decide +kernel
theorem dX9_writeOut_90 : decode cX9_writeOut 90 = .ok (.invokevirtual 139, 3) := by decide +kernel
theorem dX9_writeOut_93 : decode cX9_writeOut 93 = .ok (.iinc 2 1, 3) := by decide +kernel
theorem dX9_writeOut_96 : decode cX9_writeOut 96 = .ok (.aload_n 0, 1) := by decide +kernel
theorem dX9_writeOut_97 : decode cX9_writeOut 97 = .ok (.dup, 1) := by decide +kernel
theorem dX9_writeOut_98 : decode cX9_writeOut 98 = .ok (.getfield 121, 3) := by decide +kernel
theorem dX9_writeOut_101 : decode cX9_writeOut 101 = .ok (.iconst 1, 1) := by decide +kernel
theorem dX9_writeOut_102 : decode cX9_writeOut 102 = .ok (.isub, 1) := by decide +kernel
theorem dX9_writeOut_103 : decode cX9_writeOut 103 = .ok (.putfield 121, 3) := by decide +kernel
theorem dX9_writeOut_106 : decode cX9_writeOut 106 = .ok (.iinc 3 1, 3) := by decide +kernel
theorem dX9_writeOut_109 : decode cX9_writeOut 109 = .ok (.goto (-101), 3) := by decide +kernel
theorem dX9_writeOut_112 : decode cX9_writeOut 112 = .ok (.iconst 1, 1) := by decide +kernel
theorem dX9_writeOut_113 : decode cX9_writeOut 113 = .ok (.ireturn, 1) := by decide +kernel
theorem dX9_enterRoot_0 : decode cX9_enterRoot 0 = .ok (.aload_n 0, 1) := by decide +kernel
theorem dX9_enterRoot_1 : decode cX9_enterRoot 1 = .ok (.iconst 0, 1) := by decide +kernel
theorem dX9_enterRoot_2 : decode cX9_enterRoot 2 = .ok (.putfield 121, 3) := by decide +kernel
theorem dX9_enterRoot_5 : decode cX9_enterRoot 5 = .ok (.aload_n 0, 1) := by decide +kernel
theorem dX9_enterRoot_6 : decode cX9_enterRoot 6 = .ok (.aload_n 0, 1) := by decide +kernel
theorem dX9_enterRoot_7 : decode cX9_enterRoot 7 = .ok (.getfield 97, 3) := by decide +kernel
theorem dX9_enterRoot_10 : decode cX9_enterRoot 10 = .ok (.invokevirtual 128, 3) := by decide +kernel
theorem dX9_enterRoot_13 : decode cX9_enterRoot 13 = .ok (.return_, 1) := by decide +kernel
theorem dX9_enter_0 : decode cX9_enter 0 = .ok (.aload_n 0, 1) := by decide +kernel
theorem dX9_enter_1 : decode cX9_enter 1 = .ok (.getfield 36, 3) := by decide +kernel
theorem dX9_enter_4 : decode cX9_enter 4 = .ok (.aload_n 0, 1) := by decide +kernel
theorem dX9_enter_5 : decode cX9_enter 5 = .ok (.getfield 121, 3) := by decide +kernel
theorem dX9_enter_8 : decode cX9_enter 8 = .ok (.iload_n 1, 1) := by decide +kernel
theorem dX9_enter_9 : decode cX9_enter 9 = .ok (.iastore, 1) := by decide +kernel
theorem dX9_enter_10 : decode cX9_enter 10 = .ok (.aload_n 0, 1) := by decide +kernel
theorem dX9_enter_11 : decode cX9_enter 11 = .ok (.getfield 39, 3) := by decide +kernel
theorem dX9_enter_14 : decode cX9_enter 14 = .ok (.aload_n 0, 1) := by decide +kernel
theorem dX9_enter_15 : decode cX9_enter 15 = .ok (.getfield 121, 3) := by decide +kernel
theorem dX9_enter_18 : decode cX9_enter 18 = .ok (.iconst 0, 1) := by decide +kernel
theorem dX9_enter_19 : decode cX9_enter 19 = .ok (.iastore, 1) := by decide +kernel
theorem dX9_enter_20 : decode cX9_enter 20 = .ok (.aload_n 0, 1) := by decide +kernel
theorem dX9_enter_21 : decode cX9_enter 21 = .ok (.dup, 1) := by decide +kernel
theorem dX9_enter_22 : decode cX9_enter 22 = .ok (.getfield 121, 3) := by decide +kernel
theorem dX9_enter_25 : decode cX9_enter 25 = .ok (.iconst 1, 1) := by decide +kernel
theorem dX9_enter_26 : decode cX9_enter 26 = .ok (.iadd, 1) := by decide +kernel
theorem dX9_enter_27 : decode cX9_enter 27 = .ok (.putfield 121, 3) := by decide +kernel
theorem dX9_enter_30 : decode cX9_enter 30 = .ok (.return_, 1) := by decide +kernel
theorem dX9_nextTaken_0 : decode cX9_nextTaken 0 = .ok (.aload_n 0, 1) := by decide +kernel
theorem dX9_nextTaken_1 : decode cX9_nextTaken 1 = .ok (.getfield 121, 3) := by decide +kernel
theorem dX9_nextTaken_4 : decode cX9_nextTaken 4 = .ok (.iconst 1, 1) := by decide +kernel
theorem dX9_nextTaken_5 : decode cX9_nextTaken 5 = .ok (.isub, 1) := by decide +kernel
theorem dX9_nextTaken_6 : decode cX9_nextTaken 6 = .ok (.istore_n 1, 1) := by decide +kernel
theorem dX9_nextTaken_7 : decode cX9_nextTaken 7 = .ok (.aload_n 0, 1) := by decide +kernel
theorem dX9_nextTaken_8 : decode cX9_nextTaken 8 = .ok (.getfield 20, 3) := by decide +kernel
theorem dX9_nextTaken_11 : decode cX9_nextTaken 11 = .ok (.aload_n 0, 1) := by decide +kernel
theorem dX9_nextTaken_12 : decode cX9_nextTaken 12 = .ok (.getfield 36, 3) := by decide +kernel
theorem dX9_nextTaken_15 : decode cX9_nextTaken 15 = .ok (.iload_n 1, 1) := by decide +kernel
theorem dX9_nextTaken_16 : decode cX9_nextTaken 16 = .ok (.iaload, 1) := by decide +kernel
theorem dX9_nextTaken_17 : decode cX9_nextTaken 17 = .ok (.aload_n 0, 1) := by decide +kernel
theorem dX9_nextTaken_18 : decode cX9_nextTaken 18 = .ok (.getfield 39, 3) := by decide +kernel
theorem dX9_nextTaken_21 : decode cX9_nextTaken 21 = .ok (.iload_n 1, 1) := by decide +kernel
theorem dX9_nextTaken_22 : decode cX9_nextTaken 22 = .ok (.iaload, 1) := by decide +kernel
theorem dX9_nextTaken_23 : decode cX9_nextTaken 23 = .ok (.invokevirtual 108, 3) := by decide +kernel
theorem dX9_nextTaken_26 : decode cX9_nextTaken 26 = .ok (.istore_n 2, 1) := by decide +kernel
theorem dX9_nextTaken_27 : decode cX9_nextTaken 27 = .ok (.aload_n 0, 1) := by decide +kernel
theorem dX9_nextTaken_28 : decode cX9_nextTaken 28 = .ok (.getfield 39, 3) := by decide +kernel
theorem dX9_nextTaken_31 : decode cX9_nextTaken 31 = .ok (.iload_n 1, 1) := by decide +kernel
theorem dX9_nextTaken_32 : decode cX9_nextTaken 32 = .ok (.dup2, 1) := by decide +kernel
theorem dX9_nextTaken_33 : decode cX9_nextTaken 33 = .ok (.iaload, 1) := by decide +kernel
theorem dX9_nextTaken_34 : decode cX9_nextTaken 34 = .ok (.iconst 1, 1) := by decide +kernel
theorem dX9_nextTaken_35 : decode cX9_nextTaken 35 = .ok (.iadd, 1) := by decide +kernel
theorem dX9_nextTaken_36 : decode cX9_nextTaken 36 = .ok (.iastore, 1) := by decide +kernel
theorem dX9_nextTaken_37 : decode cX9_nextTaken 37 = .ok (.iload_n 2, 1) := by decide +kernel
theorem dX9_nextTaken_38 : decode cX9_nextTaken 38 = .ok (.ireturn, 1) := by decide +kernel
theorem dX9_compress_0 : decode cX9_compress 0 = .ok (.aload_n 0, 1) := by decide +kernel
theorem dX9_compress_1 : decode cX9_compress 1 = .ok (.aload_n 1, 1) := by decide +kernel
theorem dX9_compress_2 : decode cX9_compress 2 = .ok (.invokevirtual 143, 3) := by decide +kernel
theorem dX9_compress_5 : decode cX9_compress 5 = .ok (.aload_n 0, 1) := by decide +kernel
theorem dX9_compress_6 : decode cX9_compress 6 = .ok (.getfield 45, 3) := by decide +kernel
theorem dX9_compress_9 : decode cX9_compress 9 = .ok (.iconst 0, 1) := by decide +kernel
theorem dX9_compress_10 : decode cX9_compress 10 = .ok (.invokestatic 66, 3) := by decide +kernel
theorem dX9_compress_13 : decode cX9_compress 13 = .ok (.aload_n 0, 1) := by decide +kernel
theorem dX9_compress_14 : decode cX9_compress 14 = .ok (.invokevirtual 118, 3) := by decide +kernel
theorem dX9_compress_17 : decode cX9_compress 17 = .ok (.iconst 0, 1) := by decide +kernel
theorem dX9_compress_18 : decode cX9_compress 18 = .ok (.istore_n 2, 1) := by decide +kernel
theorem dX9_compress_19 : decode cX9_compress 19 = .ok (.iload_n 2, 1) := by decide +kernel
theorem dX9_compress_20 : decode cX9_compress 20 = .ok (.sipush 4000, 3) := by decide +kernel
theorem dX9_compress_23 : decode cX9_compress 23 = .ok (.if_icmp .ge 62, 3) := by decide +kernel
theorem dX9_compress_26 : decode cX9_compress 26 = .ok (.aload_n 0, 1) := by decide +kernel
theorem dX9_compress_27 : decode cX9_compress 27 = .ok (.getfield 121, 3) := by decide +kernel
theorem dX9_compress_30 : decode cX9_compress 30 = .ok (.ifCond .le 55, 3) := by decide +kernel
theorem dX9_compress_33 : decode cX9_compress 33 = .ok (.aload_n 0, 1) := by decide +kernel
theorem dX9_compress_34 : decode cX9_compress 34 = .ok (.invokevirtual 124, 3) := by decide +kernel
theorem dX9_compress_37 : decode cX9_compress 37 = .ok (.istore_n 3, 1) := by decide +kernel
theorem dX9_compress_38 : decode cX9_compress 38 = .ok (.iload_n 3, 1) := by decide +kernel
theorem dX9_compress_39 : decode cX9_compress 39 = .ok (.iconst (-1), 1) := by decide +kernel
theorem dX9_compress_40 : decode cX9_compress 40 = .ok (.if_icmp .ne 11, 3) := by decide +kernel
theorem dX9_compress_43 : decode cX9_compress 43 = .ok (.aload_n 0, 1) := by decide +kernel
theorem dX9_compress_44 : decode cX9_compress 44 = .ok (.aload_n 1, 1) := by decide +kernel
theorem dX9_compress_45 : decode cX9_compress 45 = .ok (.invokevirtual 147, 3) := by decide +kernel
theorem dX9_compress_48 : decode cX9_compress 48 = .ok (.goto 31, 3) := by decide +kernel
theorem dX9_compress_51 : decode cX9_compress 51 = .ok (.aload_n 0, 1) := by decide +kernel
theorem dX9_compress_52 : decode cX9_compress 52 = .ok (.getfield 45, 3) := by decide +kernel
theorem dX9_compress_55 : decode cX9_compress 55 = .ok (.iload_n 3, 1) := by decide +kernel
theorem dX9_compress_56 : decode cX9_compress 56 = .ok (.iaload, 1) := by decide +kernel
theorem dX9_compress_57 : decode cX9_compress 57 = .ok (.ifCond .le 17, 3) := by decide +kernel
theorem dX9_compress_60 : decode cX9_compress 60 = .ok (.aload_n 0, 1) := by decide +kernel
theorem dX9_compress_61 : decode cX9_compress 61 = .ok (.aload_n 1, 1) := by decide +kernel
theorem dX9_compress_62 : decode cX9_compress 62 = .ok (.aload_n 0, 1) := by decide +kernel
theorem dX9_compress_63 : decode cX9_compress 63 = .ok (.getfield 45, 3) := by decide +kernel
theorem dX9_compress_66 : decode cX9_compress 66 = .ok (.iload_n 3, 1) := by decide +kernel
theorem dX9_compress_67 : decode cX9_compress 67 = .ok (.iaload, 1) := by decide +kernel
theorem dX9_compress_68 : decode cX9_compress 68 = .ok (.invokevirtual 150, 3) := by decide +kernel
theorem dX9_compress_71 : decode cX9_compress 71 = .ok (.goto 8, 3) := by decide +kernel
theorem dX9_compress_74 : decode cX9_compress 74 = .ok (.aload_n 0, 1) := by decide +kernel
theorem dX9_compress_75 : decode cX9_compress 75 = .ok (.iload_n 3, 1) := by decide +kernel
theorem dX9_compress_76 : decode cX9_compress 76 = .ok (.invokevirtual 128, 3) := by decide +kernel
theorem dX9_compress_79 : decode cX9_compress 79 = .ok (.iinc 2 1, 3) := by decide +kernel
theorem dX9_compress_82 : decode cX9_compress 82 = .ok (.goto (-63), 3) := by decide +kernel
theorem dX9_compress_85 : decode cX9_compress 85 = .ok (.return_, 1) := by decide +kernel
theorem dX9_numberLabels_0 : decode cX9_numberLabels 0 = .ok (.aload_n 0, 1) := by decide +kernel
theorem dX9_numberLabels_1 : decode cX9_numberLabels 1 = .ok (.getfield 42, 3) := by decide +kernel
theorem dX9_numberLabels_4 : decode cX9_numberLabels 4 = .ok (.iconst 0, 1) := by decide +kernel
theorem dX9_numberLabels_5 : decode cX9_numberLabels 5 = .ok (.invokestatic 66, 3) := by decide +kernel
theorem dX9_numberLabels_8 : decode cX9_numberLabels 8 = .ok (.aload_n 0, 1) := by decide +kernel
theorem dX9_numberLabels_9 : decode cX9_numberLabels 9 = .ok (.iconst 0, 1) := by decide +kernel
theorem dX9_numberLabels_10 : decode cX9_numberLabels 10 = .ok (.putfield 154, 3) := by decide +kernel
theorem dX9_numberLabels_13 : decode cX9_numberLabels 13 = .ok (.aload_n 0, 1) := by decide +kernel
theorem dX9_numberLabels_14 : decode cX9_numberLabels 14 = .ok (.getfield 51, 3) := by decide +kernel
theorem dX9_numberLabels_17 : decode cX9_numberLabels 17 = .ok (.getfield 80, 3) := by decide +kernel
theorem dX9_numberLabels_20 : decode cX9_numberLabels 20 = .ok (.aload_n 0, 1) := by decide +kernel
theorem dX9_numberLabels_21 : decode cX9_numberLabels 21 = .ok (.getfield 55, 3) := by decide +kernel
theorem dX9_numberLabels_24 : decode cX9_numberLabels 24 = .ok (.getfield 157, 3) := by decide +kernel
theorem dX9_numberLabels_27 : decode cX9_numberLabels 27 = .ok (.invokevirtual 85, 3) := by decide +kernel
theorem dX9_numberLabels_30 : decode cX9_numberLabels 30 = .ok (.istore_n 2, 1) := by decide +kernel
theorem dX9_numberLabels_31 : decode cX9_numberLabels 31 = .ok (.iconst 0, 1) := by decide +kernel
theorem dX9_numberLabels_32 : decode cX9_numberLabels 32 = .ok (.istore_n 3, 1) := by decide +kernel
theorem dX9_numberLabels_33 : decode cX9_numberLabels 33 = .ok (.iload_n 3, 1) := by decide +kernel
theorem dX9_numberLabels_34 : decode cX9_numberLabels 34 = .ok (.iload_n 2, 1) := by decide +kernel
theorem dX9_numberLabels_35 : decode cX9_numberLabels 35 = .ok (.if_icmp .ge 46, 3) := by decide +kernel
theorem dX9_numberLabels_38 : decode cX9_numberLabels 38 = .ok (.aload_n 0, 1) := by decide +kernel
theorem dX9_numberLabels_39 : decode cX9_numberLabels 39 = .ok (.dup, 1) := by decide +kernel
theorem dX9_numberLabels_40 : decode cX9_numberLabels 40 = .ok (.getfield 154, 3) := by decide +kernel
theorem dX9_numberLabels_43 : decode cX9_numberLabels 43 = .ok (.iconst 1, 1) := by decide +kernel
theorem dX9_numberLabels_44 : decode cX9_numberLabels 44 = .ok (.iadd, 1) := by decide +kernel
theorem dX9_numberLabels_45 : decode cX9_numberLabels 45 = .ok (.putfield 154, 3) := by decide +kernel
theorem dX9_numberLabels_48 : decode cX9_numberLabels 48 = .ok (.aload_n 0, 1) := by decide +kernel
theorem dX9_numberLabels_49 : decode cX9_numberLabels 49 = .ok (.getfield 42, 3) := by decide +kernel
theorem dX9_numberLabels_52 : decode cX9_numberLabels 52 = .ok (.aload_n 0, 1) := by decide +kernel
theorem dX9_numberLabels_53 : decode cX9_numberLabels 53 = .ok (.getfield 51, 3) := by decide +kernel
theorem dX9_numberLabels_56 : decode cX9_numberLabels 56 = .ok (.getfield 80, 3) := by decide +kernel
theorem dX9_numberLabels_59 : decode cX9_numberLabels 59 = .ok (.aload_n 0, 1) := by decide +kernel
theorem dX9_numberLabels_60 : decode cX9_numberLabels 60 = .ok (.getfield 55, 3) := by decide +kernel
theorem dX9_numberLabels_63 : decode cX9_numberLabels 63 = .ok (.getfield 157, 3) := by decide +kernel
theorem dX9_numberLabels_66 : decode cX9_numberLabels 66 = .ok (.iload_n 3, 1) := by decide +kernel
theorem dX9_numberLabels_67 : decode cX9_numberLabels 67 = .ok (.invokevirtual 108, 3) := by decide +kernel
theorem dX9_numberLabels_70 : decode cX9_numberLabels 70 = .ok (.aload_n 0, 1) := by decide +kernel
theorem dX9_numberLabels_71 : decode cX9_numberLabels 71 = .ok (.getfield 154, 3) := by decide +kernel
theorem dX9_numberLabels_74 : decode cX9_numberLabels 74 = .ok (.iastore, 1) := by decide +kernel
theorem dX9_numberLabels_75 : decode cX9_numberLabels 75 = .ok (.iinc 3 1, 3) := by decide +kernel
theorem dX9_numberLabels_78 : decode cX9_numberLabels 78 = .ok (.goto (-45), 3) := by decide +kernel
theorem dX9_numberLabels_81 : decode cX9_numberLabels 81 = .ok (.aload_n 1, 1) := by decide +kernel
theorem dX9_numberLabels_82 : decode cX9_numberLabels 82 = .ok (.bipush 40, 2) := by decide +kernel
theorem dX9_numberLabels_84 : decode cX9_numberLabels 84 = .ok (.invokevirtual 131, 3) := by decide +kernel
theorem dX9_numberLabels_87 : decode cX9_numberLabels 87 = .ok (.aload_n 1, 1) := by decide +kernel
theorem dX9_numberLabels_88 : decode cX9_numberLabels 88 = .ok (.bipush 32, 2) := by decide +kernel
theorem dX9_numberLabels_90 : decode cX9_numberLabels 90 = .ok (.invokevirtual 131, 3) := by decide +kernel
theorem dX9_numberLabels_93 : decode cX9_numberLabels 93 = .ok (.iconst 0, 1) := by decide +kernel
theorem dX9_numberLabels_94 : decode cX9_numberLabels 94 = .ok (.istore_n 3, 1) := by decide +kernel
theorem dX9_numberLabels_95 : decode cX9_numberLabels 95 = .ok (.iload_n 3, 1) := by decide +kernel
theorem dX9_numberLabels_96 : decode cX9_numberLabels 96 = .ok (.aload_n 0, 1) := by decide +kernel
theorem dX9_numberLabels_97 : decode cX9_numberLabels 97 = .ok (.getfield 59, 3) := by decide +kernel
theorem dX9_numberLabels_100 : decode cX9_numberLabels 100 = .ok (.if_icmp .ge 75, 3) := by decide +kernel
theorem dX9_numberLabels_103 : decode cX9_numberLabels 103 = .ok (.aload_n 0, 1) := by decide +kernel
theorem dX9_numberLabels_104 : decode cX9_numberLabels 104 = .ok (.getfield 42, 3) := by decide +kernel
theorem dX9_numberLabels_107 : decode cX9_numberLabels 107 = .ok (.aload_n 0, 1) := by decide +kernel
theorem dX9_numberLabels_108 : decode cX9_numberLabels 108 = .ok (.getfield 9, 3) := by decide +kernel
theorem dX9_numberLabels_111 : decode cX9_numberLabels 111 = .ok (.iload_n 3, 1) := by decide +kernel
theorem dX9_numberLabels_112 : decode cX9_numberLabels 112 = .ok (.iaload, 1) := by decide +kernel
theorem dX9_numberLabels_113 : decode cX9_numberLabels 113 = .ok (.iaload, 1) := by decide +kernel
theorem dX9_numberLabels_114 : decode cX9_numberLabels 114 = .ok (.ifCond .ne 55, 3) := by decide +kernel
theorem dX9_numberLabels_117 : decode cX9_numberLabels 117 = .ok (.aload_n 0, 1) := by decide +kernel
theorem dX9_numberLabels_118 : decode cX9_numberLabels 118 = .ok (.dup, 1) := by decide +kernel
theorem dX9_numberLabels_119 : decode cX9_numberLabels 119 = .ok (.getfield 154, 3) := by decide +kernel
theorem dX9_numberLabels_122 : decode cX9_numberLabels 122 = .ok (.iconst 1, 1) := by decide +kernel
theorem dX9_numberLabels_123 : decode cX9_numberLabels 123 = .ok (.iadd, 1) := by decide +kernel
theorem dX9_numberLabels_124 : decode cX9_numberLabels 124 = .ok (.putfield 154, 3) := by decide +kernel
theorem dX9_numberLabels_127 : decode cX9_numberLabels 127 = .ok (.aload_n 0, 1) := by decide +kernel
theorem dX9_numberLabels_128 : decode cX9_numberLabels 128 = .ok (.getfield 42, 3) := by decide +kernel
theorem dX9_numberLabels_131 : decode cX9_numberLabels 131 = .ok (.aload_n 0, 1) := by decide +kernel
theorem dX9_numberLabels_132 : decode cX9_numberLabels 132 = .ok (.getfield 9, 3) := by decide +kernel
theorem dX9_numberLabels_135 : decode cX9_numberLabels 135 = .ok (.iload_n 3, 1) := by decide +kernel
theorem dX9_numberLabels_136 : decode cX9_numberLabels 136 = .ok (.iaload, 1) := by decide +kernel
theorem dX9_numberLabels_137 : decode cX9_numberLabels 137 = .ok (.aload_n 0, 1) := by decide +kernel
theorem dX9_numberLabels_138 : decode cX9_numberLabels 138 = .ok (.getfield 154, 3) := by decide +kernel
theorem dX9_numberLabels_141 : decode cX9_numberLabels 141 = .ok (.iastore, 1) := by decide +kernel
theorem dX9_numberLabels_142 : decode cX9_numberLabels 142 = .ok (.aload_n 1, 1) := by decide +kernel
theorem dX9_numberLabels_143 : decode cX9_numberLabels 143 = .ok (.aload_n 0, 1) := by decide +kernel
theorem dX9_numberLabels_144 : decode cX9_numberLabels 144 = .ok (.getfield 51, 3) := by decide +kernel
theorem dX9_numberLabels_147 : decode cX9_numberLabels 147 = .ok (.getfield 136, 3) := by decide +kernel
theorem dX9_numberLabels_150 : decode cX9_numberLabels 150 = .ok (.sipush 300, 3) := by decide +kernel
theorem dX9_numberLabels_153 : decode cX9_numberLabels 153 = .ok (.aload_n 0, 1) := by decide +kernel
theorem dX9_numberLabels_154 : decode cX9_numberLabels 154 = .ok (.getfield 9, 3) := by decide +kernel
theorem dX9_numberLabels_157 : decode cX9_numberLabels 157 = .ok (.iload_n 3, 1) := by decide +kernel
theorem dX9_numberLabels_158 : decode cX9_numberLabels 158 = .ok (.iaload, 1) := by decide +kernel
theorem dX9_numberLabels_159 : decode cX9_numberLabels 159 = .ok (.iadd, 1) := by decide +kernel
theorem dX9_numberLabels_160 : decode cX9_numberLabels 160 = .ok (.invokevirtual 139, 3) := by decide +kernel
theorem dX9_numberLabels_163 : decode cX9_numberLabels 163 = .ok (.aload_n 1, 1) := by decide +kernel
theorem dX9_numberLabels_164 : decode cX9_numberLabels 164 = .ok (.bipush 32, 2) := by decide +kernel
theorem dX9_numberLabels_166 : decode cX9_numberLabels 166 = .ok (.invokevirtual 131, 3) := by decide +kernel
theorem dX9_numberLabels_169 : decode cX9_numberLabels 169 = .ok (.iinc 3 1, 3) := by decide +kernel
theorem dX9_numberLabels_172 : decode cX9_numberLabels 172 = .ok (.goto (-77), 3) := by decide +kernel
theorem dX9_numberLabels_175 : decode cX9_numberLabels 175 = .ok (.aload_n 1, 1) := by decide +kernel
theorem dX9_numberLabels_176 : decode cX9_numberLabels 176 = .ok (.bipush 41, 2) := by decide +kernel
theorem dX9_numberLabels_178 : decode cX9_numberLabels 178 = .ok (.invokevirtual 131, 3) := by decide +kernel
theorem dX9_numberLabels_181 : decode cX9_numberLabels 181 = .ok (.aload_n 1, 1) := by decide +kernel
theorem dX9_numberLabels_182 : decode cX9_numberLabels 182 = .ok (.bipush 32, 2) := by decide +kernel
theorem dX9_numberLabels_184 : decode cX9_numberLabels 184 = .ok (.invokevirtual 131, 3) := by decide +kernel
theorem dX9_numberLabels_187 : decode cX9_numberLabels 187 = .ok (.return_, 1) := by decide +kernel
theorem dX9_leave_0 : decode cX9_leave 0 = .ok (.aload_n 0, 1) := by decide +kernel
theorem dX9_leave_1 : decode cX9_leave 1 = .ok (.getfield 36, 3) := by decide +kernel
theorem dX9_leave_4 : decode cX9_leave 4 = .ok (.aload_n 0, 1) := by decide +kernel
theorem dX9_leave_5 : decode cX9_leave 5 = .ok (.getfield 121, 3) := by decide +kernel
theorem dX9_leave_8 : decode cX9_leave 8 = .ok (.iconst 1, 1) := by decide +kernel
theorem dX9_leave_9 : decode cX9_leave 9 = .ok (.isub, 1) := by decide +kernel
theorem dX9_leave_10 : decode cX9_leave 10 = .ok (.iaload, 1) := by decide +kernel
theorem dX9_leave_11 : decode cX9_leave 11 = .ok (.istore_n 2, 1) := by decide +kernel
theorem dX9_leave_12 : decode cX9_leave 12 = .ok (.aload_n 0, 1) := by decide +kernel
theorem dX9_leave_13 : decode cX9_leave 13 = .ok (.dup, 1) := by decide +kernel
theorem dX9_leave_14 : decode cX9_leave 14 = .ok (.getfield 121, 3) := by decide +kernel
theorem dX9_leave_17 : decode cX9_leave 17 = .ok (.iconst 1, 1) := by decide +kernel
theorem dX9_leave_18 : decode cX9_leave 18 = .ok (.isub, 1) := by decide +kernel
theorem dX9_leave_19 : decode cX9_leave 19 = .ok (.putfield 121, 3) := by decide +kernel
theorem dX9_leave_22 : decode cX9_leave 22 = .ok (.aload_n 0, 1) := by decide +kernel
theorem dX9_leave_23 : decode cX9_leave 23 = .ok (.aload_n 1, 1) := by decide +kernel
theorem dX9_leave_24 : decode cX9_leave 24 = .ok (.aload_n 0, 1) := by decide +kernel
theorem dX9_leave_25 : decode cX9_leave 25 = .ok (.getfield 42, 3) := by decide +kernel
theorem dX9_leave_28 : decode cX9_leave 28 = .ok (.aload_n 0, 1) := by decide +kernel
theorem dX9_leave_29 : decode cX9_leave 29 = .ok (.getfield 9, 3) := by decide +kernel
theorem dX9_leave_32 : decode cX9_leave 32 = .ok (.iload_n 2, 1) := by decide +kernel
theorem dX9_leave_33 : decode cX9_leave 33 = .ok (.iaload, 1) := by decide +kernel
theorem dX9_leave_34 : decode cX9_leave 34 = .ok (.iaload, 1) := by decide +kernel
theorem dX9_leave_35 : decode cX9_leave 35 = .ok (.invokevirtual 150, 3) := by decide +kernel
theorem dX9_leave_38 : decode cX9_leave 38 = .ok (.aload_n 0, 1) := by decide +kernel
theorem dX9_leave_39 : decode cX9_leave 39 = .ok (.getfield 20, 3) := by decide +kernel
theorem dX9_leave_42 : decode cX9_leave 42 = .ok (.iload_n 2, 1) := by decide +kernel
theorem dX9_leave_43 : decode cX9_leave 43 = .ok (.invokevirtual 85, 3) := by decide +kernel
theorem dX9_leave_46 : decode cX9_leave 46 = .ok (.ifCond .le 39, 3) := by decide +kernel
theorem dX9_leave_49 : decode cX9_leave 49 = .ok (.aload_n 0, 1) := by decide +kernel
theorem dX9_leave_50 : decode cX9_leave 50 = .ok (.getfield 24, 3) := by decide +kernel
theorem dX9_leave_53 : decode cX9_leave 53 = .ok (.iload_n 2, 1) := by decide +kernel
theorem dX9_leave_54 : decode cX9_leave 54 = .ok (.iaload, 1) := by decide +kernel
theorem dX9_leave_55 : decode cX9_leave 55 = .ok (.iconst 1, 1) := by decide +kernel
theorem dX9_leave_56 : decode cX9_leave 56 = .ok (.if_icmp .le 29, 3) := by decide +kernel
theorem dX9_leave_59 : decode cX9_leave 59 = .ok (.aload_n 1, 1) := by decide +kernel
theorem dX9_leave_60 : decode cX9_leave 60 = .ok (.bipush 90, 2) := by decide +kernel
theorem dX9_leave_62 : decode cX9_leave 62 = .ok (.invokevirtual 131, 3) := by decide +kernel
theorem dX9_leave_65 : decode cX9_leave 65 = .ok (.aload_n 0, 1) := by decide +kernel
theorem dX9_leave_66 : decode cX9_leave 66 = .ok (.dup, 1) := by decide +kernel
theorem dX9_leave_67 : decode cX9_leave 67 = .ok (.getfield 154, 3) := by decide +kernel
theorem dX9_leave_70 : decode cX9_leave 70 = .ok (.iconst 1, 1) := by decide +kernel
theorem dX9_leave_71 : decode cX9_leave 71 = .ok (.iadd, 1) := by decide +kernel
theorem dX9_leave_72 : decode cX9_leave 72 = .ok (.putfield 154, 3) := by decide +kernel
theorem dX9_leave_75 : decode cX9_leave 75 = .ok (.aload_n 0, 1) := by decide +kernel
theorem dX9_leave_76 : decode cX9_leave 76 = .ok (.getfield 45, 3) := by decide +kernel
theorem dX9_leave_79 : decode cX9_leave 79 = .ok (.iload_n 2, 1) := by decide +kernel
theorem dX9_leave_80 : decode cX9_leave 80 = .ok (.aload_n 0, 1) := by decide +kernel
theorem dX9_leave_81 : decode cX9_leave 81 = .ok (.getfield 154, 3) := by decide +kernel
theorem dX9_leave_84 : decode cX9_leave 84 = .ok (.iastore, 1) := by decide +kernel
theorem dX9_leave_85 : decode cX9_leave 85 = .ok (.return_, 1) := by decide +kernel
theorem dX9_putNumber_0 : decode cX9_putNumber 0 = .ok (.iconst 0, 1) := by decide +kernel
theorem dX9_putNumber_1 : decode cX9_putNumber 1 = .ok (.istore_n 3, 1) := by decide +kernel
theorem dX9_putNumber_2 : decode cX9_putNumber 2 = .ok (.iload_n 2, 1) := by decide +kernel
theorem dX9_putNumber_3 : decode cX9_putNumber 3 = .ok (.iconst 1, 1) := by decide +kernel
theorem dX9_putNumber_4 : decode cX9_putNumber 4 = .ok (.isub, 1) := by decide +kernel
theorem dX9_putNumber_5 : decode cX9_putNumber 5 = .ok (.bipush 20, 2) := by decide +kernel
theorem dX9_putNumber_7 : decode cX9_putNumber 7 = .ok (.idiv, 1) := by decide +kernel
theorem dX9_putNumber_8 : decode cX9_putNumber 8 = .ok (.istore 4, 2) := by decide +kernel
theorem dX9_putNumber_10 : decode cX9_putNumber 10 = .ok (.iload 4, 2) := by decide +kernel
theorem dX9_putNumber_12 : decode cX9_putNumber 12 = .ok (.ifCond .le 41, 3) := by decide +kernel
theorem dX9_putNumber_15 : decode cX9_putNumber 15 = .ok (.iload_n 3, 1) := by decide +kernel
theorem dX9_putNumber_16 : decode cX9_putNumber 16 = .ok (.aload_n 0, 1) := by decide +kernel
theorem dX9_putNumber_17 : decode cX9_putNumber 17 = .ok (.getfield 48, 3) := by decide +kernel
theorem dX9_putNumber_20 : decode cX9_putNumber 20 = .ok (.arraylength, 1) := by decide +kernel
theorem dX9_putNumber_21 : decode cX9_putNumber 21 = .ok (.if_icmp .ge 32, 3) := by decide +kernel
theorem dX9_putNumber_24 : decode cX9_putNumber 24 = .ok (.aload_n 0, 1) := by decide +kernel
theorem dX9_putNumber_25 : decode cX9_putNumber 25 = .ok (.getfield 48, 3) := by decide +kernel
theorem dX9_putNumber_28 : decode cX9_putNumber 28 = .ok (.iload_n 3, 1) := by decide +kernel
theorem dX9_putNumber_29 : decode cX9_putNumber 29 = .ok (.bipush 85, 2) := by decide +kernel
theorem dX9_putNumber_31 : decode cX9_putNumber 31 = .ok (.iload 4, 2) := by decide +kernel
theorem dX9_putNumber_33 : decode cX9_putNumber 33 = .ok (.iconst 1, 1) := by decide +kernel
theorem dX9_putNumber_34 : decode cX9_putNumber 34 = .ok (.isub, 1) := by decide +kernel
theorem dX9_putNumber_35 : decode cX9_putNumber 35 = .ok (.iconst 5, 1) := by decide +kernel
theorem dX9_putNumber_36 : decode cX9_putNumber 36 = .ok (.irem, 1) := by decide +kernel
theorem dX9_putNumber_37 : decode cX9_putNumber 37 = .ok (.iadd, 1) := by decide +kernel
theorem dX9_putNumber_38 : decode cX9_putNumber 38 = .ok (.iastore, 1) := by decide +kernel
theorem dX9_putNumber_39 : decode cX9_putNumber 39 = .ok (.iinc 3 1, 3) := by decide +kernel
theorem dX9_putNumber_42 : decode cX9_putNumber 42 = .ok (.iload 4, 2) := by decide +kernel
theorem dX9_putNumber_44 : decode cX9_putNumber 44 = .ok (.iconst 1, 1) := by decide +kernel
theorem dX9_putNumber_45 : decode cX9_putNumber 45 = .ok (.isub, 1) := by decide +kernel
theorem dX9_putNumber_46 : decode cX9_putNumber 46 = .ok (.iconst 5, 1) := by decide +kernel
theorem dX9_putNumber_47 : decode cX9_putNumber 47 = .ok (.idiv, 1) := by decide +kernel
theorem dX9_putNumber_48 : decode cX9_putNumber 48 = .ok (.istore 4, 2) := by decide +kernel
theorem dX9_putNumber_50 : decode cX9_putNumber 50 = .ok (.goto (-40), 3) := by decide +kernel
theorem dX9_putNumber_53 : decode cX9_putNumber 53 = .ok (.iload_n 3, 1) := by decide +kernel
theorem dX9_putNumber_54 : decode cX9_putNumber 54 = .ok (.iconst 1, 1) := by decide +kernel
theorem dX9_putNumber_55 : decode cX9_putNumber 55 = .ok (.isub, 1) := by decide +kernel
theorem dX9_putNumber_56 : decode cX9_putNumber 56 = .ok (.istore 5, 2) := by decide +kernel
theorem dX9_putNumber_58 : decode cX9_putNumber 58 = .ok (.iload 5, 2) := by decide +kernel
theorem dX9_putNumber_60 : decode cX9_putNumber 60 = .ok (.ifCond .lt 20, 3) := by decide +kernel
theorem dX9_putNumber_63 : decode cX9_putNumber 63 = .ok (.aload_n 1, 1) := by decide +kernel
theorem dX9_putNumber_64 : decode cX9_putNumber 64 = .ok (.aload_n 0, 1) := by decide +kernel
theorem dX9_putNumber_65 : decode cX9_putNumber 65 = .ok (.getfield 48, 3) := by decide +kernel
theorem dX9_putNumber_68 : decode cX9_putNumber 68 = .ok (.iload 5, 2) := by decide +kernel
theorem dX9_putNumber_70 : decode cX9_putNumber 70 = .ok (.iaload, 1) := by decide +kernel
theorem dX9_putNumber_71 : decode cX9_putNumber 71 = .ok (.invokevirtual 131, 3) := by decide +kernel
theorem dX9_putNumber_74 : decode cX9_putNumber 74 = .ok (.iinc 5 (-1), 3) := by decide +kernel
theorem dX9_putNumber_77 : decode cX9_putNumber 77 = .ok (.goto (-19), 3) := by decide +kernel
theorem dX9_putNumber_80 : decode cX9_putNumber 80 = .ok (.aload_n 1, 1) := by decide +kernel
theorem dX9_putNumber_81 : decode cX9_putNumber 81 = .ok (.bipush 65, 2) := by decide +kernel
theorem dX9_putNumber_83 : decode cX9_putNumber 83 = .ok (.iload_n 2, 1) := by decide +kernel
theorem dX9_putNumber_84 : decode cX9_putNumber 84 = .ok (.iconst 1, 1) := by decide +kernel
theorem dX9_putNumber_85 : decode cX9_putNumber 85 = .ok (.isub, 1) := by decide +kernel
theorem dX9_putNumber_86 : decode cX9_putNumber 86 = .ok (.bipush 20, 2) := by decide +kernel
theorem dX9_putNumber_88 : decode cX9_putNumber 88 = .ok (.irem, 1) := by decide +kernel
theorem dX9_putNumber_89 : decode cX9_putNumber 89 = .ok (.iadd, 1) := by decide +kernel
theorem dX9_putNumber_90 : decode cX9_putNumber 90 = .ok (.invokevirtual 131, 3) := by decide +kernel
theorem dX9_putNumber_93 : decode cX9_putNumber 93 = .ok (.return_, 1) := by decide +kernel
theorem dX10_init_0 : decode cX10_init 0 = .ok (.aload_n 0, 1) := by decide +kernel
theorem dX10_init_1 : decode cX10_init 1 = .ok (.invokespecial 3, 3) := by decide +kernel
theorem dX10_init_4 : decode cX10_init 4 = .ok (.aload_n 0, 1) := by decide +kernel
theorem dX10_init_5 : decode cX10_init 5 = .ok (.new 9, 3) := by decide +kernel
theorem dX10_init_8 : decode cX10_init 8 = .ok (.dup, 1) := by decide +kernel
theorem dX10_init_9 : decode cX10_init 9 = .ok (.invokespecial 11, 3) := by decide +kernel
theorem dX10_init_12 : decode cX10_init 12 = .ok (.putfield 12, 3) := by decide +kernel
theorem dX10_init_15 : decode cX10_init 15 = .ok (.aload_n 0, 1) := by decide +kernel
theorem dX10_init_16 : decode cX10_init 16 = .ok (.new 9, 3) := by decide +kernel
theorem dX10_init_19 : decode cX10_init 19 = .ok (.dup, 1) := by decide +kernel
theorem dX10_init_20 : decode cX10_init 20 = .ok (.invokespecial 11, 3) := by decide +kernel
theorem dX10_init_23 : decode cX10_init 23 = .ok (.putfield 16, 3) := by decide +kernel
theorem dX10_init_26 : decode cX10_init 26 = .ok (.aload_n 0, 1) := by decide +kernel
theorem dX10_init_27 : decode cX10_init 27 = .ok (.new 19, 3) := by decide +kernel
theorem dX10_init_30 : decode cX10_init 30 = .ok (.dup, 1) := by decide +kernel
theorem dX10_init_31 : decode cX10_init 31 = .ok (.aload_n 0, 1) := by decide +kernel
theorem dX10_init_32 : decode cX10_init 32 = .ok (.getfield 16, 3) := by decide +kernel
theorem dX10_init_35 : decode cX10_init 35 = .ok (.invokespecial 21, 3) := by decide +kernel
theorem dX10_init_38 : decode cX10_init 38 = .ok (.putfield 24, 3) := by decide +kernel
theorem dX10_init_41 : decode cX10_init 41 = .ok (.aload_n 0, 1) := by decide +kernel
theorem dX10_init_42 : decode cX10_init 42 = .ok (.new 28, 3) := by decide +kernel
theorem dX10_init_45 : decode cX10_init 45 = .ok (.dup, 1) := by decide +kernel
theorem dX10_init_46 : decode cX10_init 46 = .ok (.aload_n 0, 1) := by decide +kernel
theorem dX10_init_47 : decode cX10_init 47 = .ok (.getfield 12, 3) := by decide +kernel
theorem dX10_init_50 : decode cX10_init 50 = .ok (.invokespecial 30, 3) := by decide +kernel
theorem dX10_init_53 : decode cX10_init 53 = .ok (.putfield 31, 3) := by decide +kernel
theorem dX10_init_56 : decode cX10_init 56 = .ok (.aload_n 0, 1) := by decide +kernel
theorem dX10_init_57 : decode cX10_init 57 = .ok (.new 35, 3) := by decide +kernel
theorem dX10_init_60 : decode cX10_init 60 = .ok (.dup, 1) := by decide +kernel
theorem dX10_init_61 : decode cX10_init 61 = .ok (.aload_n 0, 1) := by decide +kernel
theorem dX10_init_62 : decode cX10_init 62 = .ok (.getfield 12, 3) := by decide +kernel
theorem dX10_init_65 : decode cX10_init 65 = .ok (.invokespecial 37, 3) := by decide +kernel
theorem dX10_init_68 : decode cX10_init 68 = .ok (.putfield 38, 3) := by decide +kernel
theorem dX10_init_71 : decode cX10_init 71 = .ok (.aload_n 0, 1) := by decide +kernel
theorem dX10_init_72 : decode cX10_init 72 = .ok (.new 35, 3) := by decide +kernel
theorem dX10_init_75 : decode cX10_init 75 = .ok (.dup, 1) := by decide +kernel
theorem dX10_init_76 : decode cX10_init 76 = .ok (.aload_n 0, 1) := by decide +kernel
theorem dX10_init_77 : decode cX10_init 77 = .ok (.getfield 12, 3) := by decide +kernel
theorem dX10_init_80 : decode cX10_init 80 = .ok (.invokespecial 37, 3) := by decide +kernel
theorem dX10_init_83 : decode cX10_init 83 = .ok (.putfield 42, 3) := by decide +kernel
theorem dX10_init_86 : decode cX10_init 86 = .ok (.aload_n 0, 1) := by decide +kernel
theorem dX10_init_87 : decode cX10_init 87 = .ok (.new 45, 3) := by decide +kernel
theorem dX10_init_90 : decode cX10_init 90 = .ok (.dup, 1) := by decide +kernel
theorem dX10_init_91 : decode cX10_init 91 = .ok (.aload_n 0, 1) := by decide +kernel
theorem dX10_init_92 : decode cX10_init 92 = .ok (.getfield 12, 3) := by decide +kernel
theorem dX10_init_95 : decode cX10_init 95 = .ok (.aload_n 0, 1) := by decide +kernel
theorem dX10_init_96 : decode cX10_init 96 = .ok (.getfield 31, 3) := by decide +kernel
theorem dX10_init_99 : decode cX10_init 99 = .ok (.invokespecial 47, 3) := by decide +kernel
theorem dX10_init_102 : decode cX10_init 102 = .ok (.putfield 50, 3) := by decide +kernel
theorem dX10_init_105 : decode cX10_init 105 = .ok (.aload_n 0, 1) := by decide +kernel
theorem dX10_init_106 : decode cX10_init 106 = .ok (.new 54, 3) := by decide +kernel
theorem dX10_init_109 : decode cX10_init 109 = .ok (.dup, 1) := by decide +kernel
theorem dX10_init_110 : decode cX10_init 110 = .ok (.invokespecial 56, 3) := by decide +kernel
theorem dX10_init_113 : decode cX10_init 113 = .ok (.putfield 57, 3) := by decide +kernel
theorem dX10_init_116 : decode cX10_init 116 = .ok (.aload_n 0, 1) := by decide +kernel
theorem dX10_init_117 : decode cX10_init 117 = .ok (.new 54, 3) := by decide +kernel
theorem dX10_init_120 : decode cX10_init 120 = .ok (.dup, 1) := by decide +kernel
theorem dX10_init_121 : decode cX10_init 121 = .ok (.invokespecial 56, 3) := by decide +kernel
theorem dX10_init_124 : decode cX10_init 124 = .ok (.putfield 61, 3) := by decide +kernel
theorem dX10_init_127 : decode cX10_init 127 = .ok (.return_, 1) := by decide +kernel
theorem dX10_feed_0 : decode cX10_feed 0 = .ok (.lload_n 1, 1) := by decide +kernel
theorem dX10_feed_1 : decode cX10_feed 1 = .ok (.invokestatic 64, 3) := by decide +kernel
theorem dX10_feed_4 : decode cX10_feed 4 = .ok (.lload_n 3, 1) := by decide +kernel
theorem dX10_feed_5 : decode cX10_feed 5 = .ok (.invokestatic 64, 3) := by decide +kernel
theorem dX10_feed_8 : decode cX10_feed 8 = .ok (.iadd, 1) := by decide +kernel
theorem dX10_feed_9 : decode cX10_feed 9 = .ok (.istore 5, 2) := by decide +kernel
theorem dX10_feed_11 : decode cX10_feed 11 = .ok (.aload_n 0, 1) := by decide +kernel
theorem dX10_feed_12 : decode cX10_feed 12 = .ok (.getfield 16, 3) := by decide +kernel
theorem dX10_feed_15 : decode cX10_feed 15 = .ok (.getfield 68, 3) := by decide +kernel
theorem dX10_feed_18 : decode cX10_feed 18 = .ok (.iload 5, 2) := by decide +kernel
theorem dX10_feed_20 : decode cX10_feed 20 = .ok (.iadd, 1) := by decide +kernel
theorem dX10_feed_21 : decode cX10_feed 21 = .ok (.sipush 8192, 3) := by decide +kernel
theorem dX10_feed_24 : decode cX10_feed 24 = .ok (.if_icmp .le 6, 3) := by decide +kernel
theorem dX10_feed_27 : decode cX10_feed 27 = .ok (.bipush (-3), 2) := by decide +kernel
theorem dX10_feed_29 : decode cX10_feed 29 = .ok (.ireturn, 1) := by decide +kernel
theorem dX10_feed_30 : decode cX10_feed 30 = .ok (.aload_n 0, 1) := by decide +kernel
theorem dX10_feed_31 : decode cX10_feed 31 = .ok (.lload_n 1, 1) := by decide +kernel
theorem dX10_feed_32 : decode cX10_feed 32 = .ok (.invokevirtual 72, 3) := by decide +kernel
theorem dX10_feed_35 : decode cX10_feed 35 = .ok (.aload_n 0, 1) := by decide +kernel
theorem dX10_feed_36 : decode cX10_feed 36 = .ok (.lload_n 3, 1) := by decide +kernel
theorem dX10_feed_37 : decode cX10_feed 37 = .ok (.invokevirtual 72, 3) := by decide +kernel
theorem dX10_feed_40 : decode cX10_feed 40 = .ok (.aload_n 0, 1) := by decide +kernel
theorem dX10_feed_41 : decode cX10_feed 41 = .ok (.getfield 16, 3) := by decide +kernel
theorem dX10_feed_44 : decode cX10_feed 44 = .ok (.getfield 68, 3) := by decide +kernel
theorem dX10_feed_47 : decode cX10_feed 47 = .ok (.ireturn, 1) := by decide +kernel
theorem dX10_bytesIn_0 : decode cX10_bytesIn 0 = .ok (.iconst 0, 1) := by decide +kernel
theorem dX10_bytesIn_1 : decode cX10_bytesIn 1 = .ok (.istore_n 2, 1) := by decide +kernel
theorem dX10_bytesIn_2 : decode cX10_bytesIn 2 = .ok (.bipush 56, 2) := by decide +kernel
theorem dX10_bytesIn_4 : decode cX10_bytesIn 4 = .ok (.istore_n 3, 1) := by decide +kernel
theorem dX10_bytesIn_5 : decode cX10_bytesIn 5 = .ok (.iload_n 3, 1) := by decide +kernel
theorem dX10_bytesIn_6 : decode cX10_bytesIn 6 = .ok (.ifCond .lt 24, 3) := by decide +kernel
theorem dX10_bytesIn_9 : decode cX10_bytesIn 9 = .ok (.lload_n 0, 1) := by decide +kernel
theorem dX10_bytesIn_10 : decode cX10_bytesIn 10 = .ok (.iload_n 3, 1) := by decide +kernel
theorem dX10_bytesIn_11 : decode cX10_bytesIn 11 = .ok (.lushr, 1) := by decide +kernel
theorem dX10_bytesIn_12 : decode cX10_bytesIn 12 = .ok (.ldc2_w 76, 3) := by decide +kernel
theorem dX10_bytesIn_15 : decode cX10_bytesIn 15 = .ok (.land, 1) := by decide +kernel
theorem dX10_bytesIn_16 : decode cX10_bytesIn 16 = .ok (.lconst 0, 1) := by decide +kernel
theorem dX10_bytesIn_17 : decode cX10_bytesIn 17 = .ok (.lcmp, 1) := by decide +kernel
theorem dX10_bytesIn_18 : decode cX10_bytesIn 18 = .ok (.ifCond .eq 6, 3) := by decide +kernel
theorem dX10_bytesIn_21 : decode cX10_bytesIn 21 = .ok (.iinc 2 1, 3) := by decide +kernel
theorem dX10_bytesIn_24 : decode cX10_bytesIn 24 = .ok (.iinc 3 (-8), 3) := by decide +kernel
theorem dX10_bytesIn_27 : decode cX10_bytesIn 27 = .ok (.goto (-22), 3) := by decide +kernel
theorem dX10_bytesIn_30 : decode cX10_bytesIn 30 = .ok (.iload_n 2, 1) := by decide +kernel
theorem dX10_bytesIn_31 : decode cX10_bytesIn 31 = .ok (.ireturn, 1) := by decide +kernel
theorem dX10_append_0 : decode cX10_append 0 = .ok (.bipush 56, 2) := by decide +kernel
theorem dX10_append_2 : decode cX10_append 2 = .ok (.istore_n 3, 1) := by decide +kernel
theorem dX10_append_3 : decode cX10_append 3 = .ok (.iload_n 3, 1) := by decide +kernel
theorem dX10_append_4 : decode cX10_append 4 = .ok (.ifCond .lt 68, 3) := by decide +kernel
theorem dX10_append_7 : decode cX10_append 7 = .ok (.lload_n 1, 1) := by decide +kernel
theorem dX10_append_8 : decode cX10_append 8 = .ok (.iload_n 3, 1) := by decide +kernel
theorem dX10_append_9 : decode cX10_append 9 = .ok (.lushr, 1) := by decide +kernel
theorem dX10_append_10 : decode cX10_append 10 = .ok (.ldc2_w 76, 3) := by decide +kernel
theorem dX10_append_13 : decode cX10_append 13 = .ok (.land, 1) := by decide +kernel
theorem dX10_append_14 : decode cX10_append 14 = .ok (.l2i, 1) := by decide +kernel
theorem dX10_append_15 : decode cX10_append 15 = .ok (.istore 4, 2) := by decide +kernel
theorem dX10_append_17 : decode cX10_append 17 = .ok (.iload 4, 2) := by decide +kernel
theorem dX10_append_19 : decode cX10_append 19 = .ok (.ifCond .eq 47, 3) := by decide +kernel
theorem dX10_append_22 : decode cX10_append 22 = .ok (.aload_n 0, 1) := by decide +kernel
theorem dX10_append_23 : decode cX10_append 23 = .ok (.getfield 16, 3) := by decide +kernel
theorem dX10_append_26 : decode cX10_append 26 = .ok (.getfield 68, 3) := by decide +kernel
theorem dX10_append_29 : decode cX10_append 29 = .ok (.sipush 8192, 3) := by decide +kernel
theorem dX10_append_32 : decode cX10_append 32 = .ok (.if_icmp .ge 34, 3) := by decide +kernel
theorem dX10_append_35 : decode cX10_append 35 = .ok (.aload_n 0, 1) := by decide +kernel
theorem dX10_append_36 : decode cX10_append 36 = .ok (.getfield 16, 3) := by decide +kernel
theorem dX10_append_39 : decode cX10_append 39 = .ok (.getfield 78, 3) := by decide +kernel
theorem dX10_append_42 : decode cX10_append 42 = .ok (.aload_n 0, 1) := by decide +kernel
theorem dX10_append_43 : decode cX10_append 43 = .ok (.getfield 16, 3) := by decide +kernel
theorem dX10_append_46 : decode cX10_append 46 = .ok (.getfield 68, 3) := by decide +kernel
theorem dX10_append_49 : decode cX10_append 49 = .ok (.iload 4, 2) := by decide +kernel
theorem dX10_append_51 : decode cX10_append 51 = .ok (.i2b, 1) := by decide +kernel
theorem dX10_append_52 : decode cX10_append 52 = .ok (.bastore, 1) := by decide +kernel
theorem dX10_append_53 : decode cX10_append 53 = .ok (.aload_n 0, 1) := by decide +kernel
theorem dX10_append_54 : decode cX10_append 54 = .ok (.getfield 16, 3) := by decide +kernel
theorem dX10_append_57 : decode cX10_append 57 = .ok (.dup, 1) := by decide +kernel
theorem dX10_append_58 : decode cX10_append 58 = .ok (.getfield 68, 3) := by decide +kernel
theorem dX10_append_61 : decode cX10_append 61 = .ok (.iconst 1, 1) := by decide +kernel
theorem dX10_append_62 : decode cX10_append 62 = .ok (.iadd, 1) := by decide +kernel
theorem dX10_append_63 : decode cX10_append 63 = .ok (.putfield 68, 3) := by decide +kernel
theorem dX10_append_66 : decode cX10_append 66 = .ok (.iinc 3 (-8), 3) := by decide +kernel
theorem dX10_append_69 : decode cX10_append 69 = .ok (.goto (-66), 3) := by decide +kernel
theorem dX10_append_72 : decode cX10_append 72 = .ok (.return_, 1) := by decide +kernel
theorem dX10_read_0 : decode cX10_read 0 = .ok (.aload_n 0, 1) := by decide +kernel
theorem dX10_read_1 : decode cX10_read 1 = .ok (.invokevirtual 82, 3) := by decide +kernel
theorem dX10_read_4 : decode cX10_read 4 = .ok (.aload_n 0, 1) := by decide +kernel
theorem dX10_read_5 : decode cX10_read 5 = .ok (.getfield 24, 3) := by decide +kernel
theorem dX10_read_8 : decode cX10_read 8 = .ok (.aload_n 0, 1) := by decide +kernel
theorem dX10_read_9 : decode cX10_read 9 = .ok (.getfield 16, 3) := by decide +kernel
theorem dX10_read_12 : decode cX10_read 12 = .ok (.invokevirtual 85, 3) := by decide +kernel
theorem dX10_read_15 : decode cX10_read 15 = .ok (.istore_n 1, 1) := by decide +kernel
theorem dX10_read_16 : decode cX10_read 16 = .ok (.aload_n 0, 1) := by decide +kernel
theorem dX10_read_17 : decode cX10_read 17 = .ok (.aload_n 0, 1) := by decide +kernel
theorem dX10_read_18 : decode cX10_read 18 = .ok (.getfield 24, 3) := by decide +kernel
theorem dX10_read_21 : decode cX10_read 21 = .ok (.getfield 89, 3) := by decide +kernel
theorem dX10_read_24 : decode cX10_read 24 = .ok (.putfield 92, 3) := by decide +kernel
theorem dX10_read_27 : decode cX10_read 27 = .ok (.iload_n 1, 1) := by decide +kernel
theorem dX10_read_28 : decode cX10_read 28 = .ok (.ifCond .ne 21, 3) := by decide +kernel
theorem dX10_read_31 : decode cX10_read 31 = .ok (.aload_n 0, 1) := by decide +kernel
theorem dX10_read_32 : decode cX10_read 32 = .ok (.getfield 12, 3) := by decide +kernel
theorem dX10_read_35 : decode cX10_read 35 = .ok (.astore_n 2, 1) := by decide +kernel
theorem dX10_read_36 : decode cX10_read 36 = .ok (.aload_n 0, 1) := by decide +kernel
theorem dX10_read_37 : decode cX10_read 37 = .ok (.aload_n 0, 1) := by decide +kernel
theorem dX10_read_38 : decode cX10_read 38 = .ok (.getfield 16, 3) := by decide +kernel
theorem dX10_read_41 : decode cX10_read 41 = .ok (.putfield 12, 3) := by decide +kernel
theorem dX10_read_44 : decode cX10_read 44 = .ok (.aload_n 0, 1) := by decide +kernel
theorem dX10_read_45 : decode cX10_read 45 = .ok (.aload_n 2, 1) := by decide +kernel
theorem dX10_read_46 : decode cX10_read 46 = .ok (.putfield 16, 3) := by decide +kernel
theorem dX10_read_49 : decode cX10_read 49 = .ok (.aload_n 0, 1) := by decide +kernel
theorem dX10_read_50 : decode cX10_read 50 = .ok (.getfield 16, 3) := by decide +kernel
theorem dX10_read_53 : decode cX10_read 53 = .ok (.iconst 0, 1) := by decide +kernel
theorem dX10_read_54 : decode cX10_read 54 = .ok (.putfield 68, 3) := by decide +kernel
theorem dX10_read_57 : decode cX10_read 57 = .ok (.iload_n 1, 1) := by decide +kernel
theorem dX10_read_58 : decode cX10_read 58 = .ok (.ifCond .ne 13, 3) := by decide +kernel
theorem dX10_read_61 : decode cX10_read 61 = .ok (.aload_n 0, 1) := by decide +kernel
theorem dX10_read_62 : decode cX10_read 62 = .ok (.getfield 12, 3) := by decide +kernel
theorem dX10_read_65 : decode cX10_read 65 = .ok (.getfield 95, 3) := by decide +kernel
theorem dX10_read_68 : decode cX10_read 68 = .ok (.goto 5, 3) := by decide +kernel
theorem dX10_read_71 : decode cX10_read 71 = .ok (.iload_n 1, 1) := by decide +kernel
theorem dX10_read_72 : decode cX10_read 72 = .ok (.ineg, 1) := by decide +kernel
theorem dX10_read_73 : decode cX10_read 73 = .ok (.ireturn, 1) := by decide +kernel
theorem dX10_forgetAnswers_0 : decode cX10_forgetAnswers 0 = .ok (.aload_n 0, 1) := by decide +kernel
theorem dX10_forgetAnswers_1 : decode cX10_forgetAnswers 1 = .ok (.iconst 0, 1) := by decide +kernel
theorem dX10_forgetAnswers_2 : decode cX10_forgetAnswers 2 = .ok (.putfield 98, 3) := by decide +kernel
theorem dX10_forgetAnswers_5 : decode cX10_forgetAnswers 5 = .ok (.aload_n 0, 1) := by decide +kernel
theorem dX10_forgetAnswers_6 : decode cX10_forgetAnswers 6 = .ok (.getfield 42, 3) := by decide +kernel
theorem dX10_forgetAnswers_9 : decode cX10_forgetAnswers 9 = .ok (.getfield 101, 3) := by decide +kernel
theorem dX10_forgetAnswers_12 : decode cX10_forgetAnswers 12 = .ok (.invokevirtual 105, 3) := by decide +kernel
theorem dX10_forgetAnswers_15 : decode cX10_forgetAnswers 15 = .ok (.aload_n 0, 1) := by decide +kernel
theorem dX10_forgetAnswers_16 : decode cX10_forgetAnswers 16 = .ok (.getfield 57, 3) := by decide +kernel
theorem dX10_forgetAnswers_19 : decode cX10_forgetAnswers 19 = .ok (.iconst 0, 1) := by decide +kernel
theorem dX10_forgetAnswers_20 : decode cX10_forgetAnswers 20 = .ok (.putfield 110, 3) := by decide +kernel
theorem dX10_forgetAnswers_23 : decode cX10_forgetAnswers 23 = .ok (.return_, 1) := by decide +kernel
theorem dX10_place_0 : decode cX10_place 0 = .ok (.aload_n 0, 1) := by decide +kernel
theorem dX10_place_1 : decode cX10_place 1 = .ok (.getfield 92, 3) := by decide +kernel
theorem dX10_place_4 : decode cX10_place 4 = .ok (.ireturn, 1) := by decide +kernel
theorem dX10_count_0 : decode cX10_count 0 = .ok (.iload_n 1, 1) := by decide +kernel
theorem dX10_count_1 : decode cX10_count 1 = .ok (.tableswitch 78 0 4 #[35, 43, 51, 59, 67], 35) := by decide +kernel
theorem dX10_count_36 : decode cX10_count 36 = .ok (.aload_n 0, 1) := by decide +kernel
theorem dX10_count_37 : decode cX10_count 37 = .ok (.getfield 12, 3) := by decide +kernel
theorem dX10_count_40 : decode cX10_count 40 = .ok (.getfield 111, 3) := by decide +kernel
theorem dX10_count_43 : decode cX10_count 43 = .ok (.ireturn, 1) := by decide +kernel
theorem dX10_count_44 : decode cX10_count 44 = .ok (.aload_n 0, 1) := by decide +kernel
theorem dX10_count_45 : decode cX10_count 45 = .ok (.getfield 12, 3) := by decide +kernel
theorem dX10_count_48 : decode cX10_count 48 = .ok (.getfield 95, 3) := by decide +kernel
theorem dX10_count_51 : decode cX10_count 51 = .ok (.ireturn, 1) := by decide +kernel
theorem dX10_count_52 : decode cX10_count 52 = .ok (.aload_n 0, 1) := by decide +kernel
theorem dX10_count_53 : decode cX10_count 53 = .ok (.getfield 16, 3) := by decide +kernel
theorem dX10_count_56 : decode cX10_count 56 = .ok (.getfield 68, 3) := by decide +kernel
theorem dX10_count_59 : decode cX10_count 59 = .ok (.ireturn, 1) := by decide +kernel
theorem dX10_count_60 : decode cX10_count 60 = .ok (.aload_n 0, 1) := by decide +kernel
theorem dX10_count_61 : decode cX10_count 61 = .ok (.getfield 57, 3) := by decide +kernel
theorem dX10_count_64 : decode cX10_count 64 = .ok (.getfield 110, 3) := by decide +kernel
theorem dX10_count_67 : decode cX10_count 67 = .ok (.ireturn, 1) := by decide +kernel
theorem dX10_count_68 : decode cX10_count 68 = .ok (.aload_n 0, 1) := by decide +kernel
theorem dX10_count_69 : decode cX10_count 69 = .ok (.getfield 42, 3) := by decide +kernel
theorem dX10_count_72 : decode cX10_count 72 = .ok (.getfield 101, 3) := by decide +kernel
theorem dX10_count_75 : decode cX10_count 75 = .ok (.getfield 114, 3) := by decide +kernel
theorem dX10_count_78 : decode cX10_count 78 = .ok (.ireturn, 1) := by decide +kernel
theorem dX10_count_79 : decode cX10_count 79 = .ok (.iconst (-1), 1) := by decide +kernel
theorem dX10_count_80 : decode cX10_count 80 = .ok (.ireturn, 1) := by decide +kernel
theorem dX10_statement_0 : decode cX10_statement 0 = .ok (.aload_n 0, 1) := by decide +kernel
theorem dX10_statement_1 : decode cX10_statement 1 = .ok (.getfield 12, 3) := by decide +kernel
theorem dX10_statement_4 : decode cX10_statement 4 = .ok (.iload_n 1, 1) := by decide +kernel
theorem dX10_statement_5 : decode cX10_statement 5 = .ok (.invokevirtual 117, 3) := by decide +kernel
theorem dX10_statement_8 : decode cX10_statement 8 = .ok (.ifCond .ne 5, 3) := by decide +kernel
theorem dX10_statement_11 : decode cX10_statement 11 = .ok (.iconst (-1), 1) := by decide +kernel
theorem dX10_statement_12 : decode cX10_statement 12 = .ok (.ireturn, 1) := by decide +kernel
theorem dX10_statement_13 : decode cX10_statement 13 = .ok (.iload_n 2, 1) := by decide +kernel
theorem dX10_statement_14 : decode cX10_statement 14 = .ok (.tableswitch 106 0 5 #[38, 48, 60, 70, 82, 94], 38) := by decide +kernel
theorem dX10_statement_52 : decode cX10_statement 52 = .ok (.aload_n 0, 1) := by decide +kernel
theorem dX10_statement_53 : decode cX10_statement 53 = .ok (.getfield 12, 3) := by decide +kernel
theorem dX10_statement_56 : decode cX10_statement 56 = .ok (.getfield 121, 3) := by decide +kernel
theorem dX10_statement_59 : decode cX10_statement 59 = .ok (.iload_n 1, 1) := by decide +kernel
theorem dX10_statement_60 : decode cX10_statement 60 = .ok (.iaload, 1) := by decide +kernel
theorem dX10_statement_61 : decode cX10_statement 61 = .ok (.ireturn, 1) := by decide +kernel
theorem dX10_statement_62 : decode cX10_statement 62 = .ok (.aload_n 0, 1) := by decide +kernel
theorem dX10_statement_63 : decode cX10_statement 63 = .ok (.getfield 12, 3) := by decide +kernel
theorem dX10_statement_66 : decode cX10_statement 66 = .ok (.getfield 125, 3) := by decide +kernel
theorem dX10_statement_69 : decode cX10_statement 69 = .ok (.iload_n 1, 1) := by decide +kernel
theorem dX10_statement_70 : decode cX10_statement 70 = .ok (.invokevirtual 128, 3) := by decide +kernel
theorem dX10_statement_73 : decode cX10_statement 73 = .ok (.ireturn, 1) := by decide +kernel
theorem dX10_statement_74 : decode cX10_statement 74 = .ok (.aload_n 0, 1) := by decide +kernel
theorem dX10_statement_75 : decode cX10_statement 75 = .ok (.getfield 12, 3) := by decide +kernel
theorem dX10_statement_78 : decode cX10_statement 78 = .ok (.getfield 132, 3) := by decide +kernel
theorem dX10_statement_81 : decode cX10_statement 81 = .ok (.iload_n 1, 1) := by decide +kernel
theorem dX10_statement_82 : decode cX10_statement 82 = .ok (.iaload, 1) := by decide +kernel
theorem dX10_statement_83 : decode cX10_statement 83 = .ok (.ireturn, 1) := by decide +kernel
theorem dX10_statement_84 : decode cX10_statement 84 = .ok (.aload_n 0, 1) := by decide +kernel
theorem dX10_statement_85 : decode cX10_statement 85 = .ok (.getfield 12, 3) := by decide +kernel
theorem dX10_statement_88 : decode cX10_statement 88 = .ok (.getfield 135, 3) := by decide +kernel
theorem dX10_statement_91 : decode cX10_statement 91 = .ok (.iload_n 1, 1) := by decide +kernel
theorem dX10_statement_92 : decode cX10_statement 92 = .ok (.invokevirtual 128, 3) := by decide +kernel
theorem dX10_statement_95 : decode cX10_statement 95 = .ok (.ireturn, 1) := by decide +kernel
theorem dX10_statement_96 : decode cX10_statement 96 = .ok (.aload_n 0, 1) := by decide +kernel
theorem dX10_statement_97 : decode cX10_statement 97 = .ok (.getfield 12, 3) := by decide +kernel
theorem dX10_statement_100 : decode cX10_statement 100 = .ok (.getfield 138, 3) := by decide +kernel
theorem dX10_statement_103 : decode cX10_statement 103 = .ok (.iload_n 1, 1) := by decide +kernel
theorem dX10_statement_104 : decode cX10_statement 104 = .ok (.invokevirtual 128, 3) := by decide +kernel
theorem dX10_statement_107 : decode cX10_statement 107 = .ok (.ireturn, 1) := by decide +kernel
theorem dX10_statement_108 : decode cX10_statement 108 = .ok (.aload_n 0, 1) := by decide +kernel
theorem dX10_statement_109 : decode cX10_statement 109 = .ok (.getfield 12, 3) := by decide +kernel
theorem dX10_statement_112 : decode cX10_statement 112 = .ok (.getfield 141, 3) := by decide +kernel
theorem dX10_statement_115 : decode cX10_statement 115 = .ok (.iload_n 1, 1) := by decide +kernel
theorem dX10_statement_116 : decode cX10_statement 116 = .ok (.invokevirtual 128, 3) := by decide +kernel
theorem dX10_statement_119 : decode cX10_statement 119 = .ok (.ireturn, 1) := by decide +kernel
theorem dX10_statement_120 : decode cX10_statement 120 = .ok (.iconst (-1), 1) := by decide +kernel
theorem dX10_statement_121 : decode cX10_statement 121 = .ok (.ireturn, 1) := by decide +kernel
theorem dX10_symbol_0 : decode cX10_symbol 0 = .ok (.aload_n 0, 1) := by decide +kernel
theorem dX10_symbol_1 : decode cX10_symbol 1 = .ok (.getfield 12, 3) := by decide +kernel
theorem dX10_symbol_4 : decode cX10_symbol 4 = .ok (.iload_n 1, 1) := by decide +kernel
theorem dX10_symbol_5 : decode cX10_symbol 5 = .ok (.invokevirtual 117, 3) := by decide +kernel
theorem dX10_symbol_8 : decode cX10_symbol 8 = .ok (.ifCond .eq 18, 3) := by decide +kernel
theorem dX10_symbol_11 : decode cX10_symbol 11 = .ok (.aload_n 0, 1) := by decide +kernel
theorem dX10_symbol_12 : decode cX10_symbol 12 = .ok (.getfield 12, 3) := by decide +kernel
theorem dX10_symbol_15 : decode cX10_symbol 15 = .ok (.getfield 125, 3) := by decide +kernel
theorem dX10_symbol_18 : decode cX10_symbol 18 = .ok (.iload_n 1, 1) := by decide +kernel
theorem dX10_symbol_19 : decode cX10_symbol 19 = .ok (.iload_n 2, 1) := by decide +kernel
theorem dX10_symbol_20 : decode cX10_symbol 20 = .ok (.invokevirtual 144, 3) := by decide +kernel
theorem dX10_symbol_23 : decode cX10_symbol 23 = .ok (.goto 4, 3) := by decide +kernel
theorem dX10_symbol_26 : decode cX10_symbol 26 = .ok (.iconst (-1), 1) := by decide +kernel
theorem dX10_symbol_27 : decode cX10_symbol 27 = .ok (.ireturn, 1) := by decide +kernel
theorem dX10_name_0 : decode cX10_name 0 = .ok (.iload_n 1, 1) := by decide +kernel
theorem dX10_name_1 : decode cX10_name 1 = .ok (.ifCond .ne 31, 3) := by decide +kernel
theorem dX10_name_4 : decode cX10_name 4 = .ok (.iload_n 2, 1) := by decide +kernel
theorem dX10_name_5 : decode cX10_name 5 = .ok (.ifCond .lt 27, 3) := by decide +kernel
theorem dX10_name_8 : decode cX10_name 8 = .ok (.iload_n 2, 1) := by decide +kernel
theorem dX10_name_9 : decode cX10_name 9 = .ok (.aload_n 0, 1) := by decide +kernel
theorem dX10_name_10 : decode cX10_name 10 = .ok (.getfield 12, 3) := by decide +kernel
theorem dX10_name_13 : decode cX10_name 13 = .ok (.getfield 111, 3) := by decide +kernel
theorem dX10_name_16 : decode cX10_name 16 = .ok (.if_icmp .ge 16, 3) := by decide +kernel
theorem dX10_name_19 : decode cX10_name 19 = .ok (.aload_n 0, 1) := by decide +kernel
theorem dX10_name_20 : decode cX10_name 20 = .ok (.getfield 12, 3) := by decide +kernel
theorem dX10_name_23 : decode cX10_name 23 = .ok (.getfield 148, 3) := by decide +kernel
theorem dX10_name_26 : decode cX10_name 26 = .ok (.iload_n 2, 1) := by decide +kernel
theorem dX10_name_27 : decode cX10_name 27 = .ok (.iload_n 3, 1) := by decide +kernel
theorem dX10_name_28 : decode cX10_name 28 = .ok (.invokevirtual 152, 3) := by decide +kernel
theorem dX10_name_31 : decode cX10_name 31 = .ok (.ireturn, 1) := by decide +kernel
theorem dX10_name_32 : decode cX10_name 32 = .ok (.iload_n 1, 1) := by decide +kernel
theorem dX10_name_33 : decode cX10_name 33 = .ok (.iconst 1, 1) := by decide +kernel
theorem dX10_name_34 : decode cX10_name 34 = .ok (.if_icmp .ne 31, 3) := by decide +kernel
theorem dX10_name_37 : decode cX10_name 37 = .ok (.aload_n 0, 1) := by decide +kernel
theorem dX10_name_38 : decode cX10_name 38 = .ok (.getfield 12, 3) := by decide +kernel
theorem dX10_name_41 : decode cX10_name 41 = .ok (.iload_n 2, 1) := by decide +kernel
theorem dX10_name_42 : decode cX10_name 42 = .ok (.invokevirtual 117, 3) := by decide +kernel
theorem dX10_name_45 : decode cX10_name 45 = .ok (.ifCond .eq 20, 3) := by decide +kernel
theorem dX10_name_48 : decode cX10_name 48 = .ok (.aload_n 0, 1) := by decide +kernel
theorem dX10_name_49 : decode cX10_name 49 = .ok (.getfield 12, 3) := by decide +kernel
theorem dX10_name_52 : decode cX10_name 52 = .ok (.getfield 148, 3) := by decide +kernel
theorem dX10_name_55 : decode cX10_name 55 = .ok (.sipush 300, 3) := by decide +kernel
theorem dX10_name_58 : decode cX10_name 58 = .ok (.iload_n 2, 1) := by decide +kernel
theorem dX10_name_59 : decode cX10_name 59 = .ok (.iadd, 1) := by decide +kernel
theorem dX10_name_60 : decode cX10_name 60 = .ok (.iload_n 3, 1) := by decide +kernel
theorem dX10_name_61 : decode cX10_name 61 = .ok (.invokevirtual 152, 3) := by decide +kernel
theorem dX10_name_64 : decode cX10_name 64 = .ok (.ireturn, 1) := by decide +kernel
theorem dX10_name_65 : decode cX10_name 65 = .ok (.iconst (-1), 1) := by decide +kernel
theorem dX10_name_66 : decode cX10_name 66 = .ok (.ireturn, 1) := by decide +kernel
theorem dX10_frame_0 : decode cX10_frame 0 = .ok (.aload_n 0, 1) := by decide +kernel
theorem dX10_frame_1 : decode cX10_frame 1 = .ok (.getfield 12, 3) := by decide +kernel
theorem dX10_frame_4 : decode cX10_frame 4 = .ok (.iload_n 1, 1) := by decide +kernel
theorem dX10_frame_5 : decode cX10_frame 5 = .ok (.invokevirtual 157, 3) := by decide +kernel
theorem dX10_frame_8 : decode cX10_frame 8 = .ok (.ifCond .eq 12, 3) := by decide +kernel
theorem dX10_frame_11 : decode cX10_frame 11 = .ok (.iload_n 2, 1) := by decide +kernel
theorem dX10_frame_12 : decode cX10_frame 12 = .ok (.ifCond .lt 8, 3) := by decide +kernel
theorem dX10_frame_15 : decode cX10_frame 15 = .ok (.iload_n 2, 1) := by decide +kernel
theorem dX10_frame_16 : decode cX10_frame 16 = .ok (.iconst 2, 1) := by decide +kernel
theorem dX10_frame_17 : decode cX10_frame 17 = .ok (.if_icmp .le 5, 3) := by decide +kernel
theorem dX10_frame_20 : decode cX10_frame 20 = .ok (.iconst (-1), 1) := by decide +kernel
theorem dX10_frame_21 : decode cX10_frame 21 = .ok (.ireturn, 1) := by decide +kernel
theorem dX10_frame_22 : decode cX10_frame 22 = .ok (.iload_n 2, 1) := by decide +kernel
theorem dX10_frame_23 : decode cX10_frame 23 = .ok (.ifCond .ne 13, 3) := by decide +kernel
theorem dX10_frame_26 : decode cX10_frame 26 = .ok (.aload_n 0, 1) := by decide +kernel
theorem dX10_frame_27 : decode cX10_frame 27 = .ok (.getfield 12, 3) := by decide +kernel
theorem dX10_frame_30 : decode cX10_frame 30 = .ok (.getfield 135, 3) := by decide +kernel
theorem dX10_frame_33 : decode cX10_frame 33 = .ok (.goto 10, 3) := by decide +kernel
theorem dX10_frame_36 : decode cX10_frame 36 = .ok (.aload_n 0, 1) := by decide +kernel
theorem dX10_frame_37 : decode cX10_frame 37 = .ok (.getfield 12, 3) := by decide +kernel
theorem dX10_frame_40 : decode cX10_frame 40 = .ok (.getfield 138, 3) := by decide +kernel
theorem dX10_frame_43 : decode cX10_frame 43 = .ok (.astore 4, 2) := by decide +kernel
theorem dX10_frame_45 : decode cX10_frame 45 = .ok (.iload_n 3, 1) := by decide +kernel
theorem dX10_frame_46 : decode cX10_frame 46 = .ok (.ifCond .lt 13, 3) := by decide +kernel
theorem dX10_frame_49 : decode cX10_frame 49 = .ok (.iload_n 3, 1) := by decide +kernel
theorem dX10_frame_50 : decode cX10_frame 50 = .ok (.aload 4, 2) := by decide +kernel
theorem dX10_frame_52 : decode cX10_frame 52 = .ok (.iload_n 1, 1) := by decide +kernel
theorem dX10_frame_53 : decode cX10_frame 53 = .ok (.invokevirtual 128, 3) := by decide +kernel
theorem dX10_frame_56 : decode cX10_frame 56 = .ok (.if_icmp .lt 6, 3) := by decide +kernel
theorem dX10_frame_59 : decode cX10_frame 59 = .ok (.bipush (-2), 2) := by decide +kernel
theorem dX10_frame_61 : decode cX10_frame 61 = .ok (.ireturn, 1) := by decide +kernel
theorem dX10_frame_62 : decode cX10_frame 62 = .ok (.aload 4, 2) := by decide +kernel
theorem dX10_frame_64 : decode cX10_frame 64 = .ok (.iload_n 1, 1) := by decide +kernel
theorem dX10_frame_65 : decode cX10_frame 65 = .ok (.iload_n 3, 1) := by decide +kernel
theorem dX10_frame_66 : decode cX10_frame 66 = .ok (.invokevirtual 144, 3) := by decide +kernel
theorem dX10_frame_69 : decode cX10_frame 69 = .ok (.istore 5, 2) := by decide +kernel
theorem dX10_frame_71 : decode cX10_frame 71 = .ok (.iload_n 2, 1) := by decide +kernel
theorem dX10_frame_72 : decode cX10_frame 72 = .ok (.ifCond .ne 6, 3) := by decide +kernel
theorem dX10_frame_75 : decode cX10_frame 75 = .ok (.iload 5, 2) := by decide +kernel
theorem dX10_frame_77 : decode cX10_frame 77 = .ok (.ireturn, 1) := by decide +kernel
theorem dX10_frame_78 : decode cX10_frame 78 = .ok (.iload_n 2, 1) := by decide +kernel
theorem dX10_frame_79 : decode cX10_frame 79 = .ok (.iconst 1, 1) := by decide +kernel
theorem dX10_frame_80 : decode cX10_frame 80 = .ok (.if_icmp .ne 12, 3) := by decide +kernel
theorem dX10_frame_83 : decode cX10_frame 83 = .ok (.iload 5, 2) := by decide +kernel
theorem dX10_frame_85 : decode cX10_frame 85 = .ok (.sipush 300, 3) := by decide +kernel
theorem dX10_frame_88 : decode cX10_frame 88 = .ok (.idiv, 1) := by decide +kernel
theorem dX10_frame_89 : decode cX10_frame 89 = .ok (.goto 9, 3) := by decide +kernel
theorem dX10_frame_92 : decode cX10_frame 92 = .ok (.iload 5, 2) := by decide +kernel
theorem dX10_frame_94 : decode cX10_frame 94 = .ok (.sipush 300, 3) := by decide +kernel
theorem dX10_frame_97 : decode cX10_frame 97 = .ok (.irem, 1) := by decide +kernel
theorem dX10_frame_98 : decode cX10_frame 98 = .ok (.ireturn, 1) := by decide +kernel
theorem dX10_check_0 : decode cX10_check 0 = .ok (.aload_n 0, 1) := by decide +kernel
theorem dX10_check_1 : decode cX10_check 1 = .ok (.iconst 0, 1) := by decide +kernel
theorem dX10_check_2 : decode cX10_check 2 = .ok (.putfield 98, 3) := by decide +kernel
theorem dX10_check_5 : decode cX10_check 5 = .ok (.aload_n 0, 1) := by decide +kernel
theorem dX10_check_6 : decode cX10_check 6 = .ok (.getfield 12, 3) := by decide +kernel
theorem dX10_check_9 : decode cX10_check 9 = .ok (.iload_n 1, 1) := by decide +kernel
theorem dX10_check_10 : decode cX10_check 10 = .ok (.invokevirtual 160, 3) := by decide +kernel
theorem dX10_check_13 : decode cX10_check 13 = .ok (.ifCond .ne 5, 3) := by decide +kernel
theorem dX10_check_16 : decode cX10_check 16 = .ok (.iconst (-1), 1) := by decide +kernel
theorem dX10_check_17 : decode cX10_check 17 = .ok (.ireturn, 1) := by decide +kernel
theorem dX10_check_18 : decode cX10_check 18 = .ok (.aload_n 0, 1) := by decide +kernel
theorem dX10_check_19 : decode cX10_check 19 = .ok (.iload_n 1, 1) := by decide +kernel
theorem dX10_check_20 : decode cX10_check 20 = .ok (.invokevirtual 163, 3) := by decide +kernel
theorem dX10_check_23 : decode cX10_check 23 = .ok (.istore_n 2, 1) := by decide +kernel
theorem dX10_check_24 : decode cX10_check 24 = .ok (.aload_n 0, 1) := by decide +kernel
theorem dX10_check_25 : decode cX10_check 25 = .ok (.aload_n 0, 1) := by decide +kernel
theorem dX10_check_26 : decode cX10_check 26 = .ok (.getfield 31, 3) := by decide +kernel
theorem dX10_check_29 : decode cX10_check 29 = .ok (.getfield 166, 3) := by decide +kernel
theorem dX10_check_32 : decode cX10_check 32 = .ok (.putfield 98, 3) := by decide +kernel
theorem dX10_check_35 : decode cX10_check 35 = .ok (.iload_n 2, 1) := by decide +kernel
theorem dX10_check_36 : decode cX10_check 36 = .ok (.ifCond .ge 10, 3) := by decide +kernel
theorem dX10_check_39 : decode cX10_check 39 = .ok (.bipush (-100), 2) := by decide +kernel
theorem dX10_check_41 : decode cX10_check 41 = .ok (.iload_n 2, 1) := by decide +kernel
theorem dX10_check_42 : decode cX10_check 42 = .ok (.iadd, 1) := by decide +kernel
theorem dX10_check_43 : decode cX10_check 43 = .ok (.goto 4, 3) := by decide +kernel
theorem dX10_check_46 : decode cX10_check 46 = .ok (.iload_n 2, 1) := by decide +kernel
theorem dX10_check_47 : decode cX10_check 47 = .ok (.ireturn, 1) := by decide +kernel
theorem dX10_examine_0 : decode cX10_examine 0 = .ok (.aload_n 0, 1) := by decide +kernel
theorem dX10_examine_1 : decode cX10_examine 1 = .ok (.getfield 31, 3) := by decide +kernel
theorem dX10_examine_4 : decode cX10_examine 4 = .ok (.aload_n 0, 1) := by decide +kernel
theorem dX10_examine_5 : decode cX10_examine 5 = .ok (.getfield 12, 3) := by decide +kernel
theorem dX10_examine_8 : decode cX10_examine 8 = .ok (.iload_n 1, 1) := by decide +kernel
theorem dX10_examine_9 : decode cX10_examine 9 = .ok (.invokevirtual 169, 3) := by decide +kernel
theorem dX10_examine_12 : decode cX10_examine 12 = .ok (.istore_n 2, 1) := by decide +kernel
theorem dX10_examine_13 : decode cX10_examine 13 = .ok (.iload_n 2, 1) := by decide +kernel
theorem dX10_examine_14 : decode cX10_examine 14 = .ok (.ifCond .ne 26, 3) := by decide +kernel
theorem dX10_examine_17 : decode cX10_examine 17 = .ok (.aload_n 0, 1) := by decide +kernel
theorem dX10_examine_18 : decode cX10_examine 18 = .ok (.getfield 38, 3) := by decide +kernel
theorem dX10_examine_21 : decode cX10_examine 21 = .ok (.aload_n 0, 1) := by decide +kernel
theorem dX10_examine_22 : decode cX10_examine 22 = .ok (.getfield 12, 3) := by decide +kernel
theorem dX10_examine_25 : decode cX10_examine 25 = .ok (.aload_n 0, 1) := by decide +kernel
theorem dX10_examine_26 : decode cX10_examine 26 = .ok (.getfield 31, 3) := by decide +kernel
theorem dX10_examine_29 : decode cX10_examine 29 = .ok (.aload_n 0, 1) := by decide +kernel
theorem dX10_examine_30 : decode cX10_examine 30 = .ok (.getfield 31, 3) := by decide +kernel
theorem dX10_examine_33 : decode cX10_examine 33 = .ok (.getfield 173, 3) := by decide +kernel
theorem dX10_examine_36 : decode cX10_examine 36 = .ok (.invokevirtual 176, 3) := by decide +kernel
theorem dX10_examine_39 : decode cX10_examine 39 = .ok (.istore_n 2, 1) := by decide +kernel
theorem dX10_examine_40 : decode cX10_examine 40 = .ok (.iload_n 2, 1) := by decide +kernel
theorem dX10_examine_41 : decode cX10_examine 41 = .ok (.ifCond .ne 21, 3) := by decide +kernel
theorem dX10_examine_44 : decode cX10_examine 44 = .ok (.aload_n 0, 1) := by decide +kernel
theorem dX10_examine_45 : decode cX10_examine 45 = .ok (.getfield 38, 3) := by decide +kernel
theorem dX10_examine_48 : decode cX10_examine 48 = .ok (.aload_n 0, 1) := by decide +kernel
theorem dX10_examine_49 : decode cX10_examine 49 = .ok (.getfield 12, 3) := by decide +kernel
theorem dX10_examine_52 : decode cX10_examine 52 = .ok (.aload_n 0, 1) := by decide +kernel
theorem dX10_examine_53 : decode cX10_examine 53 = .ok (.getfield 31, 3) := by decide +kernel
theorem dX10_examine_56 : decode cX10_examine 56 = .ok (.invokevirtual 180, 3) := by decide +kernel
theorem dX10_examine_59 : decode cX10_examine 59 = .ok (.goto 4, 3) := by decide +kernel
theorem dX10_examine_62 : decode cX10_examine 62 = .ok (.iload_n 2, 1) := by decide +kernel
theorem dX10_examine_63 : decode cX10_examine 63 = .ok (.ireturn, 1) := by decide +kernel
theorem dX10_step_0 : decode cX10_step 0 = .ok (.aload_n 0, 1) := by decide +kernel
theorem dX10_step_1 : decode cX10_step 1 = .ok (.getfield 98, 3) := by decide +kernel
theorem dX10_step_4 : decode cX10_step 4 = .ok (.ireturn, 1) := by decide +kernel
theorem dX10_trace_0 : decode cX10_trace 0 = .ok (.aload_n 0, 1) := by decide +kernel
theorem dX10_trace_1 : decode cX10_trace 1 = .ok (.iconst 0, 1) := by decide +kernel
theorem dX10_trace_2 : decode cX10_trace 2 = .ok (.putfield 98, 3) := by decide +kernel
theorem dX10_trace_5 : decode cX10_trace 5 = .ok (.aload_n 0, 1) := by decide +kernel
theorem dX10_trace_6 : decode cX10_trace 6 = .ok (.getfield 42, 3) := by decide +kernel
theorem dX10_trace_9 : decode cX10_trace 9 = .ok (.getfield 101, 3) := by decide +kernel
theorem dX10_trace_12 : decode cX10_trace 12 = .ok (.invokevirtual 105, 3) := by decide +kernel
theorem dX10_trace_15 : decode cX10_trace 15 = .ok (.aload_n 0, 1) := by decide +kernel
theorem dX10_trace_16 : decode cX10_trace 16 = .ok (.getfield 12, 3) := by decide +kernel
theorem dX10_trace_19 : decode cX10_trace 19 = .ok (.iload_n 1, 1) := by decide +kernel
theorem dX10_trace_20 : decode cX10_trace 20 = .ok (.invokevirtual 160, 3) := by decide +kernel
theorem dX10_trace_23 : decode cX10_trace 23 = .ok (.ifCond .eq 7, 3) := by decide +kernel
theorem dX10_trace_26 : decode cX10_trace 26 = .ok (.iload_n 2, 1) := by decide +kernel
theorem dX10_trace_27 : decode cX10_trace 27 = .ok (.ifCond .ge 5, 3) := by decide +kernel
theorem dX10_trace_30 : decode cX10_trace 30 = .ok (.iconst (-1), 1) := by decide +kernel
theorem dX10_trace_31 : decode cX10_trace 31 = .ok (.ireturn, 1) := by decide +kernel
theorem dX10_trace_32 : decode cX10_trace 32 = .ok (.aload_n 0, 1) := by decide +kernel
theorem dX10_trace_33 : decode cX10_trace 33 = .ok (.getfield 31, 3) := by decide +kernel
theorem dX10_trace_36 : decode cX10_trace 36 = .ok (.aload_n 0, 1) := by decide +kernel
theorem dX10_trace_37 : decode cX10_trace 37 = .ok (.getfield 12, 3) := by decide +kernel
theorem dX10_trace_40 : decode cX10_trace 40 = .ok (.iload_n 1, 1) := by decide +kernel
theorem dX10_trace_41 : decode cX10_trace 41 = .ok (.invokevirtual 169, 3) := by decide +kernel
theorem dX10_trace_44 : decode cX10_trace 44 = .ok (.istore_n 3, 1) := by decide +kernel
theorem dX10_trace_45 : decode cX10_trace 45 = .ok (.iload_n 3, 1) := by decide +kernel
theorem dX10_trace_46 : decode cX10_trace 46 = .ok (.ifCond .ne 28, 3) := by decide +kernel
theorem dX10_trace_49 : decode cX10_trace 49 = .ok (.aload_n 0, 1) := by decide +kernel
theorem dX10_trace_50 : decode cX10_trace 50 = .ok (.getfield 42, 3) := by decide +kernel
theorem dX10_trace_53 : decode cX10_trace 53 = .ok (.aload_n 0, 1) := by decide +kernel
theorem dX10_trace_54 : decode cX10_trace 54 = .ok (.getfield 12, 3) := by decide +kernel
theorem dX10_trace_57 : decode cX10_trace 57 = .ok (.aload_n 0, 1) := by decide +kernel
theorem dX10_trace_58 : decode cX10_trace 58 = .ok (.getfield 31, 3) := by decide +kernel
theorem dX10_trace_61 : decode cX10_trace 61 = .ok (.iload_n 2, 1) := by decide +kernel
theorem dX10_trace_62 : decode cX10_trace 62 = .ok (.sipush 1000, 3) := by decide +kernel
theorem dX10_trace_65 : decode cX10_trace 65 = .ok (.invokestatic 184, 3) := by decide +kernel
theorem dX10_trace_68 : decode cX10_trace 68 = .ok (.iconst 1, 1) := by decide +kernel
theorem dX10_trace_69 : decode cX10_trace 69 = .ok (.iadd, 1) := by decide +kernel
theorem dX10_trace_70 : decode cX10_trace 70 = .ok (.invokevirtual 176, 3) := by decide +kernel
theorem dX10_trace_73 : decode cX10_trace 73 = .ok (.istore_n 3, 1) := by decide +kernel
theorem dX10_trace_74 : decode cX10_trace 74 = .ok (.aload_n 0, 1) := by decide +kernel
theorem dX10_trace_75 : decode cX10_trace 75 = .ok (.aload_n 0, 1) := by decide +kernel
theorem dX10_trace_76 : decode cX10_trace 76 = .ok (.getfield 31, 3) := by decide +kernel
theorem dX10_trace_79 : decode cX10_trace 79 = .ok (.getfield 166, 3) := by decide +kernel
theorem dX10_trace_82 : decode cX10_trace 82 = .ok (.putfield 98, 3) := by decide +kernel
theorem dX10_trace_85 : decode cX10_trace 85 = .ok (.iload_n 3, 1) := by decide +kernel
theorem dX10_trace_86 : decode cX10_trace 86 = .ok (.ifCond .ne 14, 3) := by decide +kernel
theorem dX10_trace_89 : decode cX10_trace 89 = .ok (.aload_n 0, 1) := by decide +kernel
theorem dX10_trace_90 : decode cX10_trace 90 = .ok (.getfield 42, 3) := by decide +kernel
theorem dX10_trace_93 : decode cX10_trace 93 = .ok (.getfield 101, 3) := by decide +kernel
theorem dX10_trace_96 : decode cX10_trace 96 = .ok (.getfield 114, 3) := by decide +kernel
theorem dX10_trace_99 : decode cX10_trace 99 = .ok (.ireturn, 1) := by decide +kernel
theorem dX10_trace_100 : decode cX10_trace 100 = .ok (.aload_n 0, 1) := by decide +kernel
theorem dX10_trace_101 : decode cX10_trace 101 = .ok (.getfield 42, 3) := by decide +kernel
theorem dX10_trace_104 : decode cX10_trace 104 = .ok (.getfield 101, 3) := by decide +kernel
theorem dX10_trace_107 : decode cX10_trace 107 = .ok (.invokevirtual 105, 3) := by decide +kernel
theorem dX10_trace_110 : decode cX10_trace 110 = .ok (.iload_n 3, 1) := by decide +kernel
theorem dX10_trace_111 : decode cX10_trace 111 = .ok (.iconst 1, 1) := by decide +kernel
theorem dX10_trace_112 : decode cX10_trace 112 = .ok (.if_icmp .ne 8, 3) := by decide +kernel
theorem dX10_trace_115 : decode cX10_trace 115 = .ok (.bipush (-9), 2) := by decide +kernel
theorem dX10_trace_117 : decode cX10_trace 117 = .ok (.goto 7, 3) := by decide +kernel
theorem dX10_trace_120 : decode cX10_trace 120 = .ok (.bipush (-100), 2) := by decide +kernel
theorem dX10_trace_122 : decode cX10_trace 122 = .ok (.iload_n 3, 1) := by decide +kernel
theorem dX10_trace_123 : decode cX10_trace 123 = .ok (.iadd, 1) := by decide +kernel
theorem dX10_trace_124 : decode cX10_trace 124 = .ok (.ireturn, 1) := by decide +kernel
theorem dX10_thing_0 : decode cX10_thing 0 = .ok (.aload_n 0, 1) := by decide +kernel
theorem dX10_thing_1 : decode cX10_thing 1 = .ok (.getfield 42, 3) := by decide +kernel
theorem dX10_thing_4 : decode cX10_thing 4 = .ok (.getfield 101, 3) := by decide +kernel
theorem dX10_thing_7 : decode cX10_thing 7 = .ok (.astore_n 3, 1) := by decide +kernel
theorem dX10_thing_8 : decode cX10_thing 8 = .ok (.iload_n 1, 1) := by decide +kernel
theorem dX10_thing_9 : decode cX10_thing 9 = .ok (.ifCond .lt 11, 3) := by decide +kernel
theorem dX10_thing_12 : decode cX10_thing 12 = .ok (.iload_n 1, 1) := by decide +kernel
theorem dX10_thing_13 : decode cX10_thing 13 = .ok (.aload_n 3, 1) := by decide +kernel
theorem dX10_thing_14 : decode cX10_thing 14 = .ok (.getfield 114, 3) := by decide +kernel
theorem dX10_thing_17 : decode cX10_thing 17 = .ok (.if_icmp .lt 5, 3) := by decide +kernel
theorem dX10_thing_20 : decode cX10_thing 20 = .ok (.iconst (-1), 1) := by decide +kernel
theorem dX10_thing_21 : decode cX10_thing 21 = .ok (.ireturn, 1) := by decide +kernel
theorem dX10_thing_22 : decode cX10_thing 22 = .ok (.aload_n 3, 1) := by decide +kernel
theorem dX10_thing_23 : decode cX10_thing 23 = .ok (.getfield 114, 3) := by decide +kernel
theorem dX10_thing_26 : decode cX10_thing 26 = .ok (.iconst 1, 1) := by decide +kernel
theorem dX10_thing_27 : decode cX10_thing 27 = .ok (.isub, 1) := by decide +kernel
theorem dX10_thing_28 : decode cX10_thing 28 = .ok (.iload_n 1, 1) := by decide +kernel
theorem dX10_thing_29 : decode cX10_thing 29 = .ok (.isub, 1) := by decide +kernel
theorem dX10_thing_30 : decode cX10_thing 30 = .ok (.istore 4, 2) := by decide +kernel
theorem dX10_thing_32 : decode cX10_thing 32 = .ok (.iload_n 2, 1) := by decide +kernel
theorem dX10_thing_33 : decode cX10_thing 33 = .ok (.iconst (-1), 1) := by decide +kernel
theorem dX10_thing_34 : decode cX10_thing 34 = .ok (.if_icmp .ne 12, 3) := by decide +kernel
theorem dX10_thing_37 : decode cX10_thing 37 = .ok (.aload_n 3, 1) := by decide +kernel
theorem dX10_thing_38 : decode cX10_thing 38 = .ok (.iload 4, 2) := by decide +kernel
theorem dX10_thing_40 : decode cX10_thing 40 = .ok (.invokevirtual 128, 3) := by decide +kernel
theorem dX10_thing_43 : decode cX10_thing 43 = .ok (.goto 10, 3) := by decide +kernel
theorem dX10_thing_46 : decode cX10_thing 46 = .ok (.aload_n 3, 1) := by decide +kernel
theorem dX10_thing_47 : decode cX10_thing 47 = .ok (.iload 4, 2) := by decide +kernel
theorem dX10_thing_49 : decode cX10_thing 49 = .ok (.iload_n 2, 1) := by decide +kernel
theorem dX10_thing_50 : decode cX10_thing 50 = .ok (.invokevirtual 144, 3) := by decide +kernel
theorem dX10_thing_53 : decode cX10_thing 53 = .ok (.ireturn, 1) := by decide +kernel
theorem dX10_tell_0 : decode cX10_tell 0 = .ok (.aload_n 0, 1) := by decide +kernel
theorem dX10_tell_1 : decode cX10_tell 1 = .ok (.getfield 12, 3) := by decide +kernel
theorem dX10_tell_4 : decode cX10_tell 4 = .ok (.iload_n 1, 1) := by decide +kernel
theorem dX10_tell_5 : decode cX10_tell 5 = .ok (.invokevirtual 160, 3) := by decide +kernel
theorem dX10_tell_8 : decode cX10_tell 8 = .ok (.ifCond .eq 12, 3) := by decide +kernel
theorem dX10_tell_11 : decode cX10_tell 11 = .ok (.iload_n 2, 1) := by decide +kernel
theorem dX10_tell_12 : decode cX10_tell 12 = .ok (.ifCond .lt 8, 3) := by decide +kernel
theorem dX10_tell_15 : decode cX10_tell 15 = .ok (.iload_n 2, 1) := by decide +kernel
theorem dX10_tell_16 : decode cX10_tell 16 = .ok (.iconst 1, 1) := by decide +kernel
theorem dX10_tell_17 : decode cX10_tell 17 = .ok (.if_icmp .le 5, 3) := by decide +kernel
theorem dX10_tell_20 : decode cX10_tell 20 = .ok (.iconst (-1), 1) := by decide +kernel
theorem dX10_tell_21 : decode cX10_tell 21 = .ok (.ireturn, 1) := by decide +kernel
theorem dX10_tell_22 : decode cX10_tell 22 = .ok (.aload_n 0, 1) := by decide +kernel
theorem dX10_tell_23 : decode cX10_tell 23 = .ok (.iload_n 1, 1) := by decide +kernel
theorem dX10_tell_24 : decode cX10_tell 24 = .ok (.invokevirtual 163, 3) := by decide +kernel
theorem dX10_tell_27 : decode cX10_tell 27 = .ok (.ifCond .eq 6, 3) := by decide +kernel
theorem dX10_tell_30 : decode cX10_tell 30 = .ok (.bipush (-2), 2) := by decide +kernel
theorem dX10_tell_32 : decode cX10_tell 32 = .ok (.ireturn, 1) := by decide +kernel
theorem dX10_tell_33 : decode cX10_tell 33 = .ok (.aload_n 0, 1) := by decide +kernel
theorem dX10_tell_34 : decode cX10_tell 34 = .ok (.getfield 61, 3) := by decide +kernel
theorem dX10_tell_37 : decode cX10_tell 37 = .ok (.invokevirtual 189, 3) := by decide +kernel
theorem dX10_tell_40 : decode cX10_tell 40 = .ok (.aload_n 0, 1) := by decide +kernel
theorem dX10_tell_41 : decode cX10_tell 41 = .ok (.getfield 50, 3) := by decide +kernel
theorem dX10_tell_44 : decode cX10_tell 44 = .ok (.aload_n 0, 1) := by decide +kernel
theorem dX10_tell_45 : decode cX10_tell 45 = .ok (.getfield 12, 3) := by decide +kernel
theorem dX10_tell_48 : decode cX10_tell 48 = .ok (.aload_n 0, 1) := by decide +kernel
theorem dX10_tell_49 : decode cX10_tell 49 = .ok (.getfield 31, 3) := by decide +kernel
theorem dX10_tell_52 : decode cX10_tell 52 = .ok (.invokevirtual 190, 3) := by decide +kernel
theorem dX10_tell_55 : decode cX10_tell 55 = .ok (.iload_n 2, 1) := by decide +kernel
theorem dX10_tell_56 : decode cX10_tell 56 = .ok (.iconst 1, 1) := by decide +kernel
theorem dX10_tell_57 : decode cX10_tell 57 = .ok (.if_icmp .ne 19, 3) := by decide +kernel
theorem dX10_tell_60 : decode cX10_tell 60 = .ok (.aload_n 0, 1) := by decide +kernel
theorem dX10_tell_61 : decode cX10_tell 61 = .ok (.getfield 50, 3) := by decide +kernel
theorem dX10_tell_64 : decode cX10_tell 64 = .ok (.aload_n 0, 1) := by decide +kernel
theorem dX10_tell_65 : decode cX10_tell 65 = .ok (.getfield 61, 3) := by decide +kernel
theorem dX10_tell_68 : decode cX10_tell 68 = .ok (.invokevirtual 193, 3) := by decide +kernel
theorem dX10_tell_71 : decode cX10_tell 71 = .ok (.aload_n 0, 1) := by decide +kernel
theorem dX10_tell_72 : decode cX10_tell 72 = .ok (.invokevirtual 197, 3) := by decide +kernel
theorem dX10_tell_75 : decode cX10_tell 75 = .ok (.ireturn, 1) := by decide +kernel
theorem dX10_tell_76 : decode cX10_tell 76 = .ok (.aload_n 0, 1) := by decide +kernel
theorem dX10_tell_77 : decode cX10_tell 77 = .ok (.getfield 50, 3) := by decide +kernel
theorem dX10_tell_80 : decode cX10_tell 80 = .ok (.aload_n 0, 1) := by decide +kernel
theorem dX10_tell_81 : decode cX10_tell 81 = .ok (.getfield 61, 3) := by decide +kernel
theorem dX10_tell_84 : decode cX10_tell 84 = .ok (.invokevirtual 201, 3) := by decide +kernel
theorem dX10_tell_87 : decode cX10_tell 87 = .ok (.ifCond .eq 10, 3) := by decide +kernel
theorem dX10_tell_90 : decode cX10_tell 90 = .ok (.aload_n 0, 1) := by decide +kernel
theorem dX10_tell_91 : decode cX10_tell 91 = .ok (.invokevirtual 197, 3) := by decide +kernel
theorem dX10_tell_94 : decode cX10_tell 94 = .ok (.goto 5, 3) := by decide +kernel
theorem dX10_tell_97 : decode cX10_tell 97 = .ok (.bipush (-3), 2) := by decide +kernel
theorem dX10_tell_99 : decode cX10_tell 99 = .ok (.ireturn, 1) := by decide +kernel
theorem dX10_print_0 : decode cX10_print 0 = .ok (.aload_n 0, 1) := by decide +kernel
theorem dX10_print_1 : decode cX10_print 1 = .ok (.getfield 12, 3) := by decide +kernel
theorem dX10_print_4 : decode cX10_print 4 = .ok (.iload_n 1, 1) := by decide +kernel
theorem dX10_print_5 : decode cX10_print 5 = .ok (.invokevirtual 117, 3) := by decide +kernel
theorem dX10_print_8 : decode cX10_print 8 = .ok (.ifCond .ne 5, 3) := by decide +kernel
theorem dX10_print_11 : decode cX10_print 11 = .ok (.iconst (-1), 1) := by decide +kernel
theorem dX10_print_12 : decode cX10_print 12 = .ok (.ireturn, 1) := by decide +kernel
theorem dX10_print_13 : decode cX10_print 13 = .ok (.aload_n 0, 1) := by decide +kernel
theorem dX10_print_14 : decode cX10_print 14 = .ok (.getfield 61, 3) := by decide +kernel
theorem dX10_print_17 : decode cX10_print 17 = .ok (.invokevirtual 189, 3) := by decide +kernel
theorem dX10_print_20 : decode cX10_print 20 = .ok (.aload_n 0, 1) := by decide +kernel
theorem dX10_print_21 : decode cX10_print 21 = .ok (.aload_n 0, 1) := by decide +kernel
theorem dX10_print_22 : decode cX10_print 22 = .ok (.getfield 61, 3) := by decide +kernel
theorem dX10_print_25 : decode cX10_print 25 = .ok (.iload_n 1, 1) := by decide +kernel
theorem dX10_print_26 : decode cX10_print 26 = .ok (.invokevirtual 205, 3) := by decide +kernel
theorem dX10_print_29 : decode cX10_print 29 = .ok (.aload_n 0, 1) := by decide +kernel
theorem dX10_print_30 : decode cX10_print 30 = .ok (.invokevirtual 197, 3) := by decide +kernel
theorem dX10_print_33 : decode cX10_print 33 = .ok (.ireturn, 1) := by decide +kernel
theorem dX10_writeStatement_0 : decode cX10_writeStatement 0 = .ok (.aload_n 1, 1) := by decide +kernel
theorem dX10_writeStatement_1 : decode cX10_writeStatement 1 = .ok (.aload_n 0, 1) := by decide +kernel
theorem dX10_writeStatement_2 : decode cX10_writeStatement 2 = .ok (.getfield 12, 3) := by decide +kernel
theorem dX10_writeStatement_5 : decode cX10_writeStatement 5 = .ok (.getfield 148, 3) := by decide +kernel
theorem dX10_writeStatement_8 : decode cX10_writeStatement 8 = .ok (.sipush 300, 3) := by decide +kernel
theorem dX10_writeStatement_11 : decode cX10_writeStatement 11 = .ok (.iload_n 2, 1) := by decide +kernel
theorem dX10_writeStatement_12 : decode cX10_writeStatement 12 = .ok (.iadd, 1) := by decide +kernel
theorem dX10_writeStatement_13 : decode cX10_writeStatement 13 = .ok (.invokevirtual 209, 3) := by decide +kernel
theorem dX10_writeStatement_16 : decode cX10_writeStatement 16 = .ok (.aload_n 1, 1) := by decide +kernel
theorem dX10_writeStatement_17 : decode cX10_writeStatement 17 = .ok (.bipush 32, 2) := by decide +kernel
theorem dX10_writeStatement_19 : decode cX10_writeStatement 19 = .ok (.invokevirtual 213, 3) := by decide +kernel
theorem dX10_writeStatement_22 : decode cX10_writeStatement 22 = .ok (.aload_n 1, 1) := by decide +kernel
theorem dX10_writeStatement_23 : decode cX10_writeStatement 23 = .ok (.bipush 36, 2) := by decide +kernel
theorem dX10_writeStatement_25 : decode cX10_writeStatement 25 = .ok (.invokevirtual 213, 3) := by decide +kernel
theorem dX10_writeStatement_28 : decode cX10_writeStatement 28 = .ok (.aload_n 1, 1) := by decide +kernel
theorem dX10_writeStatement_29 : decode cX10_writeStatement 29 = .ok (.aload_n 0, 1) := by decide +kernel
theorem dX10_writeStatement_30 : decode cX10_writeStatement 30 = .ok (.getfield 12, 3) := by decide +kernel
theorem dX10_writeStatement_33 : decode cX10_writeStatement 33 = .ok (.getfield 121, 3) := by decide +kernel
theorem dX10_writeStatement_36 : decode cX10_writeStatement 36 = .ok (.iload_n 2, 1) := by decide +kernel
theorem dX10_writeStatement_37 : decode cX10_writeStatement 37 = .ok (.iaload, 1) := by decide +kernel
theorem dX10_writeStatement_38 : decode cX10_writeStatement 38 = .ok (.invokestatic 217, 3) := by decide +kernel
theorem dX10_writeStatement_41 : decode cX10_writeStatement 41 = .ok (.invokevirtual 213, 3) := by decide +kernel
theorem dX10_writeStatement_44 : decode cX10_writeStatement 44 = .ok (.aload_n 1, 1) := by decide +kernel
theorem dX10_writeStatement_45 : decode cX10_writeStatement 45 = .ok (.bipush 32, 2) := by decide +kernel
theorem dX10_writeStatement_47 : decode cX10_writeStatement 47 = .ok (.invokevirtual 213, 3) := by decide +kernel
theorem dX10_writeStatement_50 : decode cX10_writeStatement 50 = .ok (.aload_n 0, 1) := by decide +kernel
theorem dX10_writeStatement_51 : decode cX10_writeStatement 51 = .ok (.getfield 12, 3) := by decide +kernel
theorem dX10_writeStatement_54 : decode cX10_writeStatement 54 = .ok (.getfield 125, 3) := by decide +kernel
theorem dX10_writeStatement_57 : decode cX10_writeStatement 57 = .ok (.iload_n 2, 1) := by decide +kernel
theorem dX10_writeStatement_58 : decode cX10_writeStatement 58 = .ok (.invokevirtual 128, 3) := by decide +kernel
theorem dX10_writeStatement_61 : decode cX10_writeStatement 61 = .ok (.istore_n 3, 1) := by decide +kernel
theorem dX10_writeStatement_62 : decode cX10_writeStatement 62 = .ok (.iconst 0, 1) := by decide +kernel
theorem dX10_writeStatement_63 : decode cX10_writeStatement 63 = .ok (.istore 4, 2) := by decide +kernel
theorem dX10_writeStatement_65 : decode cX10_writeStatement 65 = .ok (.iload 4, 2) := by decide +kernel
theorem dX10_writeStatement_67 : decode cX10_writeStatement 67 = .ok (.iload_n 3, 1) := by decide +kernel
theorem dX10_writeStatement_68 : decode cX10_writeStatement 68 = .ok (.if_icmp .ge 39, 3) := by decide +kernel
theorem dX10_writeStatement_71 : decode cX10_writeStatement 71 = .ok (.aload_n 1, 1) := by decide +kernel
theorem dX10_writeStatement_72 : decode cX10_writeStatement 72 = .ok (.aload_n 0, 1) := by decide +kernel
theorem dX10_writeStatement_73 : decode cX10_writeStatement 73 = .ok (.getfield 12, 3) := by decide +kernel
theorem dX10_writeStatement_76 : decode cX10_writeStatement 76 = .ok (.getfield 148, 3) := by decide +kernel
theorem dX10_writeStatement_79 : decode cX10_writeStatement 79 = .ok (.aload_n 0, 1) := by decide +kernel
theorem dX10_writeStatement_80 : decode cX10_writeStatement 80 = .ok (.getfield 12, 3) := by decide +kernel
theorem dX10_writeStatement_83 : decode cX10_writeStatement 83 = .ok (.getfield 125, 3) := by decide +kernel
theorem dX10_writeStatement_86 : decode cX10_writeStatement 86 = .ok (.iload_n 2, 1) := by decide +kernel
theorem dX10_writeStatement_87 : decode cX10_writeStatement 87 = .ok (.iload 4, 2) := by decide +kernel
theorem dX10_writeStatement_89 : decode cX10_writeStatement 89 = .ok (.invokevirtual 144, 3) := by decide +kernel
theorem dX10_writeStatement_92 : decode cX10_writeStatement 92 = .ok (.invokevirtual 209, 3) := by decide +kernel
theorem dX10_writeStatement_95 : decode cX10_writeStatement 95 = .ok (.aload_n 1, 1) := by decide +kernel
theorem dX10_writeStatement_96 : decode cX10_writeStatement 96 = .ok (.bipush 32, 2) := by decide +kernel
theorem dX10_writeStatement_98 : decode cX10_writeStatement 98 = .ok (.invokevirtual 213, 3) := by decide +kernel
theorem dX10_writeStatement_101 : decode cX10_writeStatement 101 = .ok (.iinc 4 1, 3) := by decide +kernel
theorem dX10_writeStatement_104 : decode cX10_writeStatement 104 = .ok (.goto (-39), 3) := by decide +kernel
theorem dX10_writeStatement_107 : decode cX10_writeStatement 107 = .ok (.aload_n 1, 1) := by decide +kernel
theorem dX10_writeStatement_108 : decode cX10_writeStatement 108 = .ok (.bipush 36, 2) := by decide +kernel
theorem dX10_writeStatement_110 : decode cX10_writeStatement 110 = .ok (.invokevirtual 213, 3) := by decide +kernel
theorem dX10_writeStatement_113 : decode cX10_writeStatement 113 = .ok (.aload_n 1, 1) := by decide +kernel
theorem dX10_writeStatement_114 : decode cX10_writeStatement 114 = .ok (.bipush 46, 2) := by decide +kernel
theorem dX10_writeStatement_116 : decode cX10_writeStatement 116 = .ok (.invokevirtual 213, 3) := by decide +kernel
theorem dX10_writeStatement_119 : decode cX10_writeStatement 119 = .ok (.return_, 1) := by decide +kernel
theorem dX10_keywordOf_0 : decode cX10_keywordOf 0 = .ok (.iload_n 0, 1) := by decide +kernel
theorem dX10_keywordOf_1 : decode cX10_keywordOf 1 = .ok (.tableswitch 36 0 2 #[27, 30, 33], 27) := by decide +kernel
theorem dX10_keywordOf_28 : decode cX10_keywordOf 28 = .ok (.bipush 102, 2) := by decide +kernel
theorem dX10_keywordOf_30 : decode cX10_keywordOf 30 = .ok (.ireturn, 1) := by decide +kernel
theorem dX10_keywordOf_31 : decode cX10_keywordOf 31 = .ok (.bipush 101, 2) := by decide +kernel
theorem dX10_keywordOf_33 : decode cX10_keywordOf 33 = .ok (.ireturn, 1) := by decide +kernel
theorem dX10_keywordOf_34 : decode cX10_keywordOf 34 = .ok (.bipush 97, 2) := by decide +kernel
theorem dX10_keywordOf_36 : decode cX10_keywordOf 36 = .ok (.ireturn, 1) := by decide +kernel
theorem dX10_keywordOf_37 : decode cX10_keywordOf 37 = .ok (.bipush 112, 2) := by decide +kernel
theorem dX10_keywordOf_39 : decode cX10_keywordOf 39 = .ok (.ireturn, 1) := by decide +kernel
theorem dX10_publish_0 : decode cX10_publish 0 = .ok (.aload_n 0, 1) := by decide +kernel
theorem dX10_publish_1 : decode cX10_publish 1 = .ok (.getfield 61, 3) := by decide +kernel
theorem dX10_publish_4 : decode cX10_publish 4 = .ok (.getfield 220, 3) := by decide +kernel
theorem dX10_publish_7 : decode cX10_publish 7 = .ok (.ifCond .eq 6, 3) := by decide +kernel
theorem dX10_publish_10 : decode cX10_publish 10 = .ok (.bipush (-3), 2) := by decide +kernel
theorem dX10_publish_12 : decode cX10_publish 12 = .ok (.ireturn, 1) := by decide +kernel
theorem dX10_publish_13 : decode cX10_publish 13 = .ok (.aload_n 0, 1) := by decide +kernel
theorem dX10_publish_14 : decode cX10_publish 14 = .ok (.getfield 57, 3) := by decide +kernel
theorem dX10_publish_17 : decode cX10_publish 17 = .ok (.astore_n 1, 1) := by decide +kernel
theorem dX10_publish_18 : decode cX10_publish 18 = .ok (.aload_n 0, 1) := by decide +kernel
theorem dX10_publish_19 : decode cX10_publish 19 = .ok (.aload_n 0, 1) := by decide +kernel
theorem dX10_publish_20 : decode cX10_publish 20 = .ok (.getfield 61, 3) := by decide +kernel
theorem dX10_publish_23 : decode cX10_publish 23 = .ok (.putfield 57, 3) := by decide +kernel
theorem dX10_publish_26 : decode cX10_publish 26 = .ok (.aload_n 0, 1) := by decide +kernel
theorem dX10_publish_27 : decode cX10_publish 27 = .ok (.aload_n 1, 1) := by decide +kernel
theorem dX10_publish_28 : decode cX10_publish 28 = .ok (.putfield 61, 3) := by decide +kernel
theorem dX10_publish_31 : decode cX10_publish 31 = .ok (.aload_n 0, 1) := by decide +kernel
theorem dX10_publish_32 : decode cX10_publish 32 = .ok (.getfield 57, 3) := by decide +kernel
theorem dX10_publish_35 : decode cX10_publish 35 = .ok (.getfield 110, 3) := by decide +kernel
theorem dX10_publish_38 : decode cX10_publish 38 = .ok (.ireturn, 1) := by decide +kernel
theorem dX10_out_0 : decode cX10_out 0 = .ok (.iload_n 1, 1) := by decide +kernel
theorem dX10_out_1 : decode cX10_out 1 = .ok (.ifCond .lt 26, 3) := by decide +kernel
theorem dX10_out_4 : decode cX10_out 4 = .ok (.iload_n 1, 1) := by decide +kernel
theorem dX10_out_5 : decode cX10_out 5 = .ok (.aload_n 0, 1) := by decide +kernel
theorem dX10_out_6 : decode cX10_out 6 = .ok (.getfield 57, 3) := by decide +kernel
theorem dX10_out_9 : decode cX10_out 9 = .ok (.getfield 110, 3) := by decide +kernel
theorem dX10_out_12 : decode cX10_out 12 = .ok (.if_icmp .ge 15, 3) := by decide +kernel
theorem dX10_out_15 : decode cX10_out 15 = .ok (.aload_n 0, 1) := by decide +kernel
theorem dX10_out_16 : decode cX10_out 16 = .ok (.getfield 57, 3) := by decide +kernel
theorem dX10_out_19 : decode cX10_out 19 = .ok (.getfield 224, 3) := by decide +kernel
theorem dX10_out_22 : decode cX10_out 22 = .ok (.iload_n 1, 1) := by decide +kernel
theorem dX10_out_23 : decode cX10_out 23 = .ok (.baload, 1) := by decide +kernel
theorem dX10_out_24 : decode cX10_out 24 = .ok (.goto 4, 3) := by decide +kernel
theorem dX10_out_27 : decode cX10_out 27 = .ok (.iconst (-1), 1) := by decide +kernel
theorem dX10_out_28 : decode cX10_out 28 = .ok (.ireturn, 1) := by decide +kernel
theorem dX10_rests_0 : decode cX10_rests 0 = .ok (.aload_n 0, 1) := by decide +kernel
theorem dX10_rests_1 : decode cX10_rests 1 = .ok (.getfield 12, 3) := by decide +kernel
theorem dX10_rests_4 : decode cX10_rests 4 = .ok (.iload_n 1, 1) := by decide +kernel
theorem dX10_rests_5 : decode cX10_rests 5 = .ok (.invokevirtual 160, 3) := by decide +kernel
theorem dX10_rests_8 : decode cX10_rests 8 = .ok (.ifCond .ne 5, 3) := by decide +kernel
theorem dX10_rests_11 : decode cX10_rests 11 = .ok (.iconst (-1), 1) := by decide +kernel
theorem dX10_rests_12 : decode cX10_rests 12 = .ok (.ireturn, 1) := by decide +kernel
theorem dX10_rests_13 : decode cX10_rests 13 = .ok (.aload_n 0, 1) := by decide +kernel
theorem dX10_rests_14 : decode cX10_rests 14 = .ok (.getfield 12, 3) := by decide +kernel
theorem dX10_rests_17 : decode cX10_rests 17 = .ok (.iload_n 1, 1) := by decide +kernel
theorem dX10_rests_18 : decode cX10_rests 18 = .ok (.iload_n 2, 1) := by decide +kernel
theorem dX10_rests_19 : decode cX10_rests 19 = .ok (.invokevirtual 227, 3) := by decide +kernel
theorem dX10_rests_22 : decode cX10_rests 22 = .ok (.ireturn, 1) := by decide +kernel
theorem dX10_find_0 : decode cX10_find 0 = .ok (.aload_n 0, 1) := by decide +kernel
theorem dX10_find_1 : decode cX10_find 1 = .ok (.getfield 12, 3) := by decide +kernel
theorem dX10_find_4 : decode cX10_find 4 = .ok (.getfield 148, 3) := by decide +kernel
theorem dX10_find_7 : decode cX10_find 7 = .ok (.aload_n 0, 1) := by decide +kernel
theorem dX10_find_8 : decode cX10_find 8 = .ok (.getfield 16, 3) := by decide +kernel
theorem dX10_find_11 : decode cX10_find 11 = .ok (.getfield 78, 3) := by decide +kernel
theorem dX10_find_14 : decode cX10_find 14 = .ok (.iconst 0, 1) := by decide +kernel
theorem dX10_find_15 : decode cX10_find 15 = .ok (.aload_n 0, 1) := by decide +kernel
theorem dX10_find_16 : decode cX10_find 16 = .ok (.getfield 16, 3) := by decide +kernel
theorem dX10_find_19 : decode cX10_find 19 = .ok (.getfield 68, 3) := by decide +kernel
theorem dX10_find_22 : decode cX10_find 22 = .ok (.invokevirtual 230, 3) := by decide +kernel
theorem dX10_find_25 : decode cX10_find 25 = .ok (.istore_n 1, 1) := by decide +kernel
theorem dX10_find_26 : decode cX10_find 26 = .ok (.aload_n 0, 1) := by decide +kernel
theorem dX10_find_27 : decode cX10_find 27 = .ok (.getfield 16, 3) := by decide +kernel
theorem dX10_find_30 : decode cX10_find 30 = .ok (.iconst 0, 1) := by decide +kernel
theorem dX10_find_31 : decode cX10_find 31 = .ok (.putfield 68, 3) := by decide +kernel
theorem dX10_find_34 : decode cX10_find 34 = .ok (.iload_n 1, 1) := by decide +kernel
theorem dX10_find_35 : decode cX10_find 35 = .ok (.sipush 300, 3) := by decide +kernel
theorem dX10_find_38 : decode cX10_find 38 = .ok (.if_icmp .lt 11, 3) := by decide +kernel
theorem dX10_find_41 : decode cX10_find 41 = .ok (.iload_n 1, 1) := by decide +kernel
theorem dX10_find_42 : decode cX10_find 42 = .ok (.sipush 300, 3) := by decide +kernel
theorem dX10_find_45 : decode cX10_find 45 = .ok (.isub, 1) := by decide +kernel
theorem dX10_find_46 : decode cX10_find 46 = .ok (.goto 5, 3) := by decide +kernel
theorem dX10_find_49 : decode cX10_find 49 = .ok (.bipush (-2), 2) := by decide +kernel
theorem dX10_find_51 : decode cX10_find 51 = .ok (.ireturn, 1) := by decide +kernel
theorem dX11_init_0 : decode cX11_init 0 = .ok (.aload_n 0, 1) := by decide +kernel
theorem dX11_init_1 : decode cX11_init 1 = .ok (.invokespecial 1, 3) := by decide +kernel
theorem dX11_init_4 : decode cX11_init 4 = .ok (.aload_n 0, 1) := by decide +kernel
theorem dX11_init_5 : decode cX11_init 5 = .ok (.sipush 8192, 3) := by decide +kernel
theorem dX11_init_8 : decode cX11_init 8 = .ok (.newarray .int, 2) := by decide +kernel
theorem dX11_init_10 : decode cX11_init 10 = .ok (.putfield 7, 3) := by decide +kernel
theorem dX11_init_13 : decode cX11_init 13 = .ok (.aload_n 0, 1) := by decide +kernel
theorem dX11_init_14 : decode cX11_init 14 = .ok (.sipush 16384, 3) := by decide +kernel
theorem dX11_init_17 : decode cX11_init 17 = .ok (.newarray .int, 2) := by decide +kernel
theorem dX11_init_19 : decode cX11_init 19 = .ok (.putfield 13, 3) := by decide +kernel
theorem dX11_init_22 : decode cX11_init 22 = .ok (.aload_n 0, 1) := by decide +kernel
theorem dX11_init_23 : decode cX11_init 23 = .ok (.sipush 600, 3) := by decide +kernel
theorem dX11_init_26 : decode cX11_init 26 = .ok (.newarray .int, 2) := by decide +kernel
theorem dX11_init_28 : decode cX11_init 28 = .ok (.putfield 16, 3) := by decide +kernel
theorem dX11_init_31 : decode cX11_init 31 = .ok (.aload_n 0, 1) := by decide +kernel
theorem dX11_init_32 : decode cX11_init 32 = .ok (.sipush 600, 3) := by decide +kernel
theorem dX11_init_35 : decode cX11_init 35 = .ok (.newarray .int, 2) := by decide +kernel
theorem dX11_init_37 : decode cX11_init 37 = .ok (.putfield 19, 3) := by decide +kernel
theorem dX11_init_40 : decode cX11_init 40 = .ok (.aload_n 0, 1) := by decide +kernel
theorem dX11_init_41 : decode cX11_init 41 = .ok (.sipush 600, 3) := by decide +kernel
theorem dX11_init_44 : decode cX11_init 44 = .ok (.newarray .boolean, 2) := by decide +kernel
theorem dX11_init_46 : decode cX11_init 46 = .ok (.putfield 22, 3) := by decide +kernel
theorem dX11_init_49 : decode cX11_init 49 = .ok (.aload_n 0, 1) := by decide +kernel
theorem dX11_init_50 : decode cX11_init 50 = .ok (.iconst 2, 1) := by decide +kernel
theorem dX11_init_51 : decode cX11_init 51 = .ok (.newarray .int, 2) := by decide +kernel
theorem dX11_init_53 : decode cX11_init 53 = .ok (.putfield 26, 3) := by decide +kernel
theorem dX11_init_56 : decode cX11_init 56 = .ok (.aload_n 0, 1) := by decide +kernel
theorem dX11_init_57 : decode cX11_init 57 = .ok (.sipush 400, 3) := by decide +kernel
theorem dX11_init_60 : decode cX11_init 60 = .ok (.newarray .int, 2) := by decide +kernel
theorem dX11_init_62 : decode cX11_init 62 = .ok (.putfield 29, 3) := by decide +kernel
theorem dX11_init_65 : decode cX11_init 65 = .ok (.aload_n 0, 1) := by decide +kernel
theorem dX11_init_66 : decode cX11_init 66 = .ok (.sipush 400, 3) := by decide +kernel
theorem dX11_init_69 : decode cX11_init 69 = .ok (.newarray .int, 2) := by decide +kernel
theorem dX11_init_71 : decode cX11_init 71 = .ok (.putfield 32, 3) := by decide +kernel
theorem dX11_init_74 : decode cX11_init 74 = .ok (.aload_n 0, 1) := by decide +kernel
theorem dX11_init_75 : decode cX11_init 75 = .ok (.sipush 400, 3) := by decide +kernel
theorem dX11_init_78 : decode cX11_init 78 = .ok (.newarray .int, 2) := by decide +kernel
theorem dX11_init_80 : decode cX11_init 80 = .ok (.putfield 35, 3) := by decide +kernel
theorem dX11_init_83 : decode cX11_init 83 = .ok (.aload_n 0, 1) := by decide +kernel
theorem dX11_init_84 : decode cX11_init 84 = .ok (.sipush 400, 3) := by decide +kernel
theorem dX11_init_87 : decode cX11_init 87 = .ok (.newarray .int, 2) := by decide +kernel
theorem dX11_init_89 : decode cX11_init 89 = .ok (.putfield 38, 3) := by decide +kernel
theorem dX11_init_92 : decode cX11_init 92 = .ok (.aload_n 0, 1) := by decide +kernel
theorem dX11_init_93 : decode cX11_init 93 = .ok (.sipush 400, 3) := by decide +kernel
theorem dX11_init_96 : decode cX11_init 96 = .ok (.newarray .int, 2) := by decide +kernel
theorem dX11_init_98 : decode cX11_init 98 = .ok (.putfield 41, 3) := by decide +kernel
theorem dX11_init_101 : decode cX11_init 101 = .ok (.aload_n 0, 1) := by decide +kernel
theorem dX11_init_102 : decode cX11_init 102 = .ok (.sipush 400, 3) := by decide +kernel
theorem dX11_init_105 : decode cX11_init 105 = .ok (.newarray .int, 2) := by decide +kernel
theorem dX11_init_107 : decode cX11_init 107 = .ok (.putfield 44, 3) := by decide +kernel
theorem dX11_init_110 : decode cX11_init 110 = .ok (.aload_n 0, 1) := by decide +kernel
theorem dX11_init_111 : decode cX11_init 111 = .ok (.sipush 400, 3) := by decide +kernel
theorem dX11_init_114 : decode cX11_init 114 = .ok (.newarray .int, 2) := by decide +kernel
theorem dX11_init_116 : decode cX11_init 116 = .ok (.putfield 47, 3) := by decide +kernel
theorem dX11_init_119 : decode cX11_init 119 = .ok (.aload_n 0, 1) := by decide +kernel
theorem dX11_init_120 : decode cX11_init 120 = .ok (.sipush 400, 3) := by decide +kernel
theorem dX11_init_123 : decode cX11_init 123 = .ok (.newarray .int, 2) := by decide +kernel
theorem dX11_init_125 : decode cX11_init 125 = .ok (.putfield 50, 3) := by decide +kernel
theorem dX11_init_128 : decode cX11_init 128 = .ok (.aload_n 0, 1) := by decide +kernel
theorem dX11_init_129 : decode cX11_init 129 = .ok (.iconst 2, 1) := by decide +kernel
theorem dX11_init_130 : decode cX11_init 130 = .ok (.newarray .int, 2) := by decide +kernel
theorem dX11_init_132 : decode cX11_init 132 = .ok (.putfield 53, 3) := by decide +kernel
theorem dX11_init_135 : decode cX11_init 135 = .ok (.aload_n 0, 1) := by decide +kernel
theorem dX11_init_136 : decode cX11_init 136 = .ok (.sipush 8192, 3) := by decide +kernel
theorem dX11_init_139 : decode cX11_init 139 = .ok (.newarray .int, 2) := by decide +kernel
theorem dX11_init_141 : decode cX11_init 141 = .ok (.putfield 56, 3) := by decide +kernel
theorem dX11_init_144 : decode cX11_init 144 = .ok (.aload_n 0, 1) := by decide +kernel
theorem dX11_init_145 : decode cX11_init 145 = .ok (.sipush 8192, 3) := by decide +kernel
theorem dX11_init_148 : decode cX11_init 148 = .ok (.newarray .int, 2) := by decide +kernel
theorem dX11_init_150 : decode cX11_init 150 = .ok (.putfield 59, 3) := by decide +kernel
theorem dX11_init_153 : decode cX11_init 153 = .ok (.aload_n 0, 1) := by decide +kernel
theorem dX11_init_154 : decode cX11_init 154 = .ok (.sipush 8192, 3) := by decide +kernel
theorem dX11_init_157 : decode cX11_init 157 = .ok (.newarray .int, 2) := by decide +kernel
theorem dX11_init_159 : decode cX11_init 159 = .ok (.putfield 62, 3) := by decide +kernel
theorem dX11_init_162 : decode cX11_init 162 = .ok (.aload_n 0, 1) := by decide +kernel
theorem dX11_init_163 : decode cX11_init 163 = .ok (.sipush 1600, 3) := by decide +kernel
theorem dX11_init_166 : decode cX11_init 166 = .ok (.newarray .long, 2) := by decide +kernel
theorem dX11_init_168 : decode cX11_init 168 = .ok (.putfield 65, 3) := by decide +kernel
theorem dX11_init_171 : decode cX11_init 171 = .ok (.aload_n 0, 1) := by decide +kernel
theorem dX11_init_172 : decode cX11_init 172 = .ok (.sipush 1600, 3) := by decide +kernel
theorem dX11_init_175 : decode cX11_init 175 = .ok (.newarray .long, 2) := by decide +kernel
theorem dX11_init_177 : decode cX11_init 177 = .ok (.putfield 69, 3) := by decide +kernel
theorem dX11_init_180 : decode cX11_init 180 = .ok (.aload_n 0, 1) := by decide +kernel
theorem dX11_init_181 : decode cX11_init 181 = .ok (.sipush 20480, 3) := by decide +kernel
theorem dX11_init_184 : decode cX11_init 184 = .ok (.newarray .int, 2) := by decide +kernel
theorem dX11_init_186 : decode cX11_init 186 = .ok (.putfield 72, 3) := by decide +kernel
theorem dX11_init_189 : decode cX11_init 189 = .ok (.aload_n 0, 1) := by decide +kernel
theorem dX11_init_190 : decode cX11_init 190 = .ok (.sipush 20480, 3) := by decide +kernel
theorem dX11_init_193 : decode cX11_init 193 = .ok (.newarray .int, 2) := by decide +kernel
theorem dX11_init_195 : decode cX11_init 195 = .ok (.putfield 75, 3) := by decide +kernel
theorem dX11_init_198 : decode cX11_init 198 = .ok (.aload_n 0, 1) := by decide +kernel
theorem dX11_init_199 : decode cX11_init 199 = .ok (.sipush 20480, 3) := by decide +kernel
theorem dX11_init_202 : decode cX11_init 202 = .ok (.newarray .int, 2) := by decide +kernel
theorem dX11_init_204 : decode cX11_init 204 = .ok (.putfield 78, 3) := by decide +kernel
theorem dX11_init_207 : decode cX11_init 207 = .ok (.aload_n 0, 1) := by decide +kernel
theorem dX11_init_208 : decode cX11_init 208 = .ok (.sipush 20480, 3) := by decide +kernel
theorem dX11_init_211 : decode cX11_init 211 = .ok (.newarray .int, 2) := by decide +kernel
theorem dX11_init_213 : decode cX11_init 213 = .ok (.putfield 81, 3) := by decide +kernel
theorem dX11_init_216 : decode cX11_init 216 = .ok (.aload_n 0, 1) := by decide +kernel
theorem dX11_init_217 : decode cX11_init 217 = .ok (.iconst 2, 1) := by decide +kernel
theorem dX11_init_218 : decode cX11_init 218 = .ok (.newarray .int, 2) := by decide +kernel
theorem dX11_init_220 : decode cX11_init 220 = .ok (.putfield 84, 3) := by decide +kernel
theorem dX11_init_223 : decode cX11_init 223 = .ok (.aload_n 0, 1) := by decide +kernel
theorem dX11_init_224 : decode cX11_init 224 = .ok (.sipush 300, 3) := by decide +kernel
theorem dX11_init_227 : decode cX11_init 227 = .ok (.newarray .int, 2) := by decide +kernel
theorem dX11_init_229 : decode cX11_init 229 = .ok (.putfield 87, 3) := by decide +kernel
theorem dX11_init_232 : decode cX11_init 232 = .ok (.aload_n 0, 1) := by decide +kernel
theorem dX11_init_233 : decode cX11_init 233 = .ok (.sipush 300, 3) := by decide +kernel
theorem dX11_init_236 : decode cX11_init 236 = .ok (.newarray .int, 2) := by decide +kernel
theorem dX11_init_238 : decode cX11_init 238 = .ok (.putfield 90, 3) := by decide +kernel
theorem dX11_init_241 : decode cX11_init 241 = .ok (.aload_n 0, 1) := by decide +kernel
theorem dX11_init_242 : decode cX11_init 242 = .ok (.sipush 200, 3) := by decide +kernel
theorem dX11_init_245 : decode cX11_init 245 = .ok (.newarray .boolean, 2) := by decide +kernel
theorem dX11_init_247 : decode cX11_init 247 = .ok (.putfield 93, 3) := by decide +kernel
theorem dX11_init_250 : decode cX11_init 250 = .ok (.aload_n 0, 1) := by decide +kernel
theorem dX11_init_251 : decode cX11_init 251 = .ok (.sipush 200, 3) := by decide +kernel
theorem dX11_init_254 : decode cX11_init 254 = .ok (.newarray .int, 2) := by decide +kernel
theorem dX11_init_256 : decode cX11_init 256 = .ok (.putfield 96, 3) := by decide +kernel
theorem dX11_init_259 : decode cX11_init 259 = .ok (.aload_n 0, 1) := by decide +kernel
theorem dX11_init_260 : decode cX11_init 260 = .ok (.sipush 200, 3) := by decide +kernel
theorem dX11_init_263 : decode cX11_init 263 = .ok (.newarray .int, 2) := by decide +kernel
theorem dX11_init_265 : decode cX11_init 265 = .ok (.putfield 99, 3) := by decide +kernel
theorem dX11_init_268 : decode cX11_init 268 = .ok (.aload_n 0, 1) := by decide +kernel
theorem dX11_init_269 : decode cX11_init 269 = .ok (.bipush 8, 2) := by decide +kernel
theorem dX11_init_271 : decode cX11_init 271 = .ok (.newarray .int, 2) := by decide +kernel
theorem dX11_init_273 : decode cX11_init 273 = .ok (.putfield 102, 3) := by decide +kernel
theorem dX11_init_276 : decode cX11_init 276 = .ok (.aload_n 0, 1) := by decide +kernel
theorem dX11_init_277 : decode cX11_init 277 = .ok (.sipush 600, 3) := by decide +kernel
theorem dX11_init_280 : decode cX11_init 280 = .ok (.newarray .int, 2) := by decide +kernel
theorem dX11_init_282 : decode cX11_init 282 = .ok (.putfield 105, 3) := by decide +kernel
theorem dX11_init_285 : decode cX11_init 285 = .ok (.aload_n 0, 1) := by decide +kernel
theorem dX11_init_286 : decode cX11_init 286 = .ok (.sipush 8192, 3) := by decide +kernel
theorem dX11_init_289 : decode cX11_init 289 = .ok (.newarray .int, 2) := by decide +kernel
theorem dX11_init_291 : decode cX11_init 291 = .ok (.putfield 108, 3) := by decide +kernel
theorem dX11_init_294 : decode cX11_init 294 = .ok (.aload_n 0, 1) := by decide +kernel
theorem dX11_init_295 : decode cX11_init 295 = .ok (.sipush 1000, 3) := by decide +kernel
theorem dX11_init_298 : decode cX11_init 298 = .ok (.newarray .int, 2) := by decide +kernel
theorem dX11_init_300 : decode cX11_init 300 = .ok (.putfield 111, 3) := by decide +kernel
theorem dX11_init_303 : decode cX11_init 303 = .ok (.aload_n 0, 1) := by decide +kernel
theorem dX11_init_304 : decode cX11_init 304 = .ok (.sipush 200, 3) := by decide +kernel
theorem dX11_init_307 : decode cX11_init 307 = .ok (.newarray .int, 2) := by decide +kernel
theorem dX11_init_309 : decode cX11_init 309 = .ok (.putfield 114, 3) := by decide +kernel
theorem dX11_init_312 : decode cX11_init 312 = .ok (.aload_n 0, 1) := by decide +kernel
theorem dX11_init_313 : decode cX11_init 313 = .ok (.sipush 1000, 3) := by decide +kernel
theorem dX11_init_316 : decode cX11_init 316 = .ok (.newarray .int, 2) := by decide +kernel
theorem dX11_init_318 : decode cX11_init 318 = .ok (.putfield 117, 3) := by decide +kernel
theorem dX11_init_321 : decode cX11_init 321 = .ok (.aload_n 0, 1) := by decide +kernel
theorem dX11_init_322 : decode cX11_init 322 = .ok (.sipush 20000, 3) := by decide +kernel
theorem dX11_init_325 : decode cX11_init 325 = .ok (.newarray .int, 2) := by decide +kernel
theorem dX11_init_327 : decode cX11_init 327 = .ok (.putfield 120, 3) := by decide +kernel
theorem dX11_init_330 : decode cX11_init 330 = .ok (.aload_n 0, 1) := by decide +kernel
theorem dX11_init_331 : decode cX11_init 331 = .ok (.bipush 100, 2) := by decide +kernel
theorem dX11_init_333 : decode cX11_init 333 = .ok (.newarray .int, 2) := by decide +kernel
theorem dX11_init_335 : decode cX11_init 335 = .ok (.putfield 123, 3) := by decide +kernel
theorem dX11_init_338 : decode cX11_init 338 = .ok (.aload_n 0, 1) := by decide +kernel
theorem dX11_init_339 : decode cX11_init 339 = .ok (.bipush 100, 2) := by decide +kernel
theorem dX11_init_341 : decode cX11_init 341 = .ok (.newarray .int, 2) := by decide +kernel
theorem dX11_init_343 : decode cX11_init 343 = .ok (.putfield 126, 3) := by decide +kernel
theorem dX11_init_346 : decode cX11_init 346 = .ok (.aload_n 0, 1) := by decide +kernel
theorem dX11_init_347 : decode cX11_init 347 = .ok (.ldc 129, 2) := by decide +kernel
theorem dX11_init_349 : decode cX11_init 349 = .ok (.newarray .int, 2) := by decide +kernel
theorem dX11_init_351 : decode cX11_init 351 = .ok (.putfield 130, 3) := by decide +kernel
theorem dX11_init_354 : decode cX11_init 354 = .ok (.aload_n 0, 1) := by decide +kernel
theorem dX11_init_355 : decode cX11_init 355 = .ok (.sipush 200, 3) := by decide +kernel
theorem dX11_init_358 : decode cX11_init 358 = .ok (.newarray .int, 2) := by decide +kernel
theorem dX11_init_360 : decode cX11_init 360 = .ok (.putfield 133, 3) := by decide +kernel
theorem dX11_init_363 : decode cX11_init 363 = .ok (.aload_n 0, 1) := by decide +kernel
theorem dX11_init_364 : decode cX11_init 364 = .ok (.sipush 200, 3) := by decide +kernel
theorem dX11_init_367 : decode cX11_init 367 = .ok (.newarray .int, 2) := by decide +kernel
theorem dX11_init_369 : decode cX11_init 369 = .ok (.putfield 136, 3) := by decide +kernel
theorem dX11_init_372 : decode cX11_init 372 = .ok (.aload_n 0, 1) := by decide +kernel
theorem dX11_init_373 : decode cX11_init 373 = .ok (.sipush 300, 3) := by decide +kernel
theorem dX11_init_376 : decode cX11_init 376 = .ok (.newarray .int, 2) := by decide +kernel
theorem dX11_init_378 : decode cX11_init 378 = .ok (.putfield 139, 3) := by decide +kernel
theorem dX11_init_381 : decode cX11_init 381 = .ok (.aload_n 0, 1) := by decide +kernel
theorem dX11_init_382 : decode cX11_init 382 = .ok (.sipush 1000, 3) := by decide +kernel
theorem dX11_init_385 : decode cX11_init 385 = .ok (.newarray .int, 2) := by decide +kernel
theorem dX11_init_387 : decode cX11_init 387 = .ok (.putfield 142, 3) := by decide +kernel
theorem dX11_init_390 : decode cX11_init 390 = .ok (.aload_n 0, 1) := by decide +kernel
theorem dX11_init_391 : decode cX11_init 391 = .ok (.sipush 1000, 3) := by decide +kernel
theorem dX11_init_394 : decode cX11_init 394 = .ok (.newarray .int, 2) := by decide +kernel
theorem dX11_init_396 : decode cX11_init 396 = .ok (.putfield 145, 3) := by decide +kernel
theorem dX11_init_399 : decode cX11_init 399 = .ok (.aload_n 0, 1) := by decide +kernel
theorem dX11_init_400 : decode cX11_init 400 = .ok (.sipush 1000, 3) := by decide +kernel
theorem dX11_init_403 : decode cX11_init 403 = .ok (.newarray .int, 2) := by decide +kernel
theorem dX11_init_405 : decode cX11_init 405 = .ok (.putfield 148, 3) := by decide +kernel
theorem dX11_init_408 : decode cX11_init 408 = .ok (.aload_n 0, 1) := by decide +kernel
theorem dX11_init_409 : decode cX11_init 409 = .ok (.sipush 1000, 3) := by decide +kernel
theorem dX11_init_412 : decode cX11_init 412 = .ok (.newarray .int, 2) := by decide +kernel
theorem dX11_init_414 : decode cX11_init 414 = .ok (.putfield 151, 3) := by decide +kernel
theorem dX11_init_417 : decode cX11_init 417 = .ok (.aload_n 0, 1) := by decide +kernel
theorem dX11_init_418 : decode cX11_init 418 = .ok (.sipush 20000, 3) := by decide +kernel
theorem dX11_init_421 : decode cX11_init 421 = .ok (.newarray .int, 2) := by decide +kernel
theorem dX11_init_423 : decode cX11_init 423 = .ok (.putfield 154, 3) := by decide +kernel
theorem dX11_init_426 : decode cX11_init 426 = .ok (.aload_n 0, 1) := by decide +kernel
theorem dX11_init_427 : decode cX11_init 427 = .ok (.bipush 100, 2) := by decide +kernel
theorem dX11_init_429 : decode cX11_init 429 = .ok (.newarray .int, 2) := by decide +kernel
theorem dX11_init_431 : decode cX11_init 431 = .ok (.putfield 157, 3) := by decide +kernel
theorem dX11_init_434 : decode cX11_init 434 = .ok (.aload_n 0, 1) := by decide +kernel
theorem dX11_init_435 : decode cX11_init 435 = .ok (.sipush 1000, 3) := by decide +kernel
theorem dX11_init_438 : decode cX11_init 438 = .ok (.newarray .int, 2) := by decide +kernel
theorem dX11_init_440 : decode cX11_init 440 = .ok (.putfield 160, 3) := by decide +kernel
theorem dX11_init_443 : decode cX11_init 443 = .ok (.aload_n 0, 1) := by decide +kernel
theorem dX11_init_444 : decode cX11_init 444 = .ok (.sipush 1000, 3) := by decide +kernel
theorem dX11_init_447 : decode cX11_init 447 = .ok (.newarray .int, 2) := by decide +kernel
theorem dX11_init_449 : decode cX11_init 449 = .ok (.putfield 163, 3) := by decide +kernel
theorem dX11_init_452 : decode cX11_init 452 = .ok (.aload_n 0, 1) := by decide +kernel
theorem dX11_init_453 : decode cX11_init 453 = .ok (.sipush 1001, 3) := by decide +kernel
theorem dX11_init_456 : decode cX11_init 456 = .ok (.newarray .int, 2) := by decide +kernel
theorem dX11_init_458 : decode cX11_init 458 = .ok (.putfield 166, 3) := by decide +kernel
theorem dX11_init_461 : decode cX11_init 461 = .ok (.aload_n 0, 1) := by decide +kernel
theorem dX11_init_462 : decode cX11_init 462 = .ok (.sipush 1001, 3) := by decide +kernel
theorem dX11_init_465 : decode cX11_init 465 = .ok (.newarray .int, 2) := by decide +kernel
theorem dX11_init_467 : decode cX11_init 467 = .ok (.putfield 169, 3) := by decide +kernel
theorem dX11_init_470 : decode cX11_init 470 = .ok (.aload_n 0, 1) := by decide +kernel
theorem dX11_init_471 : decode cX11_init 471 = .ok (.sipush 1000, 3) := by decide +kernel
theorem dX11_init_474 : decode cX11_init 474 = .ok (.newarray .int, 2) := by decide +kernel
theorem dX11_init_476 : decode cX11_init 476 = .ok (.putfield 172, 3) := by decide +kernel
theorem dX11_init_479 : decode cX11_init 479 = .ok (.aload_n 0, 1) := by decide +kernel
theorem dX11_init_480 : decode cX11_init 480 = .ok (.sipush 1000, 3) := by decide +kernel
theorem dX11_init_483 : decode cX11_init 483 = .ok (.newarray .int, 2) := by decide +kernel
theorem dX11_init_485 : decode cX11_init 485 = .ok (.putfield 175, 3) := by decide +kernel
theorem dX11_init_488 : decode cX11_init 488 = .ok (.aload_n 0, 1) := by decide +kernel
theorem dX11_init_489 : decode cX11_init 489 = .ok (.sipush 200, 3) := by decide +kernel
theorem dX11_init_492 : decode cX11_init 492 = .ok (.newarray .int, 2) := by decide +kernel
theorem dX11_init_494 : decode cX11_init 494 = .ok (.putfield 178, 3) := by decide +kernel
theorem dX11_init_497 : decode cX11_init 497 = .ok (.aload_n 0, 1) := by decide +kernel
theorem dX11_init_498 : decode cX11_init 498 = .ok (.sipush 6000, 3) := by decide +kernel
theorem dX11_init_501 : decode cX11_init 501 = .ok (.newarray .int, 2) := by decide +kernel
theorem dX11_init_503 : decode cX11_init 503 = .ok (.putfield 181, 3) := by decide +kernel
theorem dX11_init_506 : decode cX11_init 506 = .ok (.aload_n 0, 1) := by decide +kernel
theorem dX11_init_507 : decode cX11_init 507 = .ok (.sipush 6000, 3) := by decide +kernel
theorem dX11_init_510 : decode cX11_init 510 = .ok (.newarray .int, 2) := by decide +kernel
theorem dX11_init_512 : decode cX11_init 512 = .ok (.putfield 184, 3) := by decide +kernel
theorem dX11_init_515 : decode cX11_init 515 = .ok (.aload_n 0, 1) := by decide +kernel
theorem dX11_init_516 : decode cX11_init 516 = .ok (.sipush 200, 3) := by decide +kernel
theorem dX11_init_519 : decode cX11_init 519 = .ok (.newarray .boolean, 2) := by decide +kernel
theorem dX11_init_521 : decode cX11_init 521 = .ok (.putfield 187, 3) := by decide +kernel
theorem dX11_init_524 : decode cX11_init 524 = .ok (.aload_n 0, 1) := by decide +kernel
theorem dX11_init_525 : decode cX11_init 525 = .ok (.sipush 2002, 3) := by decide +kernel
theorem dX11_init_528 : decode cX11_init 528 = .ok (.newarray .int, 2) := by decide +kernel
theorem dX11_init_530 : decode cX11_init 530 = .ok (.putfield 190, 3) := by decide +kernel
theorem dX11_init_533 : decode cX11_init 533 = .ok (.return_, 1) := by decide +kernel
theorem dX11_feed_0 : decode cX11_feed 0 = .ok (.iconst 0, 1) := by decide +kernel
theorem dX11_feed_1 : decode cX11_feed 1 = .ok (.istore 5, 2) := by decide +kernel
theorem dX11_feed_3 : decode cX11_feed 3 = .ok (.iconst 0, 1) := by decide +kernel
theorem dX11_feed_4 : decode cX11_feed 4 = .ok (.istore 6, 2) := by decide +kernel
theorem dX11_feed_6 : decode cX11_feed 6 = .ok (.iload 6, 2) := by decide +kernel
theorem dX11_feed_8 : decode cX11_feed 8 = .ok (.bipush 16, 2) := by decide +kernel
theorem dX11_feed_10 : decode cX11_feed 10 = .ok (.if_icmp .ge 30, 3) := by decide +kernel
theorem dX11_feed_13 : decode cX11_feed 13 = .ok (.lload_n 1, 1) := by decide +kernel
theorem dX11_feed_14 : decode cX11_feed 14 = .ok (.lload_n 3, 1) := by decide +kernel
theorem dX11_feed_15 : decode cX11_feed 15 = .ok (.iload 6, 2) := by decide +kernel
theorem dX11_feed_17 : decode cX11_feed 17 = .ok (.invokestatic 193, 3) := by decide +kernel
theorem dX11_feed_20 : decode cX11_feed 20 = .ok (.ifCond .eq 10, 3) := by decide +kernel
theorem dX11_feed_23 : decode cX11_feed 23 = .ok (.iload 5, 2) := by decide +kernel
theorem dX11_feed_25 : decode cX11_feed 25 = .ok (.iconst 1, 1) := by decide +kernel
theorem dX11_feed_26 : decode cX11_feed 26 = .ok (.iadd, 1) := by decide +kernel
theorem dX11_feed_27 : decode cX11_feed 27 = .ok (.goto 5, 3) := by decide +kernel
theorem dX11_feed_30 : decode cX11_feed 30 = .ok (.iload 5, 2) := by decide +kernel
theorem dX11_feed_32 : decode cX11_feed 32 = .ok (.istore 5, 2) := by decide +kernel
theorem dX11_feed_34 : decode cX11_feed 34 = .ok (.iinc 6 1, 3) := by decide +kernel
theorem dX11_feed_37 : decode cX11_feed 37 = .ok (.goto (-31), 3) := by decide +kernel
theorem dX11_feed_40 : decode cX11_feed 40 = .ok (.aload_n 0, 1) := by decide +kernel
theorem dX11_feed_41 : decode cX11_feed 41 = .ok (.getfield 197, 3) := by decide +kernel
theorem dX11_feed_44 : decode cX11_feed 44 = .ok (.iload 5, 2) := by decide +kernel
theorem dX11_feed_46 : decode cX11_feed 46 = .ok (.iadd, 1) := by decide +kernel
theorem dX11_feed_47 : decode cX11_feed 47 = .ok (.sipush 8192, 3) := by decide +kernel
theorem dX11_feed_50 : decode cX11_feed 50 = .ok (.if_icmp .le 6, 3) := by decide +kernel
theorem dX11_feed_53 : decode cX11_feed 53 = .ok (.bipush (-3), 2) := by decide +kernel
theorem dX11_feed_55 : decode cX11_feed 55 = .ok (.ireturn, 1) := by decide +kernel
theorem dX11_feed_56 : decode cX11_feed 56 = .ok (.iconst 0, 1) := by decide +kernel
theorem dX11_feed_57 : decode cX11_feed 57 = .ok (.istore 6, 2) := by decide +kernel
theorem dX11_feed_59 : decode cX11_feed 59 = .ok (.iload 6, 2) := by decide +kernel
theorem dX11_feed_61 : decode cX11_feed 61 = .ok (.bipush 16, 2) := by decide +kernel
theorem dX11_feed_63 : decode cX11_feed 63 = .ok (.if_icmp .ge 44, 3) := by decide +kernel
theorem dX11_feed_66 : decode cX11_feed 66 = .ok (.lload_n 1, 1) := by decide +kernel
theorem dX11_feed_67 : decode cX11_feed 67 = .ok (.lload_n 3, 1) := by decide +kernel
theorem dX11_feed_68 : decode cX11_feed 68 = .ok (.iload 6, 2) := by decide +kernel
theorem dX11_feed_70 : decode cX11_feed 70 = .ok (.invokestatic 193, 3) := by decide +kernel
theorem dX11_feed_73 : decode cX11_feed 73 = .ok (.istore 7, 2) := by decide +kernel
theorem dX11_feed_75 : decode cX11_feed 75 = .ok (.iload 7, 2) := by decide +kernel
theorem dX11_feed_77 : decode cX11_feed 77 = .ok (.ifCond .eq 24, 3) := by decide +kernel
theorem dX11_feed_80 : decode cX11_feed 80 = .ok (.aload_n 0, 1) := by decide +kernel
theorem dX11_feed_81 : decode cX11_feed 81 = .ok (.getfield 7, 3) := by decide +kernel
theorem dX11_feed_84 : decode cX11_feed 84 = .ok (.aload_n 0, 1) := by decide +kernel
theorem dX11_feed_85 : decode cX11_feed 85 = .ok (.getfield 197, 3) := by decide +kernel
theorem dX11_feed_88 : decode cX11_feed 88 = .ok (.iload 7, 2) := by decide +kernel
theorem dX11_feed_90 : decode cX11_feed 90 = .ok (.iastore, 1) := by decide +kernel
theorem dX11_feed_91 : decode cX11_feed 91 = .ok (.aload_n 0, 1) := by decide +kernel
theorem dX11_feed_92 : decode cX11_feed 92 = .ok (.dup, 1) := by decide +kernel
theorem dX11_feed_93 : decode cX11_feed 93 = .ok (.getfield 197, 3) := by decide +kernel
theorem dX11_feed_96 : decode cX11_feed 96 = .ok (.iconst 1, 1) := by decide +kernel
theorem dX11_feed_97 : decode cX11_feed 97 = .ok (.iadd, 1) := by decide +kernel
theorem dX11_feed_98 : decode cX11_feed 98 = .ok (.putfield 197, 3) := by decide +kernel
theorem dX11_feed_101 : decode cX11_feed 101 = .ok (.iinc 6 1, 3) := by decide +kernel
theorem dX11_feed_104 : decode cX11_feed 104 = .ok (.goto (-45), 3) := by decide +kernel
theorem dX11_feed_107 : decode cX11_feed 107 = .ok (.aload_n 0, 1) := by decide +kernel
theorem dX11_feed_108 : decode cX11_feed 108 = .ok (.getfield 197, 3) := by decide +kernel
theorem dX11_feed_111 : decode cX11_feed 111 = .ok (.ireturn, 1) := by decide +kernel
theorem dX11_byteOf_0 : decode cX11_byteOf 0 = .ok (.iload 4, 2) := by decide +kernel
theorem dX11_byteOf_2 : decode cX11_byteOf 2 = .ok (.bipush 8, 2) := by decide +kernel
theorem dX11_byteOf_4 : decode cX11_byteOf 4 = .ok (.if_icmp .ge 7, 3) := by decide +kernel
theorem dX11_byteOf_7 : decode cX11_byteOf 7 = .ok (.lload_n 0, 1) := by decide +kernel
theorem dX11_byteOf_8 : decode cX11_byteOf 8 = .ok (.goto 4, 3) := by decide +kernel
theorem dX11_byteOf_11 : decode cX11_byteOf 11 = .ok (.lload_n 2, 1) := by decide +kernel
theorem dX11_byteOf_12 : decode cX11_byteOf 12 = .ok (.lstore 5, 2) := by decide +kernel
theorem dX11_byteOf_14 : decode cX11_byteOf 14 = .ok (.lload 5, 2) := by decide +kernel
theorem dX11_byteOf_16 : decode cX11_byteOf 16 = .ok (.bipush 56, 2) := by decide +kernel
theorem dX11_byteOf_18 : decode cX11_byteOf 18 = .ok (.bipush 8, 2) := by decide +kernel
theorem dX11_byteOf_20 : decode cX11_byteOf 20 = .ok (.iload 4, 2) := by decide +kernel
theorem dX11_byteOf_22 : decode cX11_byteOf 22 = .ok (.bipush 8, 2) := by decide +kernel
theorem dX11_byteOf_24 : decode cX11_byteOf 24 = .ok (.irem, 1) := by decide +kernel
theorem dX11_byteOf_25 : decode cX11_byteOf 25 = .ok (.imul, 1) := by decide +kernel
theorem dX11_byteOf_26 : decode cX11_byteOf 26 = .ok (.isub, 1) := by decide +kernel
theorem dX11_byteOf_27 : decode cX11_byteOf 27 = .ok (.lushr, 1) := by decide +kernel
theorem dX11_byteOf_28 : decode cX11_byteOf 28 = .ok (.ldc2_w 201, 3) := by decide +kernel
theorem dX11_byteOf_31 : decode cX11_byteOf 31 = .ok (.land, 1) := by decide +kernel
theorem dX11_byteOf_32 : decode cX11_byteOf 32 = .ok (.l2i, 1) := by decide +kernel
theorem dX11_byteOf_33 : decode cX11_byteOf 33 = .ok (.ireturn, 1) := by decide +kernel
theorem dX11_isBlank_0 : decode cX11_isBlank 0 = .ok (.iload_n 0, 1) := by decide +kernel
theorem dX11_isBlank_1 : decode cX11_isBlank 1 = .ok (.bipush 9, 2) := by decide +kernel
theorem dX11_isBlank_3 : decode cX11_isBlank 3 = .ok (.if_icmp .eq 27, 3) := by decide +kernel
theorem dX11_isBlank_6 : decode cX11_isBlank 6 = .ok (.iload_n 0, 1) := by decide +kernel
theorem dX11_isBlank_7 : decode cX11_isBlank 7 = .ok (.bipush 10, 2) := by decide +kernel
theorem dX11_isBlank_9 : decode cX11_isBlank 9 = .ok (.if_icmp .eq 21, 3) := by decide +kernel
theorem dX11_isBlank_12 : decode cX11_isBlank 12 = .ok (.iload_n 0, 1) := by decide +kernel
theorem dX11_isBlank_13 : decode cX11_isBlank 13 = .ok (.bipush 12, 2) := by decide +kernel
theorem dX11_isBlank_15 : decode cX11_isBlank 15 = .ok (.if_icmp .eq 15, 3) := by decide +kernel
theorem dX11_isBlank_18 : decode cX11_isBlank 18 = .ok (.iload_n 0, 1) := by decide +kernel
theorem dX11_isBlank_19 : decode cX11_isBlank 19 = .ok (.bipush 13, 2) := by decide +kernel
theorem dX11_isBlank_21 : decode cX11_isBlank 21 = .ok (.if_icmp .eq 9, 3) := by decide +kernel
theorem dX11_isBlank_24 : decode cX11_isBlank 24 = .ok (.iload_n 0, 1) := by decide +kernel
theorem dX11_isBlank_25 : decode cX11_isBlank 25 = .ok (.bipush 32, 2) := by decide +kernel
theorem dX11_isBlank_27 : decode cX11_isBlank 27 = .ok (.if_icmp .ne 7, 3) := by decide +kernel
theorem dX11_isBlank_30 : decode cX11_isBlank 30 = .ok (.iconst 1, 1) := by decide +kernel
theorem dX11_isBlank_31 : decode cX11_isBlank 31 = .ok (.goto 4, 3) := by decide +kernel
theorem dX11_isBlank_34 : decode cX11_isBlank 34 = .ok (.iconst 0, 1) := by decide +kernel
theorem dX11_isBlank_35 : decode cX11_isBlank 35 = .ok (.ireturn, 1) := by decide +kernel
theorem dX11_nextToken_0 : decode cX11_nextToken 0 = .ok (.aload_n 0, 1) := by decide +kernel
theorem dX11_nextToken_1 : decode cX11_nextToken 1 = .ok (.getfield 203, 3) := by decide +kernel
theorem dX11_nextToken_4 : decode cX11_nextToken 4 = .ok (.aload_n 0, 1) := by decide +kernel
theorem dX11_nextToken_5 : decode cX11_nextToken 5 = .ok (.getfield 197, 3) := by decide +kernel
theorem dX11_nextToken_8 : decode cX11_nextToken 8 = .ok (.if_icmp .ge 31, 3) := by decide +kernel
theorem dX11_nextToken_11 : decode cX11_nextToken 11 = .ok (.aload_n 0, 1) := by decide +kernel
theorem dX11_nextToken_12 : decode cX11_nextToken 12 = .ok (.getfield 7, 3) := by decide +kernel
theorem dX11_nextToken_15 : decode cX11_nextToken 15 = .ok (.aload_n 0, 1) := by decide +kernel
theorem dX11_nextToken_16 : decode cX11_nextToken 16 = .ok (.getfield 203, 3) := by decide +kernel
theorem dX11_nextToken_19 : decode cX11_nextToken 19 = .ok (.iaload, 1) := by decide +kernel
theorem dX11_nextToken_20 : decode cX11_nextToken 20 = .ok (.invokestatic 206, 3) := by decide +kernel
theorem dX11_nextToken_23 : decode cX11_nextToken 23 = .ok (.ifCond .eq 16, 3) := by decide +kernel
theorem dX11_nextToken_26 : decode cX11_nextToken 26 = .ok (.aload_n 0, 1) := by decide +kernel
theorem dX11_nextToken_27 : decode cX11_nextToken 27 = .ok (.dup, 1) := by decide +kernel
theorem dX11_nextToken_28 : decode cX11_nextToken 28 = .ok (.getfield 203, 3) := by decide +kernel
theorem dX11_nextToken_31 : decode cX11_nextToken 31 = .ok (.iconst 1, 1) := by decide +kernel
theorem dX11_nextToken_32 : decode cX11_nextToken 32 = .ok (.iadd, 1) := by decide +kernel
theorem dX11_nextToken_33 : decode cX11_nextToken 33 = .ok (.putfield 203, 3) := by decide +kernel
theorem dX11_nextToken_36 : decode cX11_nextToken 36 = .ok (.goto (-36), 3) := by decide +kernel
theorem dX11_nextToken_39 : decode cX11_nextToken 39 = .ok (.aload_n 0, 1) := by decide +kernel
theorem dX11_nextToken_40 : decode cX11_nextToken 40 = .ok (.aload_n 0, 1) := by decide +kernel
theorem dX11_nextToken_41 : decode cX11_nextToken 41 = .ok (.getfield 203, 3) := by decide +kernel
theorem dX11_nextToken_44 : decode cX11_nextToken 44 = .ok (.putfield 210, 3) := by decide +kernel
theorem dX11_nextToken_47 : decode cX11_nextToken 47 = .ok (.aload_n 0, 1) := by decide +kernel
theorem dX11_nextToken_48 : decode cX11_nextToken 48 = .ok (.getfield 203, 3) := by decide +kernel
theorem dX11_nextToken_51 : decode cX11_nextToken 51 = .ok (.aload_n 0, 1) := by decide +kernel
theorem dX11_nextToken_52 : decode cX11_nextToken 52 = .ok (.getfield 197, 3) := by decide +kernel
theorem dX11_nextToken_55 : decode cX11_nextToken 55 = .ok (.if_icmp .ge 31, 3) := by decide +kernel
theorem dX11_nextToken_58 : decode cX11_nextToken 58 = .ok (.aload_n 0, 1) := by decide +kernel
theorem dX11_nextToken_59 : decode cX11_nextToken 59 = .ok (.getfield 7, 3) := by decide +kernel
theorem dX11_nextToken_62 : decode cX11_nextToken 62 = .ok (.aload_n 0, 1) := by decide +kernel
theorem dX11_nextToken_63 : decode cX11_nextToken 63 = .ok (.getfield 203, 3) := by decide +kernel
theorem dX11_nextToken_66 : decode cX11_nextToken 66 = .ok (.iaload, 1) := by decide +kernel
theorem dX11_nextToken_67 : decode cX11_nextToken 67 = .ok (.invokestatic 206, 3) := by decide +kernel
theorem dX11_nextToken_70 : decode cX11_nextToken 70 = .ok (.ifCond .ne 16, 3) := by decide +kernel
theorem dX11_nextToken_73 : decode cX11_nextToken 73 = .ok (.aload_n 0, 1) := by decide +kernel
theorem dX11_nextToken_74 : decode cX11_nextToken 74 = .ok (.dup, 1) := by decide +kernel
theorem dX11_nextToken_75 : decode cX11_nextToken 75 = .ok (.getfield 203, 3) := by decide +kernel
theorem dX11_nextToken_78 : decode cX11_nextToken 78 = .ok (.iconst 1, 1) := by decide +kernel
theorem dX11_nextToken_79 : decode cX11_nextToken 79 = .ok (.iadd, 1) := by decide +kernel
theorem dX11_nextToken_80 : decode cX11_nextToken 80 = .ok (.putfield 203, 3) := by decide +kernel
theorem dX11_nextToken_83 : decode cX11_nextToken 83 = .ok (.goto (-36), 3) := by decide +kernel
theorem dX11_nextToken_86 : decode cX11_nextToken 86 = .ok (.aload_n 0, 1) := by decide +kernel
theorem dX11_nextToken_87 : decode cX11_nextToken 87 = .ok (.aload_n 0, 1) := by decide +kernel
theorem dX11_nextToken_88 : decode cX11_nextToken 88 = .ok (.getfield 203, 3) := by decide +kernel
theorem dX11_nextToken_91 : decode cX11_nextToken 91 = .ok (.aload_n 0, 1) := by decide +kernel
theorem dX11_nextToken_92 : decode cX11_nextToken 92 = .ok (.getfield 210, 3) := by decide +kernel
theorem dX11_nextToken_95 : decode cX11_nextToken 95 = .ok (.isub, 1) := by decide +kernel
theorem dX11_nextToken_96 : decode cX11_nextToken 96 = .ok (.putfield 213, 3) := by decide +kernel
theorem dX11_nextToken_99 : decode cX11_nextToken 99 = .ok (.aload_n 0, 1) := by decide +kernel
theorem dX11_nextToken_100 : decode cX11_nextToken 100 = .ok (.getfield 213, 3) := by decide +kernel
theorem dX11_nextToken_103 : decode cX11_nextToken 103 = .ok (.ifCond .le 7, 3) := by decide +kernel
theorem dX11_nextToken_106 : decode cX11_nextToken 106 = .ok (.iconst 1, 1) := by decide +kernel
theorem dX11_nextToken_107 : decode cX11_nextToken 107 = .ok (.goto 4, 3) := by decide +kernel
theorem dX11_nextToken_110 : decode cX11_nextToken 110 = .ok (.iconst 0, 1) := by decide +kernel
theorem dX11_nextToken_111 : decode cX11_nextToken 111 = .ok (.ireturn, 1) := by decide +kernel
theorem dX11_hasBad_0 : decode cX11_hasBad 0 = .ok (.iconst 0, 1) := by decide +kernel
theorem dX11_hasBad_1 : decode cX11_hasBad 1 = .ok (.istore_n 1, 1) := by decide +kernel
theorem dX11_hasBad_2 : decode cX11_hasBad 2 = .ok (.aload_n 0, 1) := by decide +kernel
theorem dX11_hasBad_3 : decode cX11_hasBad 3 = .ok (.getfield 210, 3) := by decide +kernel
theorem dX11_hasBad_6 : decode cX11_hasBad 6 = .ok (.istore_n 2, 1) := by decide +kernel
theorem dX11_hasBad_7 : decode cX11_hasBad 7 = .ok (.iload_n 2, 1) := by decide +kernel
theorem dX11_hasBad_8 : decode cX11_hasBad 8 = .ok (.aload_n 0, 1) := by decide +kernel
theorem dX11_hasBad_9 : decode cX11_hasBad 9 = .ok (.getfield 210, 3) := by decide +kernel
theorem dX11_hasBad_12 : decode cX11_hasBad 12 = .ok (.aload_n 0, 1) := by decide +kernel
theorem dX11_hasBad_13 : decode cX11_hasBad 13 = .ok (.getfield 213, 3) := by decide +kernel
theorem dX11_hasBad_16 : decode cX11_hasBad 16 = .ok (.iadd, 1) := by decide +kernel
theorem dX11_hasBad_17 : decode cX11_hasBad 17 = .ok (.if_icmp .ge 41, 3) := by decide +kernel
theorem dX11_hasBad_20 : decode cX11_hasBad 20 = .ok (.iload_n 1, 1) := by decide +kernel
theorem dX11_hasBad_21 : decode cX11_hasBad 21 = .ok (.ifCond .ne 25, 3) := by decide +kernel
theorem dX11_hasBad_24 : decode cX11_hasBad 24 = .ok (.aload_n 0, 1) := by decide +kernel
theorem dX11_hasBad_25 : decode cX11_hasBad 25 = .ok (.getfield 7, 3) := by decide +kernel
theorem dX11_hasBad_28 : decode cX11_hasBad 28 = .ok (.iload_n 2, 1) := by decide +kernel
theorem dX11_hasBad_29 : decode cX11_hasBad 29 = .ok (.iaload, 1) := by decide +kernel
theorem dX11_hasBad_30 : decode cX11_hasBad 30 = .ok (.bipush 33, 2) := by decide +kernel
theorem dX11_hasBad_32 : decode cX11_hasBad 32 = .ok (.if_icmp .lt 14, 3) := by decide +kernel
theorem dX11_hasBad_35 : decode cX11_hasBad 35 = .ok (.aload_n 0, 1) := by decide +kernel
theorem dX11_hasBad_36 : decode cX11_hasBad 36 = .ok (.getfield 7, 3) := by decide +kernel
theorem dX11_hasBad_39 : decode cX11_hasBad 39 = .ok (.iload_n 2, 1) := by decide +kernel
theorem dX11_hasBad_40 : decode cX11_hasBad 40 = .ok (.iaload, 1) := by decide +kernel
theorem dX11_hasBad_41 : decode cX11_hasBad 41 = .ok (.bipush 126, 2) := by decide +kernel
theorem dX11_hasBad_43 : decode cX11_hasBad 43 = .ok (.if_icmp .le 7, 3) := by decide +kernel
theorem dX11_hasBad_46 : decode cX11_hasBad 46 = .ok (.iconst 1, 1) := by decide +kernel
theorem dX11_hasBad_47 : decode cX11_hasBad 47 = .ok (.goto 4, 3) := by decide +kernel
theorem dX11_hasBad_50 : decode cX11_hasBad 50 = .ok (.iconst 0, 1) := by decide +kernel
theorem dX11_hasBad_51 : decode cX11_hasBad 51 = .ok (.istore_n 1, 1) := by decide +kernel
theorem dX11_hasBad_52 : decode cX11_hasBad 52 = .ok (.iinc 2 1, 3) := by decide +kernel
theorem dX11_hasBad_55 : decode cX11_hasBad 55 = .ok (.goto (-48), 3) := by decide +kernel
theorem dX11_hasBad_58 : decode cX11_hasBad 58 = .ok (.iload_n 1, 1) := by decide +kernel
theorem dX11_hasBad_59 : decode cX11_hasBad 59 = .ok (.ireturn, 1) := by decide +kernel
theorem dX11_hasDollar_0 : decode cX11_hasDollar 0 = .ok (.iconst 0, 1) := by decide +kernel
theorem dX11_hasDollar_1 : decode cX11_hasDollar 1 = .ok (.istore_n 1, 1) := by decide +kernel
theorem dX11_hasDollar_2 : decode cX11_hasDollar 2 = .ok (.aload_n 0, 1) := by decide +kernel
theorem dX11_hasDollar_3 : decode cX11_hasDollar 3 = .ok (.getfield 210, 3) := by decide +kernel
theorem dX11_hasDollar_6 : decode cX11_hasDollar 6 = .ok (.istore_n 2, 1) := by decide +kernel
theorem dX11_hasDollar_7 : decode cX11_hasDollar 7 = .ok (.iload_n 2, 1) := by decide +kernel
theorem dX11_hasDollar_8 : decode cX11_hasDollar 8 = .ok (.aload_n 0, 1) := by decide +kernel
theorem dX11_hasDollar_9 : decode cX11_hasDollar 9 = .ok (.getfield 210, 3) := by decide +kernel
theorem dX11_hasDollar_12 : decode cX11_hasDollar 12 = .ok (.aload_n 0, 1) := by decide +kernel
theorem dX11_hasDollar_13 : decode cX11_hasDollar 13 = .ok (.getfield 213, 3) := by decide +kernel
theorem dX11_hasDollar_16 : decode cX11_hasDollar 16 = .ok (.iadd, 1) := by decide +kernel
theorem dX11_hasDollar_17 : decode cX11_hasDollar 17 = .ok (.if_icmp .ge 30, 3) := by decide +kernel
theorem dX11_hasDollar_20 : decode cX11_hasDollar 20 = .ok (.iload_n 1, 1) := by decide +kernel
theorem dX11_hasDollar_21 : decode cX11_hasDollar 21 = .ok (.ifCond .ne 14, 3) := by decide +kernel
theorem dX11_hasDollar_24 : decode cX11_hasDollar 24 = .ok (.aload_n 0, 1) := by decide +kernel
theorem dX11_hasDollar_25 : decode cX11_hasDollar 25 = .ok (.getfield 7, 3) := by decide +kernel
theorem dX11_hasDollar_28 : decode cX11_hasDollar 28 = .ok (.iload_n 2, 1) := by decide +kernel
theorem dX11_hasDollar_29 : decode cX11_hasDollar 29 = .ok (.iaload, 1) := by decide +kernel
theorem dX11_hasDollar_30 : decode cX11_hasDollar 30 = .ok (.bipush 36, 2) := by decide +kernel
theorem dX11_hasDollar_32 : decode cX11_hasDollar 32 = .ok (.if_icmp .ne 7, 3) := by decide +kernel
theorem dX11_hasDollar_35 : decode cX11_hasDollar 35 = .ok (.iconst 1, 1) := by decide +kernel
theorem dX11_hasDollar_36 : decode cX11_hasDollar 36 = .ok (.goto 4, 3) := by decide +kernel
theorem dX11_hasDollar_39 : decode cX11_hasDollar 39 = .ok (.iconst 0, 1) := by decide +kernel
theorem dX11_hasDollar_40 : decode cX11_hasDollar 40 = .ok (.istore_n 1, 1) := by decide +kernel
theorem dX11_hasDollar_41 : decode cX11_hasDollar 41 = .ok (.iinc 2 1, 3) := by decide +kernel
theorem dX11_hasDollar_44 : decode cX11_hasDollar 44 = .ok (.goto (-37), 3) := by decide +kernel
theorem dX11_hasDollar_47 : decode cX11_hasDollar 47 = .ok (.iload_n 1, 1) := by decide +kernel
theorem dX11_hasDollar_48 : decode cX11_hasDollar 48 = .ok (.ireturn, 1) := by decide +kernel
theorem dX11_hasPart_0 : decode cX11_hasPart 0 = .ok (.iconst 0, 1) := by decide +kernel
theorem dX11_hasPart_1 : decode cX11_hasPart 1 = .ok (.istore_n 2, 1) := by decide +kernel
theorem dX11_hasPart_2 : decode cX11_hasPart 2 = .ok (.aload_n 0, 1) := by decide +kernel
theorem dX11_hasPart_3 : decode cX11_hasPart 3 = .ok (.getfield 210, 3) := by decide +kernel
theorem dX11_hasPart_6 : decode cX11_hasPart 6 = .ok (.istore_n 3, 1) := by decide +kernel
theorem dX11_hasPart_7 : decode cX11_hasPart 7 = .ok (.iload_n 3, 1) := by decide +kernel
theorem dX11_hasPart_8 : decode cX11_hasPart 8 = .ok (.iconst 1, 1) := by decide +kernel
theorem dX11_hasPart_9 : decode cX11_hasPart 9 = .ok (.iadd, 1) := by decide +kernel
theorem dX11_hasPart_10 : decode cX11_hasPart 10 = .ok (.aload_n 0, 1) := by decide +kernel
theorem dX11_hasPart_11 : decode cX11_hasPart 11 = .ok (.getfield 210, 3) := by decide +kernel
theorem dX11_hasPart_14 : decode cX11_hasPart 14 = .ok (.aload_n 0, 1) := by decide +kernel
theorem dX11_hasPart_15 : decode cX11_hasPart 15 = .ok (.getfield 213, 3) := by decide +kernel
theorem dX11_hasPart_18 : decode cX11_hasPart 18 = .ok (.iadd, 1) := by decide +kernel
theorem dX11_hasPart_19 : decode cX11_hasPart 19 = .ok (.if_icmp .ge 42, 3) := by decide +kernel
theorem dX11_hasPart_22 : decode cX11_hasPart 22 = .ok (.iload_n 2, 1) := by decide +kernel
theorem dX11_hasPart_23 : decode cX11_hasPart 23 = .ok (.ifCond .ne 26, 3) := by decide +kernel
theorem dX11_hasPart_26 : decode cX11_hasPart 26 = .ok (.aload_n 0, 1) := by decide +kernel
theorem dX11_hasPart_27 : decode cX11_hasPart 27 = .ok (.getfield 7, 3) := by decide +kernel
theorem dX11_hasPart_30 : decode cX11_hasPart 30 = .ok (.iload_n 3, 1) := by decide +kernel
theorem dX11_hasPart_31 : decode cX11_hasPart 31 = .ok (.iaload, 1) := by decide +kernel
theorem dX11_hasPart_32 : decode cX11_hasPart 32 = .ok (.bipush 36, 2) := by decide +kernel
theorem dX11_hasPart_34 : decode cX11_hasPart 34 = .ok (.if_icmp .ne 19, 3) := by decide +kernel
theorem dX11_hasPart_37 : decode cX11_hasPart 37 = .ok (.aload_n 0, 1) := by decide +kernel
theorem dX11_hasPart_38 : decode cX11_hasPart 38 = .ok (.getfield 7, 3) := by decide +kernel
theorem dX11_hasPart_41 : decode cX11_hasPart 41 = .ok (.iload_n 3, 1) := by decide +kernel
theorem dX11_hasPart_42 : decode cX11_hasPart 42 = .ok (.iconst 1, 1) := by decide +kernel
theorem dX11_hasPart_43 : decode cX11_hasPart 43 = .ok (.iadd, 1) := by decide +kernel
theorem dX11_hasPart_44 : decode cX11_hasPart 44 = .ok (.iaload, 1) := by decide +kernel
theorem dX11_hasPart_45 : decode cX11_hasPart 45 = .ok (.iload_n 1, 1) := by decide +kernel
theorem dX11_hasPart_46 : decode cX11_hasPart 46 = .ok (.if_icmp .ne 7, 3) := by decide +kernel
theorem dX11_hasPart_49 : decode cX11_hasPart 49 = .ok (.iconst 1, 1) := by decide +kernel
theorem dX11_hasPart_50 : decode cX11_hasPart 50 = .ok (.goto 4, 3) := by decide +kernel
theorem dX11_hasPart_53 : decode cX11_hasPart 53 = .ok (.iconst 0, 1) := by decide +kernel
theorem dX11_hasPart_54 : decode cX11_hasPart 54 = .ok (.istore_n 2, 1) := by decide +kernel
theorem dX11_hasPart_55 : decode cX11_hasPart 55 = .ok (.iinc 3 1, 3) := by decide +kernel
theorem dX11_hasPart_58 : decode cX11_hasPart 58 = .ok (.goto (-51), 3) := by decide +kernel
theorem dX11_hasPart_61 : decode cX11_hasPart 61 = .ok (.iload_n 2, 1) := by decide +kernel
theorem dX11_hasPart_62 : decode cX11_hasPart 62 = .ok (.ireturn, 1) := by decide +kernel
theorem dX11_isWord_0 : decode cX11_isWord 0 = .ok (.aload_n 0, 1) := by decide +kernel
theorem dX11_isWord_1 : decode cX11_isWord 1 = .ok (.getfield 213, 3) := by decide +kernel
theorem dX11_isWord_4 : decode cX11_isWord 4 = .ok (.iconst 2, 1) := by decide +kernel
theorem dX11_isWord_5 : decode cX11_isWord 5 = .ok (.if_icmp .ne 36, 3) := by decide +kernel
theorem dX11_isWord_8 : decode cX11_isWord 8 = .ok (.aload_n 0, 1) := by decide +kernel
theorem dX11_isWord_9 : decode cX11_isWord 9 = .ok (.getfield 7, 3) := by decide +kernel
theorem dX11_isWord_12 : decode cX11_isWord 12 = .ok (.aload_n 0, 1) := by decide +kernel
theorem dX11_isWord_13 : decode cX11_isWord 13 = .ok (.getfield 210, 3) := by decide +kernel
theorem dX11_isWord_16 : decode cX11_isWord 16 = .ok (.iaload, 1) := by decide +kernel
theorem dX11_isWord_17 : decode cX11_isWord 17 = .ok (.bipush 36, 2) := by decide +kernel
theorem dX11_isWord_19 : decode cX11_isWord 19 = .ok (.if_icmp .ne 22, 3) := by decide +kernel
theorem dX11_isWord_22 : decode cX11_isWord 22 = .ok (.aload_n 0, 1) := by decide +kernel
theorem dX11_isWord_23 : decode cX11_isWord 23 = .ok (.getfield 7, 3) := by decide +kernel
theorem dX11_isWord_26 : decode cX11_isWord 26 = .ok (.aload_n 0, 1) := by decide +kernel
theorem dX11_isWord_27 : decode cX11_isWord 27 = .ok (.getfield 210, 3) := by decide +kernel
theorem dX11_isWord_30 : decode cX11_isWord 30 = .ok (.iconst 1, 1) := by decide +kernel
theorem dX11_isWord_31 : decode cX11_isWord 31 = .ok (.iadd, 1) := by decide +kernel
theorem dX11_isWord_32 : decode cX11_isWord 32 = .ok (.iaload, 1) := by decide +kernel
theorem dX11_isWord_33 : decode cX11_isWord 33 = .ok (.iload_n 1, 1) := by decide +kernel
theorem dX11_isWord_34 : decode cX11_isWord 34 = .ok (.if_icmp .ne 7, 3) := by decide +kernel
theorem dX11_isWord_37 : decode cX11_isWord 37 = .ok (.iconst 1, 1) := by decide +kernel
theorem dX11_isWord_38 : decode cX11_isWord 38 = .ok (.goto 4, 3) := by decide +kernel
theorem dX11_isWord_41 : decode cX11_isWord 41 = .ok (.iconst 0, 1) := by decide +kernel
theorem dX11_isWord_42 : decode cX11_isWord 42 = .ok (.ireturn, 1) := by decide +kernel
theorem dX11_isKeyword_0 : decode cX11_isKeyword 0 = .ok (.aload_n 0, 1) := by decide +kernel
theorem dX11_isKeyword_1 : decode cX11_isKeyword 1 = .ok (.bipush 99, 2) := by decide +kernel
theorem dX11_isKeyword_3 : decode cX11_isKeyword 3 = .ok (.invokevirtual 216, 3) := by decide +kernel
theorem dX11_isKeyword_6 : decode cX11_isKeyword 6 = .ok (.ifCond .ne 93, 3) := by decide +kernel
theorem dX11_isKeyword_9 : decode cX11_isKeyword 9 = .ok (.aload_n 0, 1) := by decide +kernel
theorem dX11_isKeyword_10 : decode cX11_isKeyword 10 = .ok (.bipush 118, 2) := by decide +kernel
theorem dX11_isKeyword_12 : decode cX11_isKeyword 12 = .ok (.invokevirtual 216, 3) := by decide +kernel
theorem dX11_isKeyword_15 : decode cX11_isKeyword 15 = .ok (.ifCond .ne 84, 3) := by decide +kernel
theorem dX11_isKeyword_18 : decode cX11_isKeyword 18 = .ok (.aload_n 0, 1) := by decide +kernel
theorem dX11_isKeyword_19 : decode cX11_isKeyword 19 = .ok (.bipush 102, 2) := by decide +kernel
theorem dX11_isKeyword_21 : decode cX11_isKeyword 21 = .ok (.invokevirtual 216, 3) := by decide +kernel
theorem dX11_isKeyword_24 : decode cX11_isKeyword 24 = .ok (.ifCond .ne 75, 3) := by decide +kernel
theorem dX11_isKeyword_27 : decode cX11_isKeyword 27 = .ok (.aload_n 0, 1) := by decide +kernel
theorem dX11_isKeyword_28 : decode cX11_isKeyword 28 = .ok (.bipush 101, 2) := by decide +kernel
theorem dX11_isKeyword_30 : decode cX11_isKeyword 30 = .ok (.invokevirtual 216, 3) := by decide +kernel
theorem dX11_isKeyword_33 : decode cX11_isKeyword 33 = .ok (.ifCond .ne 66, 3) := by decide +kernel
theorem dX11_isKeyword_36 : decode cX11_isKeyword 36 = .ok (.aload_n 0, 1) := by decide +kernel
theorem dX11_isKeyword_37 : decode cX11_isKeyword 37 = .ok (.bipush 100, 2) := by decide +kernel
theorem dX11_isKeyword_39 : decode cX11_isKeyword 39 = .ok (.invokevirtual 216, 3) := by decide +kernel
theorem dX11_isKeyword_42 : decode cX11_isKeyword 42 = .ok (.ifCond .ne 57, 3) := by decide +kernel
theorem dX11_isKeyword_45 : decode cX11_isKeyword 45 = .ok (.aload_n 0, 1) := by decide +kernel
theorem dX11_isKeyword_46 : decode cX11_isKeyword 46 = .ok (.bipush 97, 2) := by decide +kernel
theorem dX11_isKeyword_48 : decode cX11_isKeyword 48 = .ok (.invokevirtual 216, 3) := by decide +kernel
theorem dX11_isKeyword_51 : decode cX11_isKeyword 51 = .ok (.ifCond .ne 48, 3) := by decide +kernel
theorem dX11_isKeyword_54 : decode cX11_isKeyword 54 = .ok (.aload_n 0, 1) := by decide +kernel
theorem dX11_isKeyword_55 : decode cX11_isKeyword 55 = .ok (.bipush 112, 2) := by decide +kernel
theorem dX11_isKeyword_57 : decode cX11_isKeyword 57 = .ok (.invokevirtual 216, 3) := by decide +kernel
theorem dX11_isKeyword_60 : decode cX11_isKeyword 60 = .ok (.ifCond .ne 39, 3) := by decide +kernel
theorem dX11_isKeyword_63 : decode cX11_isKeyword 63 = .ok (.aload_n 0, 1) := by decide +kernel
theorem dX11_isKeyword_64 : decode cX11_isKeyword 64 = .ok (.bipush 61, 2) := by decide +kernel
theorem dX11_isKeyword_66 : decode cX11_isKeyword 66 = .ok (.invokevirtual 216, 3) := by decide +kernel
theorem dX11_isKeyword_69 : decode cX11_isKeyword 69 = .ok (.ifCond .ne 30, 3) := by decide +kernel

theorem dFi_firstWrongOfHead_0 : decode cFi_firstWrongOfHead 0 = .ok (.aload_n 0, 1) := by decide +kernel
theorem dFi_firstWrongOfHead_1 : decode cFi_firstWrongOfHead 1 = .ok (.iconst 0, 1) := by decide +kernel
theorem dFi_firstWrongOfHead_2 : decode cFi_firstWrongOfHead 2 = .ok (.bipush 82, 2) := by decide +kernel
theorem dFi_firstWrongOfHead_4 : decode cFi_firstWrongOfHead 4 = .ok (.bipush 73, 2) := by decide +kernel
theorem dFi_firstWrongOfHead_6 : decode cFi_firstWrongOfHead 6 = .ok (.bipush 70, 2) := by decide +kernel
theorem dFi_firstWrongOfHead_8 : decode cFi_firstWrongOfHead 8 = .ok (.bipush 70, 2) := by decide +kernel
theorem dFi_firstWrongOfHead_10 : decode cFi_firstWrongOfHead 10 = .ok (.invokevirtual 26, 3) := by decide +kernel
theorem dFi_firstWrongOfHead_13 : decode cFi_firstWrongOfHead 13 = .ok (.ifCond .ne 5, 3) := by decide +kernel
theorem dFi_firstWrongOfHead_16 : decode cFi_firstWrongOfHead 16 = .ok (.iconst 0, 1) := by decide +kernel
theorem dFi_firstWrongOfHead_17 : decode cFi_firstWrongOfHead 17 = .ok (.ireturn, 1) := by decide +kernel
theorem dFi_firstWrongOfHead_18 : decode cFi_firstWrongOfHead 18 = .ok (.aload_n 0, 1) := by decide +kernel
theorem dFi_firstWrongOfHead_19 : decode cFi_firstWrongOfHead 19 = .ok (.iconst 4, 1) := by decide +kernel
theorem dFi_firstWrongOfHead_20 : decode cFi_firstWrongOfHead 20 = .ok (.invokevirtual 30, 3) := by decide +kernel
theorem dFi_firstWrongOfHead_23 : decode cFi_firstWrongOfHead 23 = .ok (.aload_n 0, 1) := by decide +kernel
theorem dFi_firstWrongOfHead_24 : decode cFi_firstWrongOfHead 24 = .ok (.getfield 15, 3) := by decide +kernel
theorem dFi_firstWrongOfHead_27 : decode cFi_firstWrongOfHead 27 = .ok (.bipush 8, 2) := by decide +kernel
theorem dFi_firstWrongOfHead_29 : decode cFi_firstWrongOfHead 29 = .ok (.isub, 1) := by decide +kernel
theorem dFi_firstWrongOfHead_30 : decode cFi_firstWrongOfHead 30 = .ok (.i2l, 1) := by decide +kernel
theorem dFi_firstWrongOfHead_31 : decode cFi_firstWrongOfHead 31 = .ok (.lcmp, 1) := by decide +kernel
theorem dFi_firstWrongOfHead_32 : decode cFi_firstWrongOfHead 32 = .ok (.ifCond .eq 5, 3) := by decide +kernel
theorem dFi_firstWrongOfHead_35 : decode cFi_firstWrongOfHead 35 = .ok (.iconst 4, 1) := by decide +kernel
theorem dFi_firstWrongOfHead_36 : decode cFi_firstWrongOfHead 36 = .ok (.ireturn, 1) := by decide +kernel
theorem dFi_firstWrongOfHead_37 : decode cFi_firstWrongOfHead 37 = .ok (.aload_n 0, 1) := by decide +kernel
theorem dFi_firstWrongOfHead_38 : decode cFi_firstWrongOfHead 38 = .ok (.bipush 8, 2) := by decide +kernel
theorem dFi_firstWrongOfHead_40 : decode cFi_firstWrongOfHead 40 = .ok (.bipush 87, 2) := by decide +kernel
theorem dFi_firstWrongOfHead_42 : decode cFi_firstWrongOfHead 42 = .ok (.bipush 65, 2) := by decide +kernel
theorem dFi_firstWrongOfHead_44 : decode cFi_firstWrongOfHead 44 = .ok (.bipush 86, 2) := by decide +kernel
theorem dFi_firstWrongOfHead_46 : decode cFi_firstWrongOfHead 46 = .ok (.bipush 69, 2) := by decide +kernel
theorem dFi_firstWrongOfHead_48 : decode cFi_firstWrongOfHead 48 = .ok (.invokevirtual 26, 3) := by decide +kernel
theorem dFi_firstWrongOfHead_51 : decode cFi_firstWrongOfHead 51 = .ok (.ifCond .ne 6, 3) := by decide +kernel
theorem dFi_firstWrongOfHead_54 : decode cFi_firstWrongOfHead 54 = .ok (.bipush 8, 2) := by decide +kernel
theorem dFi_firstWrongOfHead_56 : decode cFi_firstWrongOfHead 56 = .ok (.ireturn, 1) := by decide +kernel
theorem dFi_firstWrongOfHead_57 : decode cFi_firstWrongOfHead 57 = .ok (.aload_n 0, 1) := by decide +kernel
theorem dFi_firstWrongOfHead_58 : decode cFi_firstWrongOfHead 58 = .ok (.bipush 12, 2) := by decide +kernel
theorem dFi_firstWrongOfHead_60 : decode cFi_firstWrongOfHead 60 = .ok (.bipush 102, 2) := by decide +kernel
theorem dFi_firstWrongOfHead_62 : decode cFi_firstWrongOfHead 62 = .ok (.bipush 109, 2) := by decide +kernel
theorem dFi_firstWrongOfHead_64 : decode cFi_firstWrongOfHead 64 = .ok (.bipush 116, 2) := by decide +kernel
theorem dFi_firstWrongOfHead_66 : decode cFi_firstWrongOfHead 66 = .ok (.bipush 32, 2) := by decide +kernel
theorem dFi_firstWrongOfHead_68 : decode cFi_firstWrongOfHead 68 = .ok (.invokevirtual 26, 3) := by decide +kernel
theorem dFi_firstWrongOfHead_71 : decode cFi_firstWrongOfHead 71 = .ok (.ifCond .ne 6, 3) := by decide +kernel
theorem dFi_firstWrongOfHead_74 : decode cFi_firstWrongOfHead 74 = .ok (.bipush 12, 2) := by decide +kernel
theorem dFi_firstWrongOfHead_76 : decode cFi_firstWrongOfHead 76 = .ok (.ireturn, 1) := by decide +kernel
theorem dFi_firstWrongOfHead_77 : decode cFi_firstWrongOfHead 77 = .ok (.aload_n 0, 1) := by decide +kernel
theorem dFi_firstWrongOfHead_78 : decode cFi_firstWrongOfHead 78 = .ok (.bipush 16, 2) := by decide +kernel
theorem dFi_firstWrongOfHead_80 : decode cFi_firstWrongOfHead 80 = .ok (.invokevirtual 30, 3) := by decide +kernel
theorem dFi_firstWrongOfHead_83 : decode cFi_firstWrongOfHead 83 = .ok (.ldc2_w 34, 3) := by decide +kernel
theorem dFi_firstWrongOfHead_86 : decode cFi_firstWrongOfHead 86 = .ok (.lcmp, 1) := by decide +kernel
theorem dFi_firstWrongOfHead_87 : decode cFi_firstWrongOfHead 87 = .ok (.ifCond .eq 6, 3) := by decide +kernel
theorem dFi_firstWrongOfHead_90 : decode cFi_firstWrongOfHead 90 = .ok (.bipush 16, 2) := by decide +kernel
theorem dFi_firstWrongOfHead_92 : decode cFi_firstWrongOfHead 92 = .ok (.ireturn, 1) := by decide +kernel
theorem dFi_firstWrongOfHead_93 : decode cFi_firstWrongOfHead 93 = .ok (.aload_n 0, 1) := by decide +kernel
theorem dFi_firstWrongOfHead_94 : decode cFi_firstWrongOfHead 94 = .ok (.bipush 20, 2) := by decide +kernel
theorem dFi_firstWrongOfHead_96 : decode cFi_firstWrongOfHead 96 = .ok (.invokevirtual 36, 3) := by decide +kernel
theorem dFi_firstWrongOfHead_99 : decode cFi_firstWrongOfHead 99 = .ok (.iconst 1, 1) := by decide +kernel
theorem dFi_firstWrongOfHead_100 : decode cFi_firstWrongOfHead 100 = .ok (.if_icmp .eq 8, 3) := by decide +kernel
theorem dFi_firstWrongOfHead_103 : decode cFi_firstWrongOfHead 103 = .ok (.bipush 20, 2) := by decide +kernel
theorem dFi_firstWrongOfHead_105 : decode cFi_firstWrongOfHead 105 = .ok (.goto 4, 3) := by decide +kernel
theorem dFi_firstWrongOfHead_108 : decode cFi_firstWrongOfHead 108 = .ok (.iconst (-1), 1) := by decide +kernel
theorem dFi_firstWrongOfHead_109 : decode cFi_firstWrongOfHead 109 = .ok (.ireturn, 1) := by decide +kernel
theorem dFi_spells_0 : decode cFi_spells 0 = .ok (.aload_n 0, 1) := by decide +kernel
theorem dFi_spells_1 : decode cFi_spells 1 = .ok (.getfield 9, 3) := by decide +kernel
theorem dFi_spells_4 : decode cFi_spells 4 = .ok (.iload_n 1, 1) := by decide +kernel
theorem dFi_spells_5 : decode cFi_spells 5 = .ok (.iaload, 1) := by decide +kernel
theorem dFi_spells_6 : decode cFi_spells 6 = .ok (.iload_n 2, 1) := by decide +kernel
theorem dFi_spells_7 : decode cFi_spells 7 = .ok (.if_icmp .ne 45, 3) := by decide +kernel
theorem dFi_spells_10 : decode cFi_spells 10 = .ok (.aload_n 0, 1) := by decide +kernel
theorem dFi_spells_11 : decode cFi_spells 11 = .ok (.getfield 9, 3) := by decide +kernel
theorem dFi_spells_14 : decode cFi_spells 14 = .ok (.iload_n 1, 1) := by decide +kernel
theorem dFi_spells_15 : decode cFi_spells 15 = .ok (.iconst 1, 1) := by decide +kernel
theorem dFi_spells_16 : decode cFi_spells 16 = .ok (.iadd, 1) := by decide +kernel
theorem dFi_spells_17 : decode cFi_spells 17 = .ok (.iaload, 1) := by decide +kernel
theorem dFi_spells_18 : decode cFi_spells 18 = .ok (.iload_n 3, 1) := by decide +kernel
theorem dFi_spells_19 : decode cFi_spells 19 = .ok (.if_icmp .ne 33, 3) := by decide +kernel
theorem dFi_spells_22 : decode cFi_spells 22 = .ok (.aload_n 0, 1) := by decide +kernel
theorem dFi_spells_23 : decode cFi_spells 23 = .ok (.getfield 9, 3) := by decide +kernel
theorem dFi_spells_26 : decode cFi_spells 26 = .ok (.iload_n 1, 1) := by decide +kernel
theorem dFi_spells_27 : decode cFi_spells 27 = .ok (.iconst 2, 1) := by decide +kernel
theorem dFi_spells_28 : decode cFi_spells 28 = .ok (.iadd, 1) := by decide +kernel
theorem dFi_spells_29 : decode cFi_spells 29 = .ok (.iaload, 1) := by decide +kernel
theorem dFi_spells_30 : decode cFi_spells 30 = .ok (.iload 4, 2) := by decide +kernel
theorem dFi_spells_32 : decode cFi_spells 32 = .ok (.if_icmp .ne 20, 3) := by decide +kernel
theorem dFi_spells_35 : decode cFi_spells 35 = .ok (.aload_n 0, 1) := by decide +kernel
theorem dFi_spells_36 : decode cFi_spells 36 = .ok (.getfield 9, 3) := by decide +kernel
theorem dFi_spells_39 : decode cFi_spells 39 = .ok (.iload_n 1, 1) := by decide +kernel
theorem dFi_spells_40 : decode cFi_spells 40 = .ok (.iconst 3, 1) := by decide +kernel
theorem dFi_spells_41 : decode cFi_spells 41 = .ok (.iadd, 1) := by decide +kernel
theorem dFi_spells_42 : decode cFi_spells 42 = .ok (.iaload, 1) := by decide +kernel
theorem dFi_spells_43 : decode cFi_spells 43 = .ok (.iload 5, 2) := by decide +kernel
theorem dFi_spells_45 : decode cFi_spells 45 = .ok (.if_icmp .ne 7, 3) := by decide +kernel
theorem dFi_spells_48 : decode cFi_spells 48 = .ok (.iconst 1, 1) := by decide +kernel
theorem dFi_spells_49 : decode cFi_spells 49 = .ok (.goto 4, 3) := by decide +kernel
theorem dFi_spells_52 : decode cFi_spells 52 = .ok (.iconst 0, 1) := by decide +kernel
theorem dFi_spells_53 : decode cFi_spells 53 = .ok (.ireturn, 1) := by decide +kernel
theorem dFi_four_0 : decode cFi_four 0 = .ok (.aload_n 0, 1) := by decide +kernel
theorem dFi_four_1 : decode cFi_four 1 = .ok (.iload_n 1, 1) := by decide +kernel
theorem dFi_four_2 : decode cFi_four 2 = .ok (.invokevirtual 36, 3) := by decide +kernel
theorem dFi_four_5 : decode cFi_four 5 = .ok (.i2l, 1) := by decide +kernel
theorem dFi_four_6 : decode cFi_four 6 = .ok (.ldc2_w 57, 3) := by decide +kernel
theorem dFi_four_9 : decode cFi_four 9 = .ok (.aload_n 0, 1) := by decide +kernel
theorem dFi_four_10 : decode cFi_four 10 = .ok (.iload_n 1, 1) := by decide +kernel
theorem dFi_four_11 : decode cFi_four 11 = .ok (.iconst 2, 1) := by decide +kernel
theorem dFi_four_12 : decode cFi_four 12 = .ok (.iadd, 1) := by decide +kernel
theorem dFi_four_13 : decode cFi_four 13 = .ok (.invokevirtual 36, 3) := by decide +kernel
theorem dFi_four_16 : decode cFi_four 16 = .ok (.i2l, 1) := by decide +kernel
theorem dFi_four_17 : decode cFi_four 17 = .ok (.lmul, 1) := by decide +kernel
theorem dFi_four_18 : decode cFi_four 18 = .ok (.ladd, 1) := by decide +kernel
theorem dFi_four_19 : decode cFi_four 19 = .ok (.lreturn, 1) := by decide +kernel
theorem dFi_two_0 : decode cFi_two 0 = .ok (.aload_n 0, 1) := by decide +kernel
theorem dFi_two_1 : decode cFi_two 1 = .ok (.getfield 9, 3) := by decide +kernel
theorem dFi_two_4 : decode cFi_two 4 = .ok (.iload_n 1, 1) := by decide +kernel
theorem dFi_two_5 : decode cFi_two 5 = .ok (.iaload, 1) := by decide +kernel
theorem dFi_two_6 : decode cFi_two 6 = .ok (.sipush 256, 3) := by decide +kernel
theorem dFi_two_9 : decode cFi_two 9 = .ok (.aload_n 0, 1) := by decide +kernel
theorem dFi_two_10 : decode cFi_two 10 = .ok (.getfield 9, 3) := by decide +kernel
theorem dFi_two_13 : decode cFi_two 13 = .ok (.iload_n 1, 1) := by decide +kernel
theorem dFi_two_14 : decode cFi_two 14 = .ok (.iconst 1, 1) := by decide +kernel
theorem dFi_two_15 : decode cFi_two 15 = .ok (.iadd, 1) := by decide +kernel
theorem dFi_two_16 : decode cFi_two 16 = .ok (.iaload, 1) := by decide +kernel
theorem dFi_two_17 : decode cFi_two 17 = .ok (.imul, 1) := by decide +kernel
theorem dFi_two_18 : decode cFi_two 18 = .ok (.iadd, 1) := by decide +kernel
theorem dFi_two_19 : decode cFi_two 19 = .ok (.ireturn, 1) := by decide +kernel
theorem dFi_firstWrongOfForm_0 : decode cFi_firstWrongOfForm 0 = .ok (.aload_n 0, 1) := by decide +kernel
theorem dFi_firstWrongOfForm_1 : decode cFi_firstWrongOfForm 1 = .ok (.invokevirtual 40, 3) := by decide +kernel
theorem dFi_firstWrongOfForm_4 : decode cFi_firstWrongOfForm 4 = .ok (.iconst 1, 1) := by decide +kernel
theorem dFi_firstWrongOfForm_5 : decode cFi_firstWrongOfForm 5 = .ok (.if_icmp .eq 14, 3) := by decide +kernel
theorem dFi_firstWrongOfForm_8 : decode cFi_firstWrongOfForm 8 = .ok (.aload_n 0, 1) := by decide +kernel
theorem dFi_firstWrongOfForm_9 : decode cFi_firstWrongOfForm 9 = .ok (.invokevirtual 40, 3) := by decide +kernel
theorem dFi_firstWrongOfForm_12 : decode cFi_firstWrongOfForm 12 = .ok (.iconst 2, 1) := by decide +kernel
theorem dFi_firstWrongOfForm_13 : decode cFi_firstWrongOfForm 13 = .ok (.if_icmp .eq 6, 3) := by decide +kernel
theorem dFi_firstWrongOfForm_16 : decode cFi_firstWrongOfForm 16 = .ok (.bipush 22, 2) := by decide +kernel
theorem dFi_firstWrongOfForm_18 : decode cFi_firstWrongOfForm 18 = .ok (.ireturn, 1) := by decide +kernel
theorem dFi_firstWrongOfForm_19 : decode cFi_firstWrongOfForm 19 = .ok (.aload_n 0, 1) := by decide +kernel
theorem dFi_firstWrongOfForm_20 : decode cFi_firstWrongOfForm 20 = .ok (.invokevirtual 43, 3) := by decide +kernel
theorem dFi_firstWrongOfForm_23 : decode cFi_firstWrongOfForm 23 = .ok (.ldc2_w 47, 3) := by decide +kernel
theorem dFi_firstWrongOfForm_26 : decode cFi_firstWrongOfForm 26 = .ok (.lcmp, 1) := by decide +kernel
theorem dFi_firstWrongOfForm_27 : decode cFi_firstWrongOfForm 27 = .ok (.ifCond .lt 14, 3) := by decide +kernel
theorem dFi_firstWrongOfForm_30 : decode cFi_firstWrongOfForm 30 = .ok (.aload_n 0, 1) := by decide +kernel
theorem dFi_firstWrongOfForm_31 : decode cFi_firstWrongOfForm 31 = .ok (.invokevirtual 43, 3) := by decide +kernel
theorem dFi_firstWrongOfForm_34 : decode cFi_firstWrongOfForm 34 = .ok (.ldc2_w 49, 3) := by decide +kernel
theorem dFi_firstWrongOfForm_37 : decode cFi_firstWrongOfForm 37 = .ok (.lcmp, 1) := by decide +kernel
theorem dFi_firstWrongOfForm_38 : decode cFi_firstWrongOfForm 38 = .ok (.ifCond .le 6, 3) := by decide +kernel
theorem dFi_firstWrongOfForm_41 : decode cFi_firstWrongOfForm 41 = .ok (.bipush 24, 2) := by decide +kernel
theorem dFi_firstWrongOfForm_43 : decode cFi_firstWrongOfForm 43 = .ok (.ireturn, 1) := by decide +kernel
theorem dFi_firstWrongOfForm_44 : decode cFi_firstWrongOfForm 44 = .ok (.aload_n 0, 1) := by decide +kernel
theorem dFi_firstWrongOfForm_45 : decode cFi_firstWrongOfForm 45 = .ok (.bipush 28, 2) := by decide +kernel
theorem dFi_firstWrongOfForm_47 : decode cFi_firstWrongOfForm 47 = .ok (.invokevirtual 30, 3) := by decide +kernel
theorem dFi_firstWrongOfForm_50 : decode cFi_firstWrongOfForm 50 = .ok (.aload_n 0, 1) := by decide +kernel
theorem dFi_firstWrongOfForm_51 : decode cFi_firstWrongOfForm 51 = .ok (.invokevirtual 43, 3) := by decide +kernel
theorem dFi_firstWrongOfForm_54 : decode cFi_firstWrongOfForm 54 = .ok (.aload_n 0, 1) := by decide +kernel
theorem dFi_firstWrongOfForm_55 : decode cFi_firstWrongOfForm 55 = .ok (.invokevirtual 51, 3) := by decide +kernel
theorem dFi_firstWrongOfForm_58 : decode cFi_firstWrongOfForm 58 = .ok (.i2l, 1) := by decide +kernel
theorem dFi_firstWrongOfForm_59 : decode cFi_firstWrongOfForm 59 = .ok (.lmul, 1) := by decide +kernel
theorem dFi_firstWrongOfForm_60 : decode cFi_firstWrongOfForm 60 = .ok (.lcmp, 1) := by decide +kernel
theorem dFi_firstWrongOfForm_61 : decode cFi_firstWrongOfForm 61 = .ok (.ifCond .eq 6, 3) := by decide +kernel
theorem dFi_firstWrongOfForm_64 : decode cFi_firstWrongOfForm 64 = .ok (.bipush 28, 2) := by decide +kernel
theorem dFi_firstWrongOfForm_66 : decode cFi_firstWrongOfForm 66 = .ok (.ireturn, 1) := by decide +kernel
theorem dFi_firstWrongOfForm_67 : decode cFi_firstWrongOfForm 67 = .ok (.bipush 8, 2) := by decide +kernel
theorem dFi_firstWrongOfForm_69 : decode cFi_firstWrongOfForm 69 = .ok (.aload_n 0, 1) := by decide +kernel
theorem dFi_firstWrongOfForm_70 : decode cFi_firstWrongOfForm 70 = .ok (.invokevirtual 51, 3) := by decide +kernel
theorem dFi_firstWrongOfForm_73 : decode cFi_firstWrongOfForm 73 = .ok (.imul, 1) := by decide +kernel
theorem dFi_firstWrongOfForm_74 : decode cFi_firstWrongOfForm 74 = .ok (.aload_n 0, 1) := by decide +kernel
theorem dFi_firstWrongOfForm_75 : decode cFi_firstWrongOfForm 75 = .ok (.invokevirtual 40, 3) := by decide +kernel
theorem dFi_firstWrongOfForm_78 : decode cFi_firstWrongOfForm 78 = .ok (.aload_n 0, 1) := by decide +kernel
theorem dFi_firstWrongOfForm_79 : decode cFi_firstWrongOfForm 79 = .ok (.invokevirtual 54, 3) := by decide +kernel
theorem dFi_firstWrongOfForm_82 : decode cFi_firstWrongOfForm 82 = .ok (.imul, 1) := by decide +kernel
theorem dFi_firstWrongOfForm_83 : decode cFi_firstWrongOfForm 83 = .ok (.if_icmp .eq 6, 3) := by decide +kernel
theorem dFi_firstWrongOfForm_86 : decode cFi_firstWrongOfForm 86 = .ok (.bipush 32, 2) := by decide +kernel
theorem dFi_firstWrongOfForm_88 : decode cFi_firstWrongOfForm 88 = .ok (.ireturn, 1) := by decide +kernel
theorem dFi_firstWrongOfForm_89 : decode cFi_firstWrongOfForm 89 = .ok (.aload_n 0, 1) := by decide +kernel
theorem dFi_firstWrongOfForm_90 : decode cFi_firstWrongOfForm 90 = .ok (.invokevirtual 54, 3) := by decide +kernel
theorem dFi_firstWrongOfForm_93 : decode cFi_firstWrongOfForm 93 = .ok (.bipush 8, 2) := by decide +kernel
theorem dFi_firstWrongOfForm_95 : decode cFi_firstWrongOfForm 95 = .ok (.if_icmp .eq 15, 3) := by decide +kernel
theorem dFi_firstWrongOfForm_98 : decode cFi_firstWrongOfForm 98 = .ok (.aload_n 0, 1) := by decide +kernel
theorem dFi_firstWrongOfForm_99 : decode cFi_firstWrongOfForm 99 = .ok (.invokevirtual 54, 3) := by decide +kernel
theorem dFi_firstWrongOfForm_102 : decode cFi_firstWrongOfForm 102 = .ok (.bipush 16, 2) := by decide +kernel
theorem dFi_firstWrongOfForm_104 : decode cFi_firstWrongOfForm 104 = .ok (.if_icmp .eq 6, 3) := by decide +kernel
theorem dFi_firstWrongOfForm_107 : decode cFi_firstWrongOfForm 107 = .ok (.bipush 34, 2) := by decide +kernel
theorem dFi_firstWrongOfForm_109 : decode cFi_firstWrongOfForm 109 = .ok (.ireturn, 1) := by decide +kernel
theorem dFi_firstWrongOfForm_110 : decode cFi_firstWrongOfForm 110 = .ok (.aload_n 0, 1) := by decide +kernel
theorem dFi_firstWrongOfForm_111 : decode cFi_firstWrongOfForm 111 = .ok (.bipush 36, 2) := by decide +kernel
theorem dFi_firstWrongOfForm_113 : decode cFi_firstWrongOfForm 113 = .ok (.bipush 100, 2) := by decide +kernel
theorem dFi_firstWrongOfForm_115 : decode cFi_firstWrongOfForm 115 = .ok (.bipush 97, 2) := by decide +kernel
theorem dFi_firstWrongOfForm_117 : decode cFi_firstWrongOfForm 117 = .ok (.bipush 116, 2) := by decide +kernel
theorem dFi_firstWrongOfForm_119 : decode cFi_firstWrongOfForm 119 = .ok (.bipush 97, 2) := by decide +kernel
theorem dFi_firstWrongOfForm_121 : decode cFi_firstWrongOfForm 121 = .ok (.invokevirtual 26, 3) := by decide +kernel
theorem dFi_firstWrongOfForm_124 : decode cFi_firstWrongOfForm 124 = .ok (.ifCond .ne 6, 3) := by decide +kernel
theorem dFi_firstWrongOfForm_127 : decode cFi_firstWrongOfForm 127 = .ok (.bipush 36, 2) := by decide +kernel
theorem dFi_firstWrongOfForm_129 : decode cFi_firstWrongOfForm 129 = .ok (.ireturn, 1) := by decide +kernel
theorem dFi_firstWrongOfForm_130 : decode cFi_firstWrongOfForm 130 = .ok (.aload_n 0, 1) := by decide +kernel
theorem dFi_firstWrongOfForm_131 : decode cFi_firstWrongOfForm 131 = .ok (.bipush 40, 2) := by decide +kernel
theorem dFi_firstWrongOfForm_133 : decode cFi_firstWrongOfForm 133 = .ok (.invokevirtual 30, 3) := by decide +kernel
theorem dFi_firstWrongOfForm_136 : decode cFi_firstWrongOfForm 136 = .ok (.aload_n 0, 1) := by decide +kernel
theorem dFi_firstWrongOfForm_137 : decode cFi_firstWrongOfForm 137 = .ok (.getfield 15, 3) := by decide +kernel
theorem dFi_firstWrongOfForm_140 : decode cFi_firstWrongOfForm 140 = .ok (.bipush 44, 2) := by decide +kernel
theorem dFi_firstWrongOfForm_142 : decode cFi_firstWrongOfForm 142 = .ok (.isub, 1) := by decide +kernel
theorem dFi_firstWrongOfForm_143 : decode cFi_firstWrongOfForm 143 = .ok (.i2l, 1) := by decide +kernel
theorem dFi_firstWrongOfForm_144 : decode cFi_firstWrongOfForm 144 = .ok (.lcmp, 1) := by decide +kernel
theorem dFi_firstWrongOfForm_145 : decode cFi_firstWrongOfForm 145 = .ok (.ifCond .ne 18, 3) := by decide +kernel
theorem dFi_firstWrongOfForm_148 : decode cFi_firstWrongOfForm 148 = .ok (.aload_n 0, 1) := by decide +kernel
theorem dFi_firstWrongOfForm_149 : decode cFi_firstWrongOfForm 149 = .ok (.getfield 15, 3) := by decide +kernel
theorem dFi_firstWrongOfForm_152 : decode cFi_firstWrongOfForm 152 = .ok (.bipush 44, 2) := by decide +kernel
theorem dFi_firstWrongOfForm_154 : decode cFi_firstWrongOfForm 154 = .ok (.isub, 1) := by decide +kernel
theorem dFi_firstWrongOfForm_155 : decode cFi_firstWrongOfForm 155 = .ok (.aload_n 0, 1) := by decide +kernel
theorem dFi_firstWrongOfForm_156 : decode cFi_firstWrongOfForm 156 = .ok (.invokevirtual 51, 3) := by decide +kernel
theorem dFi_firstWrongOfForm_159 : decode cFi_firstWrongOfForm 159 = .ok (.irem, 1) := by decide +kernel
theorem dFi_firstWrongOfForm_160 : decode cFi_firstWrongOfForm 160 = .ok (.ifCond .eq 8, 3) := by decide +kernel
theorem dFi_firstWrongOfForm_163 : decode cFi_firstWrongOfForm 163 = .ok (.bipush 40, 2) := by decide +kernel
theorem dFi_firstWrongOfForm_165 : decode cFi_firstWrongOfForm 165 = .ok (.goto 4, 3) := by decide +kernel
theorem dFi_firstWrongOfForm_168 : decode cFi_firstWrongOfForm 168 = .ok (.iconst (-1), 1) := by decide +kernel
theorem dFi_firstWrongOfForm_169 : decode cFi_firstWrongOfForm 169 = .ok (.ireturn, 1) := by decide +kernel
theorem dFi_channels_0 : decode cFi_channels 0 = .ok (.aload_n 0, 1) := by decide +kernel
theorem dFi_channels_1 : decode cFi_channels 1 = .ok (.bipush 22, 2) := by decide +kernel
theorem dFi_channels_3 : decode cFi_channels 3 = .ok (.invokevirtual 36, 3) := by decide +kernel
theorem dFi_channels_6 : decode cFi_channels 6 = .ok (.ireturn, 1) := by decide +kernel
theorem dFi_rateSaid_0 : decode cFi_rateSaid 0 = .ok (.aload_n 0, 1) := by decide +kernel
theorem dFi_rateSaid_1 : decode cFi_rateSaid 1 = .ok (.bipush 24, 2) := by decide +kernel
theorem dFi_rateSaid_3 : decode cFi_rateSaid 3 = .ok (.invokevirtual 30, 3) := by decide +kernel
theorem dFi_rateSaid_6 : decode cFi_rateSaid 6 = .ok (.lreturn, 1) := by decide +kernel
theorem dFi_width_0 : decode cFi_width 0 = .ok (.aload_n 0, 1) := by decide +kernel
theorem dFi_width_1 : decode cFi_width 1 = .ok (.bipush 32, 2) := by decide +kernel
theorem dFi_width_3 : decode cFi_width 3 = .ok (.invokevirtual 36, 3) := by decide +kernel
theorem dFi_width_6 : decode cFi_width 6 = .ok (.ireturn, 1) := by decide +kernel
theorem dFi_bits_0 : decode cFi_bits 0 = .ok (.aload_n 0, 1) := by decide +kernel
theorem dFi_bits_1 : decode cFi_bits 1 = .ok (.bipush 34, 2) := by decide +kernel
theorem dFi_bits_3 : decode cFi_bits 3 = .ok (.invokevirtual 36, 3) := by decide +kernel
theorem dFi_bits_6 : decode cFi_bits 6 = .ok (.ireturn, 1) := by decide +kernel
theorem dFi_sampleCount_0 : decode cFi_sampleCount 0 = .ok (.aload_n 0, 1) := by decide +kernel
theorem dFi_sampleCount_1 : decode cFi_sampleCount 1 = .ok (.invokevirtual 51, 3) := by decide +kernel
theorem dFi_sampleCount_4 : decode cFi_sampleCount 4 = .ok (.ifCond .ne 7, 3) := by decide +kernel
theorem dFi_sampleCount_7 : decode cFi_sampleCount 7 = .ok (.iconst 0, 1) := by decide +kernel
theorem dFi_sampleCount_8 : decode cFi_sampleCount 8 = .ok (.goto 15, 3) := by decide +kernel
theorem dFi_sampleCount_11 : decode cFi_sampleCount 11 = .ok (.aload_n 0, 1) := by decide +kernel
theorem dFi_sampleCount_12 : decode cFi_sampleCount 12 = .ok (.getfield 15, 3) := by decide +kernel
theorem dFi_sampleCount_15 : decode cFi_sampleCount 15 = .ok (.bipush 44, 2) := by decide +kernel
theorem dFi_sampleCount_17 : decode cFi_sampleCount 17 = .ok (.isub, 1) := by decide +kernel
theorem dFi_sampleCount_18 : decode cFi_sampleCount 18 = .ok (.aload_n 0, 1) := by decide +kernel
theorem dFi_sampleCount_19 : decode cFi_sampleCount 19 = .ok (.invokevirtual 51, 3) := by decide +kernel
theorem dFi_sampleCount_22 : decode cFi_sampleCount 22 = .ok (.idiv, 1) := by decide +kernel
theorem dFi_sampleCount_23 : decode cFi_sampleCount 23 = .ok (.ireturn, 1) := by decide +kernel
theorem dFi_sampleAt_0 : decode cFi_sampleAt 0 = .ok (.bipush 44, 2) := by decide +kernel
theorem dFi_sampleAt_2 : decode cFi_sampleAt 2 = .ok (.iload_n 1, 1) := by decide +kernel
theorem dFi_sampleAt_3 : decode cFi_sampleAt 3 = .ok (.aload_n 0, 1) := by decide +kernel
theorem dFi_sampleAt_4 : decode cFi_sampleAt 4 = .ok (.invokevirtual 51, 3) := by decide +kernel
theorem dFi_sampleAt_7 : decode cFi_sampleAt 7 = .ok (.imul, 1) := by decide +kernel
theorem dFi_sampleAt_8 : decode cFi_sampleAt 8 = .ok (.iadd, 1) := by decide +kernel
theorem dFi_sampleAt_9 : decode cFi_sampleAt 9 = .ok (.istore_n 2, 1) := by decide +kernel
theorem dFi_sampleAt_10 : decode cFi_sampleAt 10 = .ok (.aload_n 0, 1) := by decide +kernel
theorem dFi_sampleAt_11 : decode cFi_sampleAt 11 = .ok (.invokevirtual 40, 3) := by decide +kernel
theorem dFi_sampleAt_14 : decode cFi_sampleAt 14 = .ok (.iconst 1, 1) := by decide +kernel
theorem dFi_sampleAt_15 : decode cFi_sampleAt 15 = .ok (.if_icmp .ne 9, 3) := by decide +kernel
theorem dFi_sampleAt_18 : decode cFi_sampleAt 18 = .ok (.aload_n 0, 1) := by decide +kernel
theorem dFi_sampleAt_19 : decode cFi_sampleAt 19 = .ok (.iload_n 2, 1) := by decide +kernel
theorem dFi_sampleAt_20 : decode cFi_sampleAt 20 = .ok (.invokevirtual 59, 3) := by decide +kernel
theorem dFi_sampleAt_23 : decode cFi_sampleAt 23 = .ok (.dreturn, 1) := by decide +kernel
theorem dFi_sampleAt_24 : decode cFi_sampleAt 24 = .ok (.aload_n 0, 1) := by decide +kernel
theorem dFi_sampleAt_25 : decode cFi_sampleAt 25 = .ok (.iload_n 2, 1) := by decide +kernel
theorem dFi_sampleAt_26 : decode cFi_sampleAt 26 = .ok (.invokevirtual 59, 3) := by decide +kernel
theorem dFi_sampleAt_29 : decode cFi_sampleAt 29 = .ok (.aload_n 0, 1) := by decide +kernel
theorem dFi_sampleAt_30 : decode cFi_sampleAt 30 = .ok (.iload_n 2, 1) := by decide +kernel
theorem dFi_sampleAt_31 : decode cFi_sampleAt 31 = .ok (.aload_n 0, 1) := by decide +kernel
theorem dFi_sampleAt_32 : decode cFi_sampleAt 32 = .ok (.invokevirtual 54, 3) := by decide +kernel
theorem dFi_sampleAt_35 : decode cFi_sampleAt 35 = .ok (.bipush 8, 2) := by decide +kernel
theorem dFi_sampleAt_37 : decode cFi_sampleAt 37 = .ok (.idiv, 1) := by decide +kernel
theorem dFi_sampleAt_38 : decode cFi_sampleAt 38 = .ok (.iadd, 1) := by decide +kernel
theorem dFi_sampleAt_39 : decode cFi_sampleAt 39 = .ok (.invokevirtual 59, 3) := by decide +kernel
theorem dFi_sampleAt_42 : decode cFi_sampleAt 42 = .ok (.dadd, 1) := by decide +kernel
theorem dFi_sampleAt_43 : decode cFi_sampleAt 43 = .ok (.ldc2_w 63, 3) := by decide +kernel
theorem dFi_sampleAt_46 : decode cFi_sampleAt 46 = .ok (.ddiv, 1) := by decide +kernel
theorem dFi_sampleAt_47 : decode cFi_sampleAt 47 = .ok (.dreturn, 1) := by decide +kernel
theorem dFi_channelAt_0 : decode cFi_channelAt 0 = .ok (.aload_n 0, 1) := by decide +kernel
theorem dFi_channelAt_1 : decode cFi_channelAt 1 = .ok (.invokevirtual 54, 3) := by decide +kernel
theorem dFi_channelAt_4 : decode cFi_channelAt 4 = .ok (.bipush 8, 2) := by decide +kernel
theorem dFi_channelAt_6 : decode cFi_channelAt 6 = .ok (.if_icmp .ne 23, 3) := by decide +kernel
theorem dFi_channelAt_9 : decode cFi_channelAt 9 = .ok (.aload_n 0, 1) := by decide +kernel
theorem dFi_channelAt_10 : decode cFi_channelAt 10 = .ok (.getfield 9, 3) := by decide +kernel
theorem dFi_channelAt_13 : decode cFi_channelAt 13 = .ok (.iload_n 1, 1) := by decide +kernel
theorem dFi_channelAt_14 : decode cFi_channelAt 14 = .ok (.iaload, 1) := by decide +kernel
theorem dFi_channelAt_15 : decode cFi_channelAt 15 = .ok (.sipush 128, 3) := by decide +kernel
theorem dFi_channelAt_18 : decode cFi_channelAt 18 = .ok (.isub, 1) := by decide +kernel
theorem dFi_channelAt_19 : decode cFi_channelAt 19 = .ok (.sipush 256, 3) := by decide +kernel
theorem dFi_channelAt_22 : decode cFi_channelAt 22 = .ok (.imul, 1) := by decide +kernel
theorem dFi_channelAt_23 : decode cFi_channelAt 23 = .ok (.i2d, 1) := by decide +kernel
theorem dFi_channelAt_24 : decode cFi_channelAt 24 = .ok (.ldc2_w 65, 3) := by decide +kernel
theorem dFi_channelAt_27 : decode cFi_channelAt 27 = .ok (.ddiv, 1) := by decide +kernel
theorem dFi_channelAt_28 : decode cFi_channelAt 28 = .ok (.dreturn, 1) := by decide +kernel
theorem dFi_channelAt_29 : decode cFi_channelAt 29 = .ok (.aload_n 0, 1) := by decide +kernel
theorem dFi_channelAt_30 : decode cFi_channelAt 30 = .ok (.iload_n 1, 1) := by decide +kernel
theorem dFi_channelAt_31 : decode cFi_channelAt 31 = .ok (.invokevirtual 36, 3) := by decide +kernel
theorem dFi_channelAt_34 : decode cFi_channelAt 34 = .ok (.istore_n 2, 1) := by decide +kernel
theorem dFi_channelAt_35 : decode cFi_channelAt 35 = .ok (.iload_n 2, 1) := by decide +kernel
theorem dFi_channelAt_36 : decode cFi_channelAt 36 = .ok (.ldc 67, 2) := by decide +kernel
theorem dFi_channelAt_38 : decode cFi_channelAt 38 = .ok (.if_icmp .lt 10, 3) := by decide +kernel
theorem dFi_channelAt_41 : decode cFi_channelAt 41 = .ok (.iload_n 2, 1) := by decide +kernel
theorem dFi_channelAt_42 : decode cFi_channelAt 42 = .ok (.ldc 68, 2) := by decide +kernel
theorem dFi_channelAt_44 : decode cFi_channelAt 44 = .ok (.isub, 1) := by decide +kernel
theorem dFi_channelAt_45 : decode cFi_channelAt 45 = .ok (.goto 4, 3) := by decide +kernel
theorem dFi_channelAt_48 : decode cFi_channelAt 48 = .ok (.iload_n 2, 1) := by decide +kernel
theorem dFi_channelAt_49 : decode cFi_channelAt 49 = .ok (.i2d, 1) := by decide +kernel
theorem dFi_channelAt_50 : decode cFi_channelAt 50 = .ok (.ldc2_w 65, 3) := by decide +kernel
theorem dFi_channelAt_53 : decode cFi_channelAt 53 = .ok (.ddiv, 1) := by decide +kernel
theorem dFi_channelAt_54 : decode cFi_channelAt 54 = .ok (.dreturn, 1) := by decide +kernel
theorem dSo_weigh_0 : decode cSo_weigh 0 = .ok (.iconst 0, 1) := by decide +kernel
theorem dSo_weigh_1 : decode cSo_weigh 1 = .ok (.istore_n 2, 1) := by decide +kernel
theorem dSo_weigh_2 : decode cSo_weigh 2 = .ok (.iload_n 2, 1) := by decide +kernel
theorem dSo_weigh_3 : decode cSo_weigh 3 = .ok (.bipush 32, 2) := by decide +kernel
theorem dSo_weigh_5 : decode cSo_weigh 5 = .ok (.if_icmp .ge 39, 3) := by decide +kernel
theorem dSo_weigh_8 : decode cSo_weigh 8 = .ok (.aload_n 0, 1) := by decide +kernel
theorem dSo_weigh_9 : decode cSo_weigh 9 = .ok (.getfield 19, 3) := by decide +kernel
theorem dSo_weigh_12 : decode cSo_weigh 12 = .ok (.iload_n 2, 1) := by decide +kernel
theorem dSo_weigh_13 : decode cSo_weigh 13 = .ok (.aload_n 0, 1) := by decide +kernel
theorem dSo_weigh_14 : decode cSo_weigh 14 = .ok (.getfield 15, 3) := by decide +kernel
theorem dSo_weigh_17 : decode cSo_weigh 17 = .ok (.bipush 16, 2) := by decide +kernel
theorem dSo_weigh_19 : decode cSo_weigh 19 = .ok (.iload_n 1, 1) := by decide +kernel
theorem dSo_weigh_20 : decode cSo_weigh 20 = .ok (.imul, 1) := by decide +kernel
theorem dSo_weigh_21 : decode cSo_weigh 21 = .ok (.iload_n 2, 1) := by decide +kernel
theorem dSo_weigh_22 : decode cSo_weigh 22 = .ok (.iadd, 1) := by decide +kernel
theorem dSo_weigh_23 : decode cSo_weigh 23 = .ok (.daload, 1) := by decide +kernel
theorem dSo_weigh_24 : decode cSo_weigh 24 = .ok (.invokestatic 35, 3) := by decide +kernel
theorem dSo_weigh_27 : decode cSo_weigh 27 = .ok (.aload_n 0, 1) := by decide +kernel
theorem dSo_weigh_28 : decode cSo_weigh 28 = .ok (.getfield 9, 3) := by decide +kernel
theorem dSo_weigh_31 : decode cSo_weigh 31 = .ok (.getfield 41, 3) := by decide +kernel
theorem dSo_weigh_34 : decode cSo_weigh 34 = .ok (.iload_n 2, 1) := by decide +kernel
theorem dSo_weigh_35 : decode cSo_weigh 35 = .ok (.daload, 1) := by decide +kernel
theorem dSo_weigh_36 : decode cSo_weigh 36 = .ok (.dmul, 1) := by decide +kernel
theorem dSo_weigh_37 : decode cSo_weigh 37 = .ok (.dastore, 1) := by decide +kernel
theorem dSo_weigh_38 : decode cSo_weigh 38 = .ok (.iinc 2 1, 3) := by decide +kernel
theorem dSo_weigh_41 : decode cSo_weigh 41 = .ok (.goto (-39), 3) := by decide +kernel
theorem dSo_weigh_44 : decode cSo_weigh 44 = .ok (.return_, 1) := by decide +kernel
theorem dSo_strength_0 : decode cSo_strength 0 = .ok (.dconst 0, 1) := by decide +kernel
theorem dSo_strength_1 : decode cSo_strength 1 = .ok (.dstore_n 2, 1) := by decide +kernel
theorem dSo_strength_2 : decode cSo_strength 2 = .ok (.dconst 0, 1) := by decide +kernel
theorem dSo_strength_3 : decode cSo_strength 3 = .ok (.dstore 4, 2) := by decide +kernel
theorem dSo_strength_5 : decode cSo_strength 5 = .ok (.iconst 0, 1) := by decide +kernel
theorem dSo_strength_6 : decode cSo_strength 6 = .ok (.istore 6, 2) := by decide +kernel
theorem dSo_strength_8 : decode cSo_strength 8 = .ok (.iload 6, 2) := by decide +kernel
theorem dSo_strength_10 : decode cSo_strength 10 = .ok (.bipush 32, 2) := by decide +kernel
theorem dSo_strength_12 : decode cSo_strength 12 = .ok (.if_icmp .ge 62, 3) := by decide +kernel
theorem dSo_strength_15 : decode cSo_strength 15 = .ok (.iload_n 1, 1) := by decide +kernel
theorem dSo_strength_16 : decode cSo_strength 16 = .ok (.iload 6, 2) := by decide +kernel
theorem dSo_strength_18 : decode cSo_strength 18 = .ok (.imul, 1) := by decide +kernel
theorem dSo_strength_19 : decode cSo_strength 19 = .ok (.bipush 32, 2) := by decide +kernel
theorem dSo_strength_21 : decode cSo_strength 21 = .ok (.irem, 1) := by decide +kernel
theorem dSo_strength_22 : decode cSo_strength 22 = .ok (.istore 7, 2) := by decide +kernel
theorem dSo_strength_24 : decode cSo_strength 24 = .ok (.dload_n 2, 1) := by decide +kernel
theorem dSo_strength_25 : decode cSo_strength 25 = .ok (.aload_n 0, 1) := by decide +kernel
theorem dSo_strength_26 : decode cSo_strength 26 = .ok (.getfield 19, 3) := by decide +kernel
theorem dSo_strength_29 : decode cSo_strength 29 = .ok (.iload 6, 2) := by decide +kernel
theorem dSo_strength_31 : decode cSo_strength 31 = .ok (.daload, 1) := by decide +kernel
theorem dSo_strength_32 : decode cSo_strength 32 = .ok (.aload_n 0, 1) := by decide +kernel
theorem dSo_strength_33 : decode cSo_strength 33 = .ok (.getfield 9, 3) := by decide +kernel
theorem dSo_strength_36 : decode cSo_strength 36 = .ok (.getfield 46, 3) := by decide +kernel
theorem dSo_strength_39 : decode cSo_strength 39 = .ok (.iload 7, 2) := by decide +kernel
theorem dSo_strength_41 : decode cSo_strength 41 = .ok (.daload, 1) := by decide +kernel
theorem dSo_strength_42 : decode cSo_strength 42 = .ok (.dmul, 1) := by decide +kernel
theorem dSo_strength_43 : decode cSo_strength 43 = .ok (.dadd, 1) := by decide +kernel
theorem dSo_strength_44 : decode cSo_strength 44 = .ok (.dstore_n 2, 1) := by decide +kernel
theorem dSo_strength_45 : decode cSo_strength 45 = .ok (.dload 4, 2) := by decide +kernel
theorem dSo_strength_47 : decode cSo_strength 47 = .ok (.aload_n 0, 1) := by decide +kernel
theorem dSo_strength_48 : decode cSo_strength 48 = .ok (.getfield 19, 3) := by decide +kernel
theorem dSo_strength_51 : decode cSo_strength 51 = .ok (.iload 6, 2) := by decide +kernel
theorem dSo_strength_53 : decode cSo_strength 53 = .ok (.daload, 1) := by decide +kernel
theorem dSo_strength_54 : decode cSo_strength 54 = .ok (.aload_n 0, 1) := by decide +kernel
theorem dSo_strength_55 : decode cSo_strength 55 = .ok (.getfield 9, 3) := by decide +kernel
theorem dSo_strength_58 : decode cSo_strength 58 = .ok (.getfield 49, 3) := by decide +kernel
theorem dSo_strength_61 : decode cSo_strength 61 = .ok (.iload 7, 2) := by decide +kernel
theorem dSo_strength_63 : decode cSo_strength 63 = .ok (.daload, 1) := by decide +kernel
theorem dSo_strength_64 : decode cSo_strength 64 = .ok (.dmul, 1) := by decide +kernel
theorem dSo_strength_65 : decode cSo_strength 65 = .ok (.dsub, 1) := by decide +kernel
theorem dSo_strength_66 : decode cSo_strength 66 = .ok (.dstore 4, 2) := by decide +kernel
theorem dSo_strength_68 : decode cSo_strength 68 = .ok (.iinc 6 1, 3) := by decide +kernel
theorem dSo_strength_71 : decode cSo_strength 71 = .ok (.goto (-63), 3) := by decide +kernel
theorem dSo_strength_74 : decode cSo_strength 74 = .ok (.dload_n 2, 1) := by decide +kernel
theorem dSo_strength_75 : decode cSo_strength 75 = .ok (.dload_n 2, 1) := by decide +kernel
theorem dSo_strength_76 : decode cSo_strength 76 = .ok (.dmul, 1) := by decide +kernel
theorem dSo_strength_77 : decode cSo_strength 77 = .ok (.dload 4, 2) := by decide +kernel
theorem dSo_strength_79 : decode cSo_strength 79 = .ok (.dload 4, 2) := by decide +kernel
theorem dSo_strength_81 : decode cSo_strength 81 = .ok (.dmul, 1) := by decide +kernel
theorem dSo_strength_82 : decode cSo_strength 82 = .ok (.dadd, 1) := by decide +kernel
theorem dSo_strength_83 : decode cSo_strength 83 = .ok (.dreturn, 1) := by decide +kernel
theorem dSo_judgeBand_0 : decode cSo_judgeBand 0 = .ok (.dconst 0, 1) := by decide +kernel
theorem dSo_judgeBand_1 : decode cSo_judgeBand 1 = .ok (.dstore 4, 2) := by decide +kernel
theorem dSo_judgeBand_3 : decode cSo_judgeBand 3 = .ok (.iload_n 2, 1) := by decide +kernel
theorem dSo_judgeBand_4 : decode cSo_judgeBand 4 = .ok (.istore 6, 2) := by decide +kernel
theorem dSo_judgeBand_6 : decode cSo_judgeBand 6 = .ok (.iload 6, 2) := by decide +kernel
theorem dSo_judgeBand_8 : decode cSo_judgeBand 8 = .ok (.iload_n 3, 1) := by decide +kernel
theorem dSo_judgeBand_9 : decode cSo_judgeBand 9 = .ok (.if_icmp .gt 20, 3) := by decide +kernel
theorem dSo_judgeBand_12 : decode cSo_judgeBand 12 = .ok (.dload 4, 2) := by decide +kernel
theorem dSo_judgeBand_14 : decode cSo_judgeBand 14 = .ok (.aload_n 0, 1) := by decide +kernel
theorem dSo_judgeBand_15 : decode cSo_judgeBand 15 = .ok (.iload 6, 2) := by decide +kernel
theorem dSo_judgeBand_17 : decode cSo_judgeBand 17 = .ok (.invokevirtual 64, 3) := by decide +kernel
theorem dSo_judgeBand_20 : decode cSo_judgeBand 20 = .ok (.dadd, 1) := by decide +kernel
theorem dSo_judgeBand_21 : decode cSo_judgeBand 21 = .ok (.dstore 4, 2) := by decide +kernel
theorem dSo_judgeBand_23 : decode cSo_judgeBand 23 = .ok (.iinc 6 1, 3) := by decide +kernel
theorem dSo_judgeBand_26 : decode cSo_judgeBand 26 = .ok (.goto (-20), 3) := by decide +kernel
theorem dSo_judgeBand_29 : decode cSo_judgeBand 29 = .ok (.aload_n 0, 1) := by decide +kernel
theorem dSo_judgeBand_30 : decode cSo_judgeBand 30 = .ok (.getfield 22, 3) := by decide +kernel
theorem dSo_judgeBand_33 : decode cSo_judgeBand 33 = .ok (.iload_n 1, 1) := by decide +kernel
theorem dSo_judgeBand_34 : decode cSo_judgeBand 34 = .ok (.dload 4, 2) := by decide +kernel
theorem dSo_judgeBand_36 : decode cSo_judgeBand 36 = .ok (.dastore, 1) := by decide +kernel
theorem dSo_judgeBand_37 : decode cSo_judgeBand 37 = .ok (.aload_n 0, 1) := by decide +kernel
theorem dSo_judgeBand_38 : decode cSo_judgeBand 38 = .ok (.getfield 25, 3) := by decide +kernel
theorem dSo_judgeBand_41 : decode cSo_judgeBand 41 = .ok (.iload_n 1, 1) := by decide +kernel
theorem dSo_judgeBand_42 : decode cSo_judgeBand 42 = .ok (.dload 4, 2) := by decide +kernel
theorem dSo_judgeBand_44 : decode cSo_judgeBand 44 = .ok (.ldc2_w 68, 3) := by decide +kernel
theorem dSo_judgeBand_47 : decode cSo_judgeBand 47 = .ok (.dcmp .l, 1) := by decide +kernel
theorem dSo_judgeBand_48 : decode cSo_judgeBand 48 = .ok (.ifCond .le 8, 3) := by decide +kernel
theorem dSo_judgeBand_51 : decode cSo_judgeBand 51 = .ok (.dload 4, 2) := by decide +kernel
theorem dSo_judgeBand_53 : decode cSo_judgeBand 53 = .ok (.goto 6, 3) := by decide +kernel
theorem dSo_judgeBand_56 : decode cSo_judgeBand 56 = .ok (.ldc2_w 68, 3) := by decide +kernel
theorem dSo_judgeBand_59 : decode cSo_judgeBand 59 = .ok (.invokestatic 70, 3) := by decide +kernel
theorem dSo_judgeBand_62 : decode cSo_judgeBand 62 = .ok (.dastore, 1) := by decide +kernel
theorem dSo_judgeBand_63 : decode cSo_judgeBand 63 = .ok (.return_, 1) := by decide +kernel
theorem dBo_append_0 : decode cBo_append 0 = .ok (.aload_n 0, 1) := by decide +kernel
theorem dBo_append_1 : decode cBo_append 1 = .ok (.getfield 22, 3) := by decide +kernel
theorem dBo_append_4 : decode cBo_append 4 = .ok (.bipush 6, 2) := by decide +kernel
theorem dBo_append_6 : decode cBo_append 6 = .ok (.if_icmp .ge 54, 3) := by decide +kernel
theorem dBo_append_9 : decode cBo_append 9 = .ok (.aload_n 0, 1) := by decide +kernel
theorem dBo_append_10 : decode cBo_append 10 = .ok (.getfield 11, 3) := by decide +kernel
theorem dBo_append_13 : decode cBo_append 13 = .ok (.aload_n 0, 1) := by decide +kernel
theorem dBo_append_14 : decode cBo_append 14 = .ok (.getfield 22, 3) := by decide +kernel
theorem dBo_append_17 : decode cBo_append 17 = .ok (.aaload, 1) := by decide +kernel
theorem dBo_append_18 : decode cBo_append 18 = .ok (.astore 5, 2) := by decide +kernel
theorem dBo_append_20 : decode cBo_append 20 = .ok (.aload 5, 2) := by decide +kernel
theorem dBo_append_22 : decode cBo_append 22 = .ok (.iload_n 1, 1) := by decide +kernel
theorem dBo_append_23 : decode cBo_append 23 = .ok (.putfield 26, 3) := by decide +kernel
theorem dBo_append_26 : decode cBo_append 26 = .ok (.aload 5, 2) := by decide +kernel
theorem dBo_append_28 : decode cBo_append 28 = .ok (.iload 4, 2) := by decide +kernel
theorem dBo_append_30 : decode cBo_append 30 = .ok (.putfield 29, 3) := by decide +kernel
theorem dBo_append_33 : decode cBo_append 33 = .ok (.aload_n 2, 1) := by decide +kernel
theorem dBo_append_34 : decode cBo_append 34 = .ok (.iload_n 3, 1) := by decide +kernel
theorem dBo_append_35 : decode cBo_append 35 = .ok (.iconst 4, 1) := by decide +kernel
theorem dBo_append_36 : decode cBo_append 36 = .ok (.imul, 1) := by decide +kernel
theorem dBo_append_37 : decode cBo_append 37 = .ok (.aload 5, 2) := by decide +kernel
theorem dBo_append_39 : decode cBo_append 39 = .ok (.getfield 32, 3) := by decide +kernel
theorem dBo_append_42 : decode cBo_append 42 = .ok (.iconst 0, 1) := by decide +kernel
theorem dBo_append_43 : decode cBo_append 43 = .ok (.iload 4, 2) := by decide +kernel
theorem dBo_append_45 : decode cBo_append 45 = .ok (.iconst 4, 1) := by decide +kernel
theorem dBo_append_46 : decode cBo_append 46 = .ok (.imul, 1) := by decide +kernel
theorem dBo_append_47 : decode cBo_append 47 = .ok (.invokestatic 35, 3) := by decide +kernel
theorem dBo_append_50 : decode cBo_append 50 = .ok (.aload_n 0, 1) := by decide +kernel
theorem dBo_append_51 : decode cBo_append 51 = .ok (.dup, 1) := by decide +kernel
theorem dBo_append_52 : decode cBo_append 52 = .ok (.getfield 22, 3) := by decide +kernel
theorem dBo_append_55 : decode cBo_append 55 = .ok (.iconst 1, 1) := by decide +kernel
theorem dBo_append_56 : decode cBo_append 56 = .ok (.iadd, 1) := by decide +kernel
theorem dBo_append_57 : decode cBo_append 57 = .ok (.putfield 22, 3) := by decide +kernel
theorem dBo_append_60 : decode cBo_append 60 = .ok (.return_, 1) := by decide +kernel
theorem dBo_takeOut_0 : decode cBo_takeOut 0 = .ok (.aload_n 0, 1) := by decide +kernel
theorem dBo_takeOut_1 : decode cBo_takeOut 1 = .ok (.getfield 11, 3) := by decide +kernel
theorem dBo_takeOut_4 : decode cBo_takeOut 4 = .ok (.iload_n 1, 1) := by decide +kernel
theorem dBo_takeOut_5 : decode cBo_takeOut 5 = .ok (.aaload, 1) := by decide +kernel
theorem dBo_takeOut_6 : decode cBo_takeOut 6 = .ok (.astore_n 2, 1) := by decide +kernel
theorem dBo_takeOut_7 : decode cBo_takeOut 7 = .ok (.iload_n 1, 1) := by decide +kernel
theorem dBo_takeOut_8 : decode cBo_takeOut 8 = .ok (.istore_n 3, 1) := by decide +kernel
theorem dBo_takeOut_9 : decode cBo_takeOut 9 = .ok (.iload_n 3, 1) := by decide +kernel
theorem dBo_takeOut_10 : decode cBo_takeOut 10 = .ok (.aload_n 0, 1) := by decide +kernel
theorem dBo_takeOut_11 : decode cBo_takeOut 11 = .ok (.getfield 22, 3) := by decide +kernel
theorem dBo_takeOut_14 : decode cBo_takeOut 14 = .ok (.iconst 1, 1) := by decide +kernel
theorem dBo_takeOut_15 : decode cBo_takeOut 15 = .ok (.isub, 1) := by decide +kernel
theorem dBo_takeOut_16 : decode cBo_takeOut 16 = .ok (.if_icmp .ge 23, 3) := by decide +kernel
theorem dBo_takeOut_19 : decode cBo_takeOut 19 = .ok (.aload_n 0, 1) := by decide +kernel
theorem dBo_takeOut_20 : decode cBo_takeOut 20 = .ok (.getfield 11, 3) := by decide +kernel
theorem dBo_takeOut_23 : decode cBo_takeOut 23 = .ok (.iload_n 3, 1) := by decide +kernel
theorem dBo_takeOut_24 : decode cBo_takeOut 24 = .ok (.aload_n 0, 1) := by decide +kernel
theorem dBo_takeOut_25 : decode cBo_takeOut 25 = .ok (.getfield 11, 3) := by decide +kernel
theorem dBo_takeOut_28 : decode cBo_takeOut 28 = .ok (.iload_n 3, 1) := by decide +kernel
theorem dBo_takeOut_29 : decode cBo_takeOut 29 = .ok (.iconst 1, 1) := by decide +kernel
theorem dBo_takeOut_30 : decode cBo_takeOut 30 = .ok (.iadd, 1) := by decide +kernel
theorem dBo_takeOut_31 : decode cBo_takeOut 31 = .ok (.aaload, 1) := by decide +kernel
theorem dBo_takeOut_32 : decode cBo_takeOut 32 = .ok (.aastore, 1) := by decide +kernel
theorem dBo_takeOut_33 : decode cBo_takeOut 33 = .ok (.iinc 3 1, 3) := by decide +kernel
theorem dBo_takeOut_36 : decode cBo_takeOut 36 = .ok (.goto (-27), 3) := by decide +kernel
theorem dBo_takeOut_39 : decode cBo_takeOut 39 = .ok (.aload_n 0, 1) := by decide +kernel
theorem dBo_takeOut_40 : decode cBo_takeOut 40 = .ok (.dup, 1) := by decide +kernel
theorem dBo_takeOut_41 : decode cBo_takeOut 41 = .ok (.getfield 22, 3) := by decide +kernel
theorem dBo_takeOut_44 : decode cBo_takeOut 44 = .ok (.iconst 1, 1) := by decide +kernel
theorem dBo_takeOut_45 : decode cBo_takeOut 45 = .ok (.isub, 1) := by decide +kernel
theorem dBo_takeOut_46 : decode cBo_takeOut 46 = .ok (.putfield 22, 3) := by decide +kernel
theorem dBo_takeOut_49 : decode cBo_takeOut 49 = .ok (.aload_n 0, 1) := by decide +kernel
theorem dBo_takeOut_50 : decode cBo_takeOut 50 = .ok (.getfield 11, 3) := by decide +kernel
theorem dBo_takeOut_53 : decode cBo_takeOut 53 = .ok (.aload_n 0, 1) := by decide +kernel
theorem dBo_takeOut_54 : decode cBo_takeOut 54 = .ok (.getfield 22, 3) := by decide +kernel
theorem dBo_takeOut_57 : decode cBo_takeOut 57 = .ok (.aload_n 2, 1) := by decide +kernel
theorem dBo_takeOut_58 : decode cBo_takeOut 58 = .ok (.aastore, 1) := by decide +kernel
theorem dBo_takeOut_59 : decode cBo_takeOut 59 = .ok (.aload_n 2, 1) := by decide +kernel
theorem dBo_takeOut_60 : decode cBo_takeOut 60 = .ok (.getfield 26, 3) := by decide +kernel
theorem dBo_takeOut_63 : decode cBo_takeOut 63 = .ok (.ireturn, 1) := by decide +kernel
theorem dBo_distance_0 : decode cBo_distance 0 = .ok (.aload 4, 2) := by decide +kernel
theorem dBo_distance_2 : decode cBo_distance 2 = .ok (.getfield 29, 3) := by decide +kernel
theorem dBo_distance_5 : decode cBo_distance 5 = .ok (.istore 5, 2) := by decide +kernel
theorem dBo_distance_7 : decode cBo_distance 7 = .ok (.iconst 0, 1) := by decide +kernel
theorem dBo_distance_8 : decode cBo_distance 8 = .ok (.istore 6, 2) := by decide +kernel
theorem dBo_distance_10 : decode cBo_distance 10 = .ok (.iload 6, 2) := by decide +kernel
theorem dBo_distance_12 : decode cBo_distance 12 = .ok (.iload_n 3, 1) := by decide +kernel
theorem dBo_distance_13 : decode cBo_distance 13 = .ok (.if_icmp .ge 62, 3) := by decide +kernel
theorem dBo_distance_16 : decode cBo_distance 16 = .ok (.iconst 0, 1) := by decide +kernel
theorem dBo_distance_17 : decode cBo_distance 17 = .ok (.istore 7, 2) := by decide +kernel
theorem dBo_distance_19 : decode cBo_distance 19 = .ok (.iload 7, 2) := by decide +kernel
theorem dBo_distance_21 : decode cBo_distance 21 = .ok (.iload 5, 2) := by decide +kernel
theorem dBo_distance_23 : decode cBo_distance 23 = .ok (.if_icmp .ge 46, 3) := by decide +kernel
theorem dBo_distance_26 : decode cBo_distance 26 = .ok (.aload_n 0, 1) := by decide +kernel
theorem dBo_distance_27 : decode cBo_distance 27 = .ok (.getfield 18, 3) := by decide +kernel
theorem dBo_distance_30 : decode cBo_distance 30 = .ok (.iload 6, 2) := by decide +kernel
theorem dBo_distance_32 : decode cBo_distance 32 = .ok (.bipush 8, 2) := by decide +kernel
theorem dBo_distance_34 : decode cBo_distance 34 = .ok (.imul, 1) := by decide +kernel
theorem dBo_distance_35 : decode cBo_distance 35 = .ok (.iload 7, 2) := by decide +kernel
theorem dBo_distance_37 : decode cBo_distance 37 = .ok (.iadd, 1) := by decide +kernel
theorem dBo_distance_38 : decode cBo_distance 38 = .ok (.aload_n 1, 1) := by decide +kernel
theorem dBo_distance_39 : decode cBo_distance 39 = .ok (.iload_n 2, 1) := by decide +kernel
theorem dBo_distance_40 : decode cBo_distance 40 = .ok (.iload 6, 2) := by decide +kernel
theorem dBo_distance_42 : decode cBo_distance 42 = .ok (.iadd, 1) := by decide +kernel
theorem dBo_distance_43 : decode cBo_distance 43 = .ok (.aload 4, 2) := by decide +kernel
theorem dBo_distance_45 : decode cBo_distance 45 = .ok (.getfield 32, 3) := by decide +kernel
theorem dBo_distance_48 : decode cBo_distance 48 = .ok (.iload 7, 2) := by decide +kernel
theorem dBo_distance_50 : decode cBo_distance 50 = .ok (.invokestatic 41, 3) := by decide +kernel
theorem dBo_distance_53 : decode cBo_distance 53 = .ok (.aload_n 0, 1) := by decide +kernel
theorem dBo_distance_54 : decode cBo_distance 54 = .ok (.iload 6, 2) := by decide +kernel
theorem dBo_distance_56 : decode cBo_distance 56 = .ok (.iload 7, 2) := by decide +kernel
theorem dBo_distance_58 : decode cBo_distance 58 = .ok (.invokevirtual 45, 3) := by decide +kernel
theorem dBo_distance_61 : decode cBo_distance 61 = .ok (.dadd, 1) := by decide +kernel
theorem dBo_distance_62 : decode cBo_distance 62 = .ok (.dastore, 1) := by decide +kernel
theorem dBo_distance_63 : decode cBo_distance 63 = .ok (.iinc 7 1, 3) := by decide +kernel
theorem dBo_distance_66 : decode cBo_distance 66 = .ok (.goto (-47), 3) := by decide +kernel
theorem dBo_distance_69 : decode cBo_distance 69 = .ok (.iinc 6 1, 3) := by decide +kernel
theorem dBo_distance_72 : decode cBo_distance 72 = .ok (.goto (-62), 3) := by decide +kernel
theorem dBo_distance_75 : decode cBo_distance 75 = .ok (.aload_n 0, 1) := by decide +kernel
theorem dBo_distance_76 : decode cBo_distance 76 = .ok (.getfield 18, 3) := by decide +kernel
theorem dBo_distance_79 : decode cBo_distance 79 = .ok (.iload_n 3, 1) := by decide +kernel
theorem dBo_distance_80 : decode cBo_distance 80 = .ok (.iconst 1, 1) := by decide +kernel
theorem dBo_distance_81 : decode cBo_distance 81 = .ok (.isub, 1) := by decide +kernel
theorem dBo_distance_82 : decode cBo_distance 82 = .ok (.bipush 8, 2) := by decide +kernel
theorem dBo_distance_84 : decode cBo_distance 84 = .ok (.imul, 1) := by decide +kernel
theorem dBo_distance_85 : decode cBo_distance 85 = .ok (.iload 5, 2) := by decide +kernel
theorem dBo_distance_87 : decode cBo_distance 87 = .ok (.iadd, 1) := by decide +kernel
theorem dBo_distance_88 : decode cBo_distance 88 = .ok (.iconst 1, 1) := by decide +kernel
theorem dBo_distance_89 : decode cBo_distance 89 = .ok (.isub, 1) := by decide +kernel
theorem dBo_distance_90 : decode cBo_distance 90 = .ok (.daload, 1) := by decide +kernel
theorem dBo_distance_91 : decode cBo_distance 91 = .ok (.iload_n 3, 1) := by decide +kernel
theorem dBo_distance_92 : decode cBo_distance 92 = .ok (.iload 5, 2) := by decide +kernel
theorem dBo_distance_94 : decode cBo_distance 94 = .ok (.iadd, 1) := by decide +kernel
theorem dBo_distance_95 : decode cBo_distance 95 = .ok (.i2d, 1) := by decide +kernel
theorem dBo_distance_96 : decode cBo_distance 96 = .ok (.ddiv, 1) := by decide +kernel
theorem dBo_distance_97 : decode cBo_distance 97 = .ok (.dreturn, 1) := by decide +kernel
theorem dBo_far_0 : decode cBo_far 0 = .ok (.dconst 0, 1) := by decide +kernel
theorem dBo_far_1 : decode cBo_far 1 = .ok (.dstore 4, 2) := by decide +kernel
theorem dBo_far_3 : decode cBo_far 3 = .ok (.iconst 0, 1) := by decide +kernel
theorem dBo_far_4 : decode cBo_far 4 = .ok (.istore 6, 2) := by decide +kernel
theorem dBo_far_6 : decode cBo_far 6 = .ok (.iload 6, 2) := by decide +kernel
theorem dBo_far_8 : decode cBo_far 8 = .ok (.iconst 4, 1) := by decide +kernel
theorem dBo_far_9 : decode cBo_far 9 = .ok (.if_icmp .ge 38, 3) := by decide +kernel
theorem dBo_far_12 : decode cBo_far 12 = .ok (.aload_n 0, 1) := by decide +kernel
theorem dBo_far_13 : decode cBo_far 13 = .ok (.iload_n 1, 1) := by decide +kernel
theorem dBo_far_14 : decode cBo_far 14 = .ok (.iconst 4, 1) := by decide +kernel
theorem dBo_far_15 : decode cBo_far 15 = .ok (.imul, 1) := by decide +kernel
theorem dBo_far_16 : decode cBo_far 16 = .ok (.iload 6, 2) := by decide +kernel
theorem dBo_far_18 : decode cBo_far 18 = .ok (.iadd, 1) := by decide +kernel
theorem dBo_far_19 : decode cBo_far 19 = .ok (.daload, 1) := by decide +kernel
theorem dBo_far_20 : decode cBo_far 20 = .ok (.aload_n 2, 1) := by decide +kernel
theorem dBo_far_21 : decode cBo_far 21 = .ok (.iload_n 3, 1) := by decide +kernel
theorem dBo_far_22 : decode cBo_far 22 = .ok (.iconst 4, 1) := by decide +kernel
theorem dBo_far_23 : decode cBo_far 23 = .ok (.imul, 1) := by decide +kernel
theorem dBo_far_24 : decode cBo_far 24 = .ok (.iload 6, 2) := by decide +kernel
theorem dBo_far_26 : decode cBo_far 26 = .ok (.iadd, 1) := by decide +kernel
theorem dBo_far_27 : decode cBo_far 27 = .ok (.daload, 1) := by decide +kernel
theorem dBo_far_28 : decode cBo_far 28 = .ok (.dsub, 1) := by decide +kernel
theorem dBo_far_29 : decode cBo_far 29 = .ok (.dstore 7, 2) := by decide +kernel
theorem dBo_far_31 : decode cBo_far 31 = .ok (.dload 4, 2) := by decide +kernel
theorem dBo_far_33 : decode cBo_far 33 = .ok (.dload 7, 2) := by decide +kernel
theorem dBo_far_35 : decode cBo_far 35 = .ok (.dload 7, 2) := by decide +kernel
theorem dBo_far_37 : decode cBo_far 37 = .ok (.dmul, 1) := by decide +kernel
theorem dBo_far_38 : decode cBo_far 38 = .ok (.dadd, 1) := by decide +kernel
theorem dBo_far_39 : decode cBo_far 39 = .ok (.dstore 4, 2) := by decide +kernel
theorem dBo_far_41 : decode cBo_far 41 = .ok (.iinc 6 1, 3) := by decide +kernel
theorem dBo_far_44 : decode cBo_far 44 = .ok (.goto (-38), 3) := by decide +kernel
theorem dBo_far_47 : decode cBo_far 47 = .ok (.dload 4, 2) := by decide +kernel
theorem dBo_far_49 : decode cBo_far 49 = .ok (.dreturn, 1) := by decide +kernel
theorem dBo_leastBefore_0 : decode cBo_leastBefore 0 = .ok (.iload_n 1, 1) := by decide +kernel
theorem dBo_leastBefore_1 : decode cBo_leastBefore 1 = .ok (.bipush 8, 2) := by decide +kernel
theorem dBo_leastBefore_3 : decode cBo_leastBefore 3 = .ok (.imul, 1) := by decide +kernel
theorem dBo_leastBefore_4 : decode cBo_leastBefore 4 = .ok (.iload_n 2, 1) := by decide +kernel
theorem dBo_leastBefore_5 : decode cBo_leastBefore 5 = .ok (.iadd, 1) := by decide +kernel
theorem dBo_leastBefore_6 : decode cBo_leastBefore 6 = .ok (.istore_n 3, 1) := by decide +kernel
theorem dBo_leastBefore_7 : decode cBo_leastBefore 7 = .ok (.iload_n 1, 1) := by decide +kernel
theorem dBo_leastBefore_8 : decode cBo_leastBefore 8 = .ok (.ifCond .ne 20, 3) := by decide +kernel
theorem dBo_leastBefore_11 : decode cBo_leastBefore 11 = .ok (.iload_n 2, 1) := by decide +kernel
theorem dBo_leastBefore_12 : decode cBo_leastBefore 12 = .ok (.ifCond .ne 7, 3) := by decide +kernel
theorem dBo_leastBefore_15 : decode cBo_leastBefore 15 = .ok (.dconst 0, 1) := by decide +kernel
theorem dBo_leastBefore_16 : decode cBo_leastBefore 16 = .ok (.goto 11, 3) := by decide +kernel
theorem dBo_leastBefore_19 : decode cBo_leastBefore 19 = .ok (.aload_n 0, 1) := by decide +kernel
theorem dBo_leastBefore_20 : decode cBo_leastBefore 20 = .ok (.getfield 18, 3) := by decide +kernel
theorem dBo_leastBefore_23 : decode cBo_leastBefore 23 = .ok (.iload_n 3, 1) := by decide +kernel
theorem dBo_leastBefore_24 : decode cBo_leastBefore 24 = .ok (.iconst 1, 1) := by decide +kernel
theorem dBo_leastBefore_25 : decode cBo_leastBefore 25 = .ok (.isub, 1) := by decide +kernel
theorem dBo_leastBefore_26 : decode cBo_leastBefore 26 = .ok (.daload, 1) := by decide +kernel
theorem dBo_leastBefore_27 : decode cBo_leastBefore 27 = .ok (.dreturn, 1) := by decide +kernel
theorem dBo_leastBefore_28 : decode cBo_leastBefore 28 = .ok (.aload_n 0, 1) := by decide +kernel
theorem dBo_leastBefore_29 : decode cBo_leastBefore 29 = .ok (.getfield 18, 3) := by decide +kernel
theorem dBo_leastBefore_32 : decode cBo_leastBefore 32 = .ok (.iload_n 3, 1) := by decide +kernel
theorem dBo_leastBefore_33 : decode cBo_leastBefore 33 = .ok (.bipush 8, 2) := by decide +kernel
theorem dBo_leastBefore_35 : decode cBo_leastBefore 35 = .ok (.isub, 1) := by decide +kernel
theorem dBo_leastBefore_36 : decode cBo_leastBefore 36 = .ok (.daload, 1) := by decide +kernel
theorem dBo_leastBefore_37 : decode cBo_leastBefore 37 = .ok (.dstore 4, 2) := by decide +kernel
theorem dBo_leastBefore_39 : decode cBo_leastBefore 39 = .ok (.iload_n 2, 1) := by decide +kernel
theorem dBo_leastBefore_40 : decode cBo_leastBefore 40 = .ok (.ifCond .le 36, 3) := by decide +kernel
theorem dBo_leastBefore_43 : decode cBo_leastBefore 43 = .ok (.dload 4, 2) := by decide +kernel
theorem dBo_leastBefore_45 : decode cBo_leastBefore 45 = .ok (.aload_n 0, 1) := by decide +kernel
theorem dBo_leastBefore_46 : decode cBo_leastBefore 46 = .ok (.getfield 18, 3) := by decide +kernel
theorem dBo_leastBefore_49 : decode cBo_leastBefore 49 = .ok (.iload_n 3, 1) := by decide +kernel
theorem dBo_leastBefore_50 : decode cBo_leastBefore 50 = .ok (.iconst 1, 1) := by decide +kernel
theorem dBo_leastBefore_51 : decode cBo_leastBefore 51 = .ok (.isub, 1) := by decide +kernel
theorem dBo_leastBefore_52 : decode cBo_leastBefore 52 = .ok (.daload, 1) := by decide +kernel
theorem dBo_leastBefore_53 : decode cBo_leastBefore 53 = .ok (.invokestatic 49, 3) := by decide +kernel
theorem dBo_leastBefore_56 : decode cBo_leastBefore 56 = .ok (.dstore 4, 2) := by decide +kernel
theorem dBo_leastBefore_58 : decode cBo_leastBefore 58 = .ok (.dload 4, 2) := by decide +kernel
theorem dBo_leastBefore_60 : decode cBo_leastBefore 60 = .ok (.aload_n 0, 1) := by decide +kernel
theorem dBo_leastBefore_61 : decode cBo_leastBefore 61 = .ok (.getfield 18, 3) := by decide +kernel
theorem dBo_leastBefore_64 : decode cBo_leastBefore 64 = .ok (.iload_n 3, 1) := by decide +kernel
theorem dBo_leastBefore_65 : decode cBo_leastBefore 65 = .ok (.bipush 8, 2) := by decide +kernel
theorem dBo_leastBefore_67 : decode cBo_leastBefore 67 = .ok (.isub, 1) := by decide +kernel
theorem dBo_leastBefore_68 : decode cBo_leastBefore 68 = .ok (.iconst 1, 1) := by decide +kernel
theorem dBo_leastBefore_69 : decode cBo_leastBefore 69 = .ok (.isub, 1) := by decide +kernel
theorem dBo_leastBefore_70 : decode cBo_leastBefore 70 = .ok (.daload, 1) := by decide +kernel
theorem dBo_leastBefore_71 : decode cBo_leastBefore 71 = .ok (.invokestatic 49, 3) := by decide +kernel
theorem dBo_leastBefore_74 : decode cBo_leastBefore 74 = .ok (.dstore 4, 2) := by decide +kernel
theorem dBo_leastBefore_76 : decode cBo_leastBefore 76 = .ok (.dload 4, 2) := by decide +kernel
theorem dBo_leastBefore_78 : decode cBo_leastBefore 78 = .ok (.dreturn, 1) := by decide +kernel
theorem dBo_lesser_0 : decode cBo_lesser 0 = .ok (.dload_n 2, 1) := by decide +kernel
theorem dBo_lesser_1 : decode cBo_lesser 1 = .ok (.dload_n 0, 1) := by decide +kernel
theorem dBo_lesser_2 : decode cBo_lesser 2 = .ok (.dcmp .g, 1) := by decide +kernel
theorem dBo_lesser_3 : decode cBo_lesser 3 = .ok (.ifCond .ge 7, 3) := by decide +kernel
theorem dBo_lesser_6 : decode cBo_lesser 6 = .ok (.dload_n 2, 1) := by decide +kernel
theorem dBo_lesser_7 : decode cBo_lesser 7 = .ok (.goto 4, 3) := by decide +kernel
theorem dBo_lesser_10 : decode cBo_lesser 10 = .ok (.dload_n 0, 1) := by decide +kernel
theorem dBo_lesser_11 : decode cBo_lesser 11 = .ok (.dreturn, 1) := by decide +kernel
theorem dLi_cutOut_0 : decode cLi_cutOut 0 = .ok (.aload_n 0, 1) := by decide +kernel
theorem dLi_cutOut_1 : decode cLi_cutOut 1 = .ok (.iconst 0, 1) := by decide +kernel
theorem dLi_cutOut_2 : decode cLi_cutOut 2 = .ok (.putfield 18, 3) := by decide +kernel
theorem dLi_cutOut_5 : decode cLi_cutOut 5 = .ok (.iconst 0, 1) := by decide +kernel
theorem dLi_cutOut_6 : decode cLi_cutOut 6 = .ok (.istore 5, 2) := by decide +kernel
theorem dLi_cutOut_8 : decode cLi_cutOut 8 = .ok (.iconst 0, 1) := by decide +kernel
theorem dLi_cutOut_9 : decode cLi_cutOut 9 = .ok (.istore 6, 2) := by decide +kernel
theorem dLi_cutOut_11 : decode cLi_cutOut 11 = .ok (.iconst 0, 1) := by decide +kernel
theorem dLi_cutOut_12 : decode cLi_cutOut 12 = .ok (.istore 7, 2) := by decide +kernel
theorem dLi_cutOut_14 : decode cLi_cutOut 14 = .ok (.iload 7, 2) := by decide +kernel
theorem dLi_cutOut_16 : decode cLi_cutOut 16 = .ok (.aload_n 1, 1) := by decide +kernel
theorem dLi_cutOut_17 : decode cLi_cutOut 17 = .ok (.invokevirtual 22, 3) := by decide +kernel
theorem dLi_cutOut_20 : decode cLi_cutOut 20 = .ok (.if_icmp .ge 125, 3) := by decide +kernel
theorem dLi_cutOut_23 : decode cLi_cutOut 23 = .ok (.aload_n 1, 1) := by decide +kernel
theorem dLi_cutOut_24 : decode cLi_cutOut 24 = .ok (.iload 7, 2) := by decide +kernel
theorem dLi_cutOut_26 : decode cLi_cutOut 26 = .ok (.invokevirtual 28, 3) := by decide +kernel
theorem dLi_cutOut_29 : decode cLi_cutOut 29 = .ok (.dload_n 2, 1) := by decide +kernel
theorem dLi_cutOut_30 : decode cLi_cutOut 30 = .ok (.dcmp .l, 1) := by decide +kernel
theorem dLi_cutOut_31 : decode cLi_cutOut 31 = .ok (.ifCond .lt 7, 3) := by decide +kernel
theorem dLi_cutOut_34 : decode cLi_cutOut 34 = .ok (.iconst 1, 1) := by decide +kernel
theorem dLi_cutOut_35 : decode cLi_cutOut 35 = .ok (.goto 4, 3) := by decide +kernel
theorem dLi_cutOut_38 : decode cLi_cutOut 38 = .ok (.iconst 0, 1) := by decide +kernel
theorem dLi_cutOut_39 : decode cLi_cutOut 39 = .ok (.istore 8, 2) := by decide +kernel
theorem dLi_cutOut_41 : decode cLi_cutOut 41 = .ok (.iload 5, 2) := by decide +kernel
theorem dLi_cutOut_43 : decode cLi_cutOut 43 = .ok (.ifCond .ne 11, 3) := by decide +kernel
theorem dLi_cutOut_46 : decode cLi_cutOut 46 = .ok (.iload 8, 2) := by decide +kernel
theorem dLi_cutOut_48 : decode cLi_cutOut 48 = .ok (.ifCond .ne 6, 3) := by decide +kernel
theorem dLi_cutOut_51 : decode cLi_cutOut 51 = .ok (.goto 88, 3) := by decide +kernel
theorem dLi_cutOut_54 : decode cLi_cutOut 54 = .ok (.iload 5, 2) := by decide +kernel
theorem dLi_cutOut_56 : decode cLi_cutOut 56 = .ok (.ifCond .ne 27, 3) := by decide +kernel
theorem dLi_cutOut_59 : decode cLi_cutOut 59 = .ok (.aload_n 0, 1) := by decide +kernel
theorem dLi_cutOut_60 : decode cLi_cutOut 60 = .ok (.getfield 11, 3) := by decide +kernel
theorem dLi_cutOut_63 : decode cLi_cutOut 63 = .ok (.aload_n 0, 1) := by decide +kernel
theorem dLi_cutOut_64 : decode cLi_cutOut 64 = .ok (.getfield 18, 3) := by decide +kernel
theorem dLi_cutOut_67 : decode cLi_cutOut 67 = .ok (.aaload, 1) := by decide +kernel
theorem dLi_cutOut_68 : decode cLi_cutOut 68 = .ok (.iload 7, 2) := by decide +kernel
theorem dLi_cutOut_70 : decode cLi_cutOut 70 = .ok (.invokevirtual 32, 3) := by decide +kernel
theorem dLi_cutOut_73 : decode cLi_cutOut 73 = .ok (.aload_n 0, 1) := by decide +kernel
theorem dLi_cutOut_74 : decode cLi_cutOut 74 = .ok (.dup, 1) := by decide +kernel
theorem dLi_cutOut_75 : decode cLi_cutOut 75 = .ok (.getfield 18, 3) := by decide +kernel
theorem dLi_cutOut_78 : decode cLi_cutOut 78 = .ok (.iconst 1, 1) := by decide +kernel
theorem dLi_cutOut_79 : decode cLi_cutOut 79 = .ok (.iadd, 1) := by decide +kernel
theorem dLi_cutOut_80 : decode cLi_cutOut 80 = .ok (.putfield 18, 3) := by decide +kernel
theorem dLi_cutOut_83 : decode cLi_cutOut 83 = .ok (.iinc 5 1, 3) := by decide +kernel
theorem dLi_cutOut_86 : decode cLi_cutOut 86 = .ok (.iload 8, 2) := by decide +kernel
theorem dLi_cutOut_88 : decode cLi_cutOut 88 = .ok (.ifCond .eq 7, 3) := by decide +kernel
theorem dLi_cutOut_91 : decode cLi_cutOut 91 = .ok (.iconst 0, 1) := by decide +kernel
theorem dLi_cutOut_92 : decode cLi_cutOut 92 = .ok (.goto 7, 3) := by decide +kernel
theorem dLi_cutOut_95 : decode cLi_cutOut 95 = .ok (.iload 6, 2) := by decide +kernel
theorem dLi_cutOut_97 : decode cLi_cutOut 97 = .ok (.iconst 1, 1) := by decide +kernel
theorem dLi_cutOut_98 : decode cLi_cutOut 98 = .ok (.iadd, 1) := by decide +kernel
theorem dLi_cutOut_99 : decode cLi_cutOut 99 = .ok (.istore 6, 2) := by decide +kernel
theorem dLi_cutOut_101 : decode cLi_cutOut 101 = .ok (.iload 8, 2) := by decide +kernel
theorem dLi_cutOut_103 : decode cLi_cutOut 103 = .ok (.ifCond .eq 19, 3) := by decide +kernel
theorem dLi_cutOut_106 : decode cLi_cutOut 106 = .ok (.aload_n 0, 1) := by decide +kernel
theorem dLi_cutOut_107 : decode cLi_cutOut 107 = .ok (.getfield 11, 3) := by decide +kernel
theorem dLi_cutOut_110 : decode cLi_cutOut 110 = .ok (.aload_n 0, 1) := by decide +kernel
theorem dLi_cutOut_111 : decode cLi_cutOut 111 = .ok (.getfield 18, 3) := by decide +kernel
theorem dLi_cutOut_114 : decode cLi_cutOut 114 = .ok (.iconst 1, 1) := by decide +kernel
theorem dLi_cutOut_115 : decode cLi_cutOut 115 = .ok (.isub, 1) := by decide +kernel
theorem dLi_cutOut_116 : decode cLi_cutOut 116 = .ok (.aaload, 1) := by decide +kernel
theorem dLi_cutOut_117 : decode cLi_cutOut 117 = .ok (.iload 7, 2) := by decide +kernel
theorem dLi_cutOut_119 : decode cLi_cutOut 119 = .ok (.invokevirtual 36, 3) := by decide +kernel
theorem dLi_cutOut_122 : decode cLi_cutOut 122 = .ok (.iload 6, 2) := by decide +kernel
theorem dLi_cutOut_124 : decode cLi_cutOut 124 = .ok (.iload 4, 2) := by decide +kernel
theorem dLi_cutOut_126 : decode cLi_cutOut 126 = .ok (.if_icmp .eq 10, 3) := by decide +kernel
theorem dLi_cutOut_129 : decode cLi_cutOut 129 = .ok (.iload 5, 2) := by decide +kernel
theorem dLi_cutOut_131 : decode cLi_cutOut 131 = .ok (.bipush 10, 2) := by decide +kernel
theorem dLi_cutOut_133 : decode cLi_cutOut 133 = .ok (.if_icmp .ne 6, 3) := by decide +kernel
theorem dLi_cutOut_136 : decode cLi_cutOut 136 = .ok (.iconst 0, 1) := by decide +kernel
theorem dLi_cutOut_137 : decode cLi_cutOut 137 = .ok (.istore 5, 2) := by decide +kernel
theorem dLi_cutOut_139 : decode cLi_cutOut 139 = .ok (.iinc 7 1, 3) := by decide +kernel
theorem dLi_cutOut_142 : decode cLi_cutOut 142 = .ok (.goto (-128), 3) := by decide +kernel
theorem dLi_cutOut_145 : decode cLi_cutOut 145 = .ok (.return_, 1) := by decide +kernel
theorem dSo_loudness_0 : decode cSo_loudness 0 = .ok (.dconst 0, 1) := by decide +kernel
theorem dSo_loudness_1 : decode cSo_loudness 1 = .ok (.dstore_n 2, 1) := by decide +kernel
theorem dSo_loudness_2 : decode cSo_loudness 2 = .ok (.iconst 0, 1) := by decide +kernel
theorem dSo_loudness_3 : decode cSo_loudness 3 = .ok (.istore 4, 2) := by decide +kernel
theorem dSo_loudness_5 : decode cSo_loudness 5 = .ok (.iload 4, 2) := by decide +kernel
theorem dSo_loudness_7 : decode cSo_loudness 7 = .ok (.iconst 4, 1) := by decide +kernel
theorem dSo_loudness_8 : decode cSo_loudness 8 = .ok (.if_icmp .ge 23, 3) := by decide +kernel
theorem dSo_loudness_11 : decode cSo_loudness 11 = .ok (.dload_n 2, 1) := by decide +kernel
theorem dSo_loudness_12 : decode cSo_loudness 12 = .ok (.aload_n 0, 1) := by decide +kernel
theorem dSo_loudness_13 : decode cSo_loudness 13 = .ok (.getfield 22, 3) := by decide +kernel
theorem dSo_loudness_16 : decode cSo_loudness 16 = .ok (.iload_n 1, 1) := by decide +kernel
theorem dSo_loudness_17 : decode cSo_loudness 17 = .ok (.iconst 4, 1) := by decide +kernel
theorem dSo_loudness_18 : decode cSo_loudness 18 = .ok (.imul, 1) := by decide +kernel
theorem dSo_loudness_19 : decode cSo_loudness 19 = .ok (.iload 4, 2) := by decide +kernel
theorem dSo_loudness_21 : decode cSo_loudness 21 = .ok (.iadd, 1) := by decide +kernel
theorem dSo_loudness_22 : decode cSo_loudness 22 = .ok (.daload, 1) := by decide +kernel
theorem dSo_loudness_23 : decode cSo_loudness 23 = .ok (.dadd, 1) := by decide +kernel
theorem dSo_loudness_24 : decode cSo_loudness 24 = .ok (.dstore_n 2, 1) := by decide +kernel
theorem dSo_loudness_25 : decode cSo_loudness 25 = .ok (.iinc 4 1, 3) := by decide +kernel
theorem dSo_loudness_28 : decode cSo_loudness 28 = .ok (.goto (-23), 3) := by decide +kernel
theorem dSo_loudness_31 : decode cSo_loudness 31 = .ok (.dload_n 2, 1) := by decide +kernel
theorem dSo_loudness_32 : decode cSo_loudness 32 = .ok (.dreturn, 1) := by decide +kernel
theorem dWo_reach_0 : decode cWo_reach 0 = .ok (.aload_n 0, 1) := by decide +kernel
theorem dWo_reach_1 : decode cWo_reach 1 = .ok (.iload_n 1, 1) := by decide +kernel
theorem dWo_reach_2 : decode cWo_reach 2 = .ok (.aload_n 0, 1) := by decide +kernel
theorem dWo_reach_3 : decode cWo_reach 3 = .ok (.getfield 15, 3) := by decide +kernel
theorem dWo_reach_6 : decode cWo_reach 6 = .ok (.isub, 1) := by decide +kernel
theorem dWo_reach_7 : decode cWo_reach 7 = .ok (.iconst 1, 1) := by decide +kernel
theorem dWo_reach_8 : decode cWo_reach 8 = .ok (.iadd, 1) := by decide +kernel
theorem dWo_reach_9 : decode cWo_reach 9 = .ok (.putfield 19, 3) := by decide +kernel
theorem dWo_reach_12 : decode cWo_reach 12 = .ok (.return_, 1) := by decide +kernel
theorem dWo_recognise_0 : decode cWo_recognise 0 = .ok (.iconst 0, 1) := by decide +kernel
theorem dWo_recognise_1 : decode cWo_recognise 1 = .ok (.istore 5, 2) := by decide +kernel
theorem dWo_recognise_3 : decode cWo_recognise 3 = .ok (.iload 5, 2) := by decide +kernel
theorem dWo_recognise_5 : decode cWo_recognise 5 = .ok (.aload_n 2, 1) := by decide +kernel
theorem dWo_recognise_6 : decode cWo_recognise 6 = .ok (.getfield 32, 3) := by decide +kernel
theorem dWo_recognise_9 : decode cWo_recognise 9 = .ok (.if_icmp .ge 64, 3) := by decide +kernel
theorem dWo_recognise_12 : decode cWo_recognise 12 = .ok (.aload_n 2, 1) := by decide +kernel
theorem dWo_recognise_13 : decode cWo_recognise 13 = .ok (.aload_n 1, 1) := by decide +kernel
theorem dWo_recognise_14 : decode cWo_recognise 14 = .ok (.getfield 37, 3) := by decide +kernel
theorem dWo_recognise_17 : decode cWo_recognise 17 = .ok (.aload_n 0, 1) := by decide +kernel
theorem dWo_recognise_18 : decode cWo_recognise 18 = .ok (.getfield 15, 3) := by decide +kernel
theorem dWo_recognise_21 : decode cWo_recognise 21 = .ok (.aload_n 0, 1) := by decide +kernel
theorem dWo_recognise_22 : decode cWo_recognise 22 = .ok (.getfield 19, 3) := by decide +kernel
theorem dWo_recognise_25 : decode cWo_recognise 25 = .ok (.aload_n 2, 1) := by decide +kernel
theorem dWo_recognise_26 : decode cWo_recognise 26 = .ok (.getfield 43, 3) := by decide +kernel
theorem dWo_recognise_29 : decode cWo_recognise 29 = .ok (.iload 5, 2) := by decide +kernel
theorem dWo_recognise_31 : decode cWo_recognise 31 = .ok (.aaload, 1) := by decide +kernel
theorem dWo_recognise_32 : decode cWo_recognise 32 = .ok (.invokevirtual 47, 3) := by decide +kernel
theorem dWo_recognise_35 : decode cWo_recognise 35 = .ok (.dstore 6, 2) := by decide +kernel
theorem dWo_recognise_37 : decode cWo_recognise 37 = .ok (.aload_n 0, 1) := by decide +kernel
theorem dWo_recognise_38 : decode cWo_recognise 38 = .ok (.getfield 22, 3) := by decide +kernel
theorem dWo_recognise_41 : decode cWo_recognise 41 = .ok (.iconst (-1), 1) := by decide +kernel
theorem dWo_recognise_42 : decode cWo_recognise 42 = .ok (.if_icmp .eq 13, 3) := by decide +kernel
theorem dWo_recognise_45 : decode cWo_recognise 45 = .ok (.dload 6, 2) := by decide +kernel
theorem dWo_recognise_47 : decode cWo_recognise 47 = .ok (.aload_n 0, 1) := by decide +kernel
theorem dWo_recognise_48 : decode cWo_recognise 48 = .ok (.getfield 28, 3) := by decide +kernel
theorem dWo_recognise_51 : decode cWo_recognise 51 = .ok (.dcmp .g, 1) := by decide +kernel
theorem dWo_recognise_52 : decode cWo_recognise 52 = .ok (.ifCond .ge 15, 3) := by decide +kernel
theorem dWo_recognise_55 : decode cWo_recognise 55 = .ok (.aload_n 0, 1) := by decide +kernel
theorem dWo_recognise_56 : decode cWo_recognise 56 = .ok (.iload 5, 2) := by decide +kernel
theorem dWo_recognise_58 : decode cWo_recognise 58 = .ok (.putfield 22, 3) := by decide +kernel
theorem dWo_recognise_61 : decode cWo_recognise 61 = .ok (.aload_n 0, 1) := by decide +kernel
theorem dWo_recognise_62 : decode cWo_recognise 62 = .ok (.dload 6, 2) := by decide +kernel
theorem dWo_recognise_64 : decode cWo_recognise 64 = .ok (.putfield 28, 3) := by decide +kernel
theorem dWo_recognise_67 : decode cWo_recognise 67 = .ok (.iinc 5 1, 3) := by decide +kernel
theorem dWo_recognise_70 : decode cWo_recognise 70 = .ok (.goto (-67), 3) := by decide +kernel
theorem dWo_recognise_73 : decode cWo_recognise 73 = .ok (.aload_n 0, 1) := by decide +kernel
theorem dWo_recognise_74 : decode cWo_recognise 74 = .ok (.getfield 22, 3) := by decide +kernel
theorem dWo_recognise_77 : decode cWo_recognise 77 = .ok (.iconst (-1), 1) := by decide +kernel
theorem dWo_recognise_78 : decode cWo_recognise 78 = .ok (.if_icmp .eq 28, 3) := by decide +kernel
theorem dWo_recognise_81 : decode cWo_recognise 81 = .ok (.aload_n 0, 1) := by decide +kernel
theorem dWo_recognise_82 : decode cWo_recognise 82 = .ok (.getfield 28, 3) := by decide +kernel
theorem dWo_recognise_85 : decode cWo_recognise 85 = .ok (.dload_n 3, 1) := by decide +kernel
theorem dWo_recognise_86 : decode cWo_recognise 86 = .ok (.dcmp .g, 1) := by decide +kernel
theorem dWo_recognise_87 : decode cWo_recognise 87 = .ok (.ifCond .gt 19, 3) := by decide +kernel
theorem dWo_recognise_90 : decode cWo_recognise 90 = .ok (.aload_n 0, 1) := by decide +kernel
theorem dWo_recognise_91 : decode cWo_recognise 91 = .ok (.aload_n 2, 1) := by decide +kernel
theorem dWo_recognise_92 : decode cWo_recognise 92 = .ok (.getfield 43, 3) := by decide +kernel
theorem dWo_recognise_95 : decode cWo_recognise 95 = .ok (.aload_n 0, 1) := by decide +kernel
theorem dWo_recognise_96 : decode cWo_recognise 96 = .ok (.getfield 22, 3) := by decide +kernel
theorem dWo_recognise_99 : decode cWo_recognise 99 = .ok (.aaload, 1) := by decide +kernel
theorem dWo_recognise_100 : decode cWo_recognise 100 = .ok (.getfield 51, 3) := by decide +kernel
theorem dWo_recognise_103 : decode cWo_recognise 103 = .ok (.putfield 25, 3) := by decide +kernel
theorem dWo_recognise_106 : decode cWo_recognise 106 = .ok (.return_, 1) := by decide +kernel

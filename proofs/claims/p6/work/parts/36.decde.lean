-- decode rows of the class
theorem dDe_octets_0 : decode cDe_octets 0 = .ok (.iload_n 1, 1) := by decide +kernel
theorem dDe_octets_1 : decode cDe_octets 1 = .ok (.iconst 1, 1) := by decide +kernel
theorem dDe_octets_2 : decode cDe_octets 2 = .ok (.if_icmp .lt 9, 3) := by decide +kernel
theorem dDe_octets_5 : decode cDe_octets 5 = .ok (.iload_n 1, 1) := by decide +kernel
theorem dDe_octets_6 : decode cDe_octets 6 = .ok (.bipush 8, 2) := by decide +kernel
theorem dDe_octets_8 : decode cDe_octets 8 = .ok (.if_icmp .le 13, 3) := by decide +kernel
theorem dDe_octets_11 : decode cDe_octets 11 = .ok (.new 67, 3) := by decide +kernel
theorem dDe_octets_14 : decode cDe_octets 14 = .ok (.dup, 1) := by decide +kernel
theorem dDe_octets_15 : decode cDe_octets 15 = .ok (.ldc 69, 2) := by decide +kernel
theorem dDe_octets_17 : decode cDe_octets 17 = .ok (.invokespecial 71, 3) := by decide +kernel
theorem dDe_octets_20 : decode cDe_octets 20 = .ok (.athrow, 1) := by decide +kernel
theorem dDe_octets_21 : decode cDe_octets 21 = .ok (.aload_n 0, 1) := by decide +kernel
theorem dDe_octets_22 : decode cDe_octets 22 = .ok (.getfield 12, 3) := by decide +kernel
theorem dDe_octets_25 : decode cDe_octets 25 = .ok (.getfield 74, 3) := by decide +kernel
theorem dDe_octets_28 : decode cDe_octets 28 = .ok (.iload_n 1, 1) := by decide +kernel
theorem dDe_octets_29 : decode cDe_octets 29 = .ok (.iadd, 1) := by decide +kernel
theorem dDe_octets_30 : decode cDe_octets 30 = .ok (.sipush 400, 3) := by decide +kernel
theorem dDe_octets_33 : decode cDe_octets 33 = .ok (.if_icmp .le 13, 3) := by decide +kernel
theorem dDe_octets_36 : decode cDe_octets 36 = .ok (.new 77, 3) := by decide +kernel
theorem dDe_octets_39 : decode cDe_octets 39 = .ok (.dup, 1) := by decide +kernel
theorem dDe_octets_40 : decode cDe_octets 40 = .ok (.ldc 79, 2) := by decide +kernel
theorem dDe_octets_42 : decode cDe_octets 42 = .ok (.invokespecial 81, 3) := by decide +kernel
theorem dDe_octets_45 : decode cDe_octets 45 = .ok (.athrow, 1) := by decide +kernel
theorem dDe_octets_46 : decode cDe_octets 46 = .ok (.iconst 0, 1) := by decide +kernel
theorem dDe_octets_47 : decode cDe_octets 47 = .ok (.istore 4, 2) := by decide +kernel
theorem dDe_octets_49 : decode cDe_octets 49 = .ok (.iload 4, 2) := by decide +kernel
theorem dDe_octets_51 : decode cDe_octets 51 = .ok (.iload_n 1, 1) := by decide +kernel
theorem dDe_octets_52 : decode cDe_octets 52 = .ok (.if_icmp .ge 28, 3) := by decide +kernel
theorem dDe_octets_55 : decode cDe_octets 55 = .ok (.aload_n 0, 1) := by decide +kernel
theorem dDe_octets_56 : decode cDe_octets 56 = .ok (.getfield 12, 3) := by decide +kernel
theorem dDe_octets_59 : decode cDe_octets 59 = .ok (.lload_n 2, 1) := by decide +kernel
theorem dDe_octets_60 : decode cDe_octets 60 = .ok (.bipush 8, 2) := by decide +kernel
theorem dDe_octets_62 : decode cDe_octets 62 = .ok (.iload 4, 2) := by decide +kernel
theorem dDe_octets_64 : decode cDe_octets 64 = .ok (.imul, 1) := by decide +kernel
theorem dDe_octets_65 : decode cDe_octets 65 = .ok (.lushr, 1) := by decide +kernel
theorem dDe_octets_66 : decode cDe_octets 66 = .ok (.l2i, 1) := by decide +kernel
theorem dDe_octets_67 : decode cDe_octets 67 = .ok (.sipush 255, 3) := by decide +kernel
theorem dDe_octets_70 : decode cDe_octets 70 = .ok (.iand, 1) := by decide +kernel
theorem dDe_octets_71 : decode cDe_octets 71 = .ok (.invokevirtual 82, 3) := by decide +kernel
theorem dDe_octets_74 : decode cDe_octets 74 = .ok (.iinc 4 1, 3) := by decide +kernel
theorem dDe_octets_77 : decode cDe_octets 77 = .ok (.goto (-28), 3) := by decide +kernel
theorem dDe_octets_80 : decode cDe_octets 80 = .ok (.aload_n 0, 1) := by decide +kernel
theorem dDe_octets_81 : decode cDe_octets 81 = .ok (.getfield 12, 3) := by decide +kernel
theorem dDe_octets_84 : decode cDe_octets 84 = .ok (.getfield 74, 3) := by decide +kernel
theorem dDe_octets_87 : decode cDe_octets 87 = .ok (.ireturn, 1) := by decide +kernel
theorem dDe_read_0 : decode cDe_read 0 = .ok (.aload_n 0, 1) := by decide +kernel
theorem dDe_read_1 : decode cDe_read 1 = .ok (.aload_n 0, 1) := by decide +kernel
theorem dDe_read_2 : decode cDe_read 2 = .ok (.getfield 12, 3) := by decide +kernel
theorem dDe_read_5 : decode cDe_read 5 = .ok (.invokevirtual 86, 3) := by decide +kernel
theorem dDe_read_8 : decode cDe_read 8 = .ok (.putfield 50, 3) := by decide +kernel
theorem dDe_read_11 : decode cDe_read 11 = .ok (.aload_n 0, 1) := by decide +kernel
theorem dDe_read_12 : decode cDe_read 12 = .ok (.getfield 50, 3) := by decide +kernel
theorem dDe_read_15 : decode cDe_read 15 = .ok (.iconst (-1), 1) := by decide +kernel
theorem dDe_read_16 : decode cDe_read 16 = .ok (.if_icmp .eq 20, 3) := by decide +kernel
theorem dDe_read_19 : decode cDe_read 19 = .ok (.aload_n 0, 1) := by decide +kernel
theorem dDe_read_20 : decode cDe_read 20 = .ok (.getfield 12, 3) := by decide +kernel
theorem dDe_read_23 : decode cDe_read 23 = .ok (.invokevirtual 90, 3) := by decide +kernel
theorem dDe_read_26 : decode cDe_read 26 = .ok (.new 67, 3) := by decide +kernel
theorem dDe_read_29 : decode cDe_read 29 = .ok (.dup, 1) := by decide +kernel
theorem dDe_read_30 : decode cDe_read 30 = .ok (.ldc 93, 2) := by decide +kernel
theorem dDe_read_32 : decode cDe_read 32 = .ok (.invokespecial 71, 3) := by decide +kernel
theorem dDe_read_35 : decode cDe_read 35 = .ok (.athrow, 1) := by decide +kernel
theorem dDe_read_36 : decode cDe_read 36 = .ok (.aload_n 0, 1) := by decide +kernel
theorem dDe_read_37 : decode cDe_read 37 = .ok (.getfield 12, 3) := by decide +kernel
theorem dDe_read_40 : decode cDe_read 40 = .ok (.invokevirtual 95, 3) := by decide +kernel
theorem dDe_read_43 : decode cDe_read 43 = .ok (.istore_n 1, 1) := by decide +kernel
theorem dDe_read_44 : decode cDe_read 44 = .ok (.iload_n 1, 1) := by decide +kernel
theorem dDe_read_45 : decode cDe_read 45 = .ok (.sipush 320, 3) := by decide +kernel
theorem dDe_read_48 : decode cDe_read 48 = .ok (.if_icmp .le 20, 3) := by decide +kernel
theorem dDe_read_51 : decode cDe_read 51 = .ok (.aload_n 0, 1) := by decide +kernel
theorem dDe_read_52 : decode cDe_read 52 = .ok (.getfield 12, 3) := by decide +kernel
theorem dDe_read_55 : decode cDe_read 55 = .ok (.invokevirtual 90, 3) := by decide +kernel
theorem dDe_read_58 : decode cDe_read 58 = .ok (.new 77, 3) := by decide +kernel
theorem dDe_read_61 : decode cDe_read 61 = .ok (.dup, 1) := by decide +kernel
theorem dDe_read_62 : decode cDe_read 62 = .ok (.ldc 98, 2) := by decide +kernel
theorem dDe_read_64 : decode cDe_read 64 = .ok (.invokespecial 81, 3) := by decide +kernel
theorem dDe_read_67 : decode cDe_read 67 = .ok (.athrow, 1) := by decide +kernel
theorem dDe_read_68 : decode cDe_read 68 = .ok (.aload_n 0, 1) := by decide +kernel
theorem dDe_read_69 : decode cDe_read 69 = .ok (.getfield 28, 3) := by decide +kernel
theorem dDe_read_72 : decode cDe_read 72 = .ok (.invokevirtual 100, 3) := by decide +kernel
theorem dDe_read_75 : decode cDe_read 75 = .ok (.iconst 0, 1) := by decide +kernel
theorem dDe_read_76 : decode cDe_read 76 = .ok (.istore_n 2, 1) := by decide +kernel
theorem dDe_read_77 : decode cDe_read 77 = .ok (.iload_n 2, 1) := by decide +kernel
theorem dDe_read_78 : decode cDe_read 78 = .ok (.iload_n 1, 1) := by decide +kernel
theorem dDe_read_79 : decode cDe_read 79 = .ok (.if_icmp .ge 24, 3) := by decide +kernel
theorem dDe_read_82 : decode cDe_read 82 = .ok (.aload_n 0, 1) := by decide +kernel
theorem dDe_read_83 : decode cDe_read 83 = .ok (.getfield 28, 3) := by decide +kernel
theorem dDe_read_86 : decode cDe_read 86 = .ok (.aload_n 0, 1) := by decide +kernel
theorem dDe_read_87 : decode cDe_read 87 = .ok (.getfield 12, 3) := by decide +kernel
theorem dDe_read_90 : decode cDe_read 90 = .ok (.iload_n 2, 1) := by decide +kernel
theorem dDe_read_91 : decode cDe_read 91 = .ok (.invokevirtual 101, 3) := by decide +kernel
theorem dDe_read_94 : decode cDe_read 94 = .ok (.invokevirtual 105, 3) := by decide +kernel
theorem dDe_read_97 : decode cDe_read 97 = .ok (.iinc 2 1, 3) := by decide +kernel
theorem dDe_read_100 : decode cDe_read 100 = .ok (.goto (-23), 3) := by decide +kernel
theorem dDe_read_103 : decode cDe_read 103 = .ok (.aload_n 0, 1) := by decide +kernel
theorem dDe_read_104 : decode cDe_read 104 = .ok (.aload_n 0, 1) := by decide +kernel
theorem dDe_read_105 : decode cDe_read 105 = .ok (.getfield 12, 3) := by decide +kernel
theorem dDe_read_108 : decode cDe_read 108 = .ok (.invokevirtual 108, 3) := by decide +kernel
theorem dDe_read_111 : decode cDe_read 111 = .ok (.l2i, 1) := by decide +kernel
theorem dDe_read_112 : decode cDe_read 112 = .ok (.putfield 46, 3) := by decide +kernel
theorem dDe_read_115 : decode cDe_read 115 = .ok (.aload_n 0, 1) := by decide +kernel
theorem dDe_read_116 : decode cDe_read 116 = .ok (.getfield 42, 3) := by decide +kernel
theorem dDe_read_119 : decode cDe_read 119 = .ok (.invokevirtual 112, 3) := by decide +kernel
theorem dDe_read_122 : decode cDe_read 122 = .ok (.aload_n 0, 1) := by decide +kernel
theorem dDe_read_123 : decode cDe_read 123 = .ok (.getfield 12, 3) := by decide +kernel
theorem dDe_read_126 : decode cDe_read 126 = .ok (.invokevirtual 90, 3) := by decide +kernel
theorem dDe_read_129 : decode cDe_read 129 = .ok (.iload_n 1, 1) := by decide +kernel
theorem dDe_read_130 : decode cDe_read 130 = .ok (.ireturn, 1) := by decide +kernel
theorem dDe_place_0 : decode cDe_place 0 = .ok (.aload_n 0, 1) := by decide +kernel
theorem dDe_place_1 : decode cDe_place 1 = .ok (.getfield 50, 3) := by decide +kernel
theorem dDe_place_4 : decode cDe_place 4 = .ok (.ireturn, 1) := by decide +kernel
theorem dDe_clear_0 : decode cDe_clear 0 = .ok (.aload_n 0, 1) := by decide +kernel
theorem dDe_clear_1 : decode cDe_clear 1 = .ok (.getfield 28, 3) := by decide +kernel
theorem dDe_clear_4 : decode cDe_clear 4 = .ok (.getfield 115, 3) := by decide +kernel
theorem dDe_clear_7 : decode cDe_clear 7 = .ok (.istore_n 1, 1) := by decide +kernel
theorem dDe_clear_8 : decode cDe_clear 8 = .ok (.aload_n 0, 1) := by decide +kernel
theorem dDe_clear_9 : decode cDe_clear 9 = .ok (.getfield 28, 3) := by decide +kernel
theorem dDe_clear_12 : decode cDe_clear 12 = .ok (.invokevirtual 100, 3) := by decide +kernel
theorem dDe_clear_15 : decode cDe_clear 15 = .ok (.aload_n 0, 1) := by decide +kernel
theorem dDe_clear_16 : decode cDe_clear 16 = .ok (.getfield 42, 3) := by decide +kernel
theorem dDe_clear_19 : decode cDe_clear 19 = .ok (.invokevirtual 112, 3) := by decide +kernel
theorem dDe_clear_22 : decode cDe_clear 22 = .ok (.iload_n 1, 1) := by decide +kernel
theorem dDe_clear_23 : decode cDe_clear 23 = .ok (.ireturn, 1) := by decide +kernel
theorem dDe_wave_0 : decode cDe_wave 0 = .ok (.iload_n 1, 1) := by decide +kernel
theorem dDe_wave_1 : decode cDe_wave 1 = .ok (.iconst 1, 1) := by decide +kernel
theorem dDe_wave_2 : decode cDe_wave 2 = .ok (.if_icmp .lt 19, 3) := by decide +kernel
theorem dDe_wave_5 : decode cDe_wave 5 = .ok (.iload_n 1, 1) := by decide +kernel
theorem dDe_wave_6 : decode cDe_wave 6 = .ok (.bipush 64, 2) := by decide +kernel
theorem dDe_wave_8 : decode cDe_wave 8 = .ok (.if_icmp .gt 13, 3) := by decide +kernel
theorem dDe_wave_11 : decode cDe_wave 11 = .ok (.iload_n 2, 1) := by decide +kernel
theorem dDe_wave_12 : decode cDe_wave 12 = .ok (.ifCond .lt 9, 3) := by decide +kernel
theorem dDe_wave_15 : decode cDe_wave 15 = .ok (.iload_n 2, 1) := by decide +kernel
theorem dDe_wave_16 : decode cDe_wave 16 = .ok (.bipush 32, 2) := by decide +kernel
theorem dDe_wave_18 : decode cDe_wave 18 = .ok (.if_icmp .lt 13, 3) := by decide +kernel
theorem dDe_wave_21 : decode cDe_wave 21 = .ok (.new 67, 3) := by decide +kernel
theorem dDe_wave_24 : decode cDe_wave 24 = .ok (.dup, 1) := by decide +kernel
theorem dDe_wave_25 : decode cDe_wave 25 = .ok (.ldc 113, 2) := by decide +kernel
theorem dDe_wave_27 : decode cDe_wave 27 = .ok (.invokespecial 71, 3) := by decide +kernel
theorem dDe_wave_30 : decode cDe_wave 30 = .ok (.athrow, 1) := by decide +kernel
theorem dDe_wave_31 : decode cDe_wave 31 = .ok (.aload_n 0, 1) := by decide +kernel
theorem dDe_wave_32 : decode cDe_wave 32 = .ok (.getfield 28, 3) := by decide +kernel
theorem dDe_wave_35 : decode cDe_wave 35 = .ok (.getfield 115, 3) := by decide +kernel
theorem dDe_wave_38 : decode cDe_wave 38 = .ok (.iload_n 1, 1) := by decide +kernel
theorem dDe_wave_39 : decode cDe_wave 39 = .ok (.iadd, 1) := by decide +kernel
theorem dDe_wave_40 : decode cDe_wave 40 = .ok (.sipush 320, 3) := by decide +kernel
theorem dDe_wave_43 : decode cDe_wave 43 = .ok (.if_icmp .le 13, 3) := by decide +kernel
theorem dDe_wave_46 : decode cDe_wave 46 = .ok (.new 77, 3) := by decide +kernel
theorem dDe_wave_49 : decode cDe_wave 49 = .ok (.dup, 1) := by decide +kernel
theorem dDe_wave_50 : decode cDe_wave 50 = .ok (.ldc 98, 2) := by decide +kernel
theorem dDe_wave_52 : decode cDe_wave 52 = .ok (.invokespecial 81, 3) := by decide +kernel
theorem dDe_wave_55 : decode cDe_wave 55 = .ok (.athrow, 1) := by decide +kernel
theorem dDe_wave_56 : decode cDe_wave 56 = .ok (.iconst 0, 1) := by decide +kernel
theorem dDe_wave_57 : decode cDe_wave 57 = .ok (.istore 5, 2) := by decide +kernel
theorem dDe_wave_59 : decode cDe_wave 59 = .ok (.iload 5, 2) := by decide +kernel
theorem dDe_wave_61 : decode cDe_wave 61 = .ok (.iload_n 1, 1) := by decide +kernel
theorem dDe_wave_62 : decode cDe_wave 62 = .ok (.if_icmp .ge 35, 3) := by decide +kernel
theorem dDe_wave_65 : decode cDe_wave 65 = .ok (.aload_n 0, 1) := by decide +kernel
theorem dDe_wave_66 : decode cDe_wave 66 = .ok (.getfield 28, 3) := by decide +kernel
theorem dDe_wave_69 : decode cDe_wave 69 = .ok (.dload_n 3, 1) := by decide +kernel
theorem dDe_wave_70 : decode cDe_wave 70 = .ok (.aload_n 0, 1) := by decide +kernel
theorem dDe_wave_71 : decode cDe_wave 71 = .ok (.getfield 19, 3) := by decide +kernel
theorem dDe_wave_74 : decode cDe_wave 74 = .ok (.getfield 116, 3) := by decide +kernel
theorem dDe_wave_77 : decode cDe_wave 77 = .ok (.iload 5, 2) := by decide +kernel
theorem dDe_wave_79 : decode cDe_wave 79 = .ok (.iload_n 2, 1) := by decide +kernel
theorem dDe_wave_80 : decode cDe_wave 80 = .ok (.imul, 1) := by decide +kernel
theorem dDe_wave_81 : decode cDe_wave 81 = .ok (.bipush 32, 2) := by decide +kernel
theorem dDe_wave_83 : decode cDe_wave 83 = .ok (.irem, 1) := by decide +kernel
theorem dDe_wave_84 : decode cDe_wave 84 = .ok (.daload, 1) := by decide +kernel
theorem dDe_wave_85 : decode cDe_wave 85 = .ok (.invokestatic 120, 3) := by decide +kernel
theorem dDe_wave_88 : decode cDe_wave 88 = .ok (.invokevirtual 105, 3) := by decide +kernel
theorem dDe_wave_91 : decode cDe_wave 91 = .ok (.iinc 5 1, 3) := by decide +kernel
theorem dDe_wave_94 : decode cDe_wave 94 = .ok (.goto (-35), 3) := by decide +kernel
theorem dDe_wave_97 : decode cDe_wave 97 = .ok (.aload_n 0, 1) := by decide +kernel
theorem dDe_wave_98 : decode cDe_wave 98 = .ok (.getfield 28, 3) := by decide +kernel
theorem dDe_wave_101 : decode cDe_wave 101 = .ok (.getfield 115, 3) := by decide +kernel
theorem dDe_wave_104 : decode cDe_wave 104 = .ok (.ireturn, 1) := by decide +kernel
theorem dDe_sample_0 : decode cDe_sample 0 = .ok (.iload_n 1, 1) := by decide +kernel
theorem dDe_sample_1 : decode cDe_sample 1 = .ok (.ifCond .lt 14, 3) := by decide +kernel
theorem dDe_sample_4 : decode cDe_sample 4 = .ok (.iload_n 1, 1) := by decide +kernel
theorem dDe_sample_5 : decode cDe_sample 5 = .ok (.aload_n 0, 1) := by decide +kernel
theorem dDe_sample_6 : decode cDe_sample 6 = .ok (.getfield 28, 3) := by decide +kernel
theorem dDe_sample_9 : decode cDe_sample 9 = .ok (.getfield 115, 3) := by decide +kernel
theorem dDe_sample_12 : decode cDe_sample 12 = .ok (.if_icmp .lt 13, 3) := by decide +kernel
theorem dDe_sample_15 : decode cDe_sample 15 = .ok (.new 77, 3) := by decide +kernel
theorem dDe_sample_18 : decode cDe_sample 18 = .ok (.dup, 1) := by decide +kernel
theorem dDe_sample_19 : decode cDe_sample 19 = .ok (.ldc 126, 2) := by decide +kernel
theorem dDe_sample_21 : decode cDe_sample 21 = .ok (.invokespecial 81, 3) := by decide +kernel
theorem dDe_sample_24 : decode cDe_sample 24 = .ok (.athrow, 1) := by decide +kernel
theorem dDe_sample_25 : decode cDe_sample 25 = .ok (.aload_n 0, 1) := by decide +kernel
theorem dDe_sample_26 : decode cDe_sample 26 = .ok (.getfield 28, 3) := by decide +kernel
theorem dDe_sample_29 : decode cDe_sample 29 = .ok (.getfield 128, 3) := by decide +kernel
theorem dDe_sample_32 : decode cDe_sample 32 = .ok (.iload_n 1, 1) := by decide +kernel
theorem dDe_sample_33 : decode cDe_sample 33 = .ok (.daload, 1) := by decide +kernel
theorem dDe_sample_34 : decode cDe_sample 34 = .ok (.dreturn, 1) := by decide +kernel
theorem dDe_power_0 : decode cDe_power 0 = .ok (.iload_n 1, 1) := by decide +kernel
theorem dDe_power_1 : decode cDe_power 1 = .ok (.ifCond .lt 14, 3) := by decide +kernel
theorem dDe_power_4 : decode cDe_power 4 = .ok (.iload_n 1, 1) := by decide +kernel
theorem dDe_power_5 : decode cDe_power 5 = .ok (.aload_n 0, 1) := by decide +kernel
theorem dDe_power_6 : decode cDe_power 6 = .ok (.getfield 28, 3) := by decide +kernel
theorem dDe_power_9 : decode cDe_power 9 = .ok (.invokevirtual 131, 3) := by decide +kernel
theorem dDe_power_12 : decode cDe_power 12 = .ok (.if_icmp .lt 13, 3) := by decide +kernel
theorem dDe_power_15 : decode cDe_power 15 = .ok (.new 77, 3) := by decide +kernel
theorem dDe_power_18 : decode cDe_power 18 = .ok (.dup, 1) := by decide +kernel
theorem dDe_power_19 : decode cDe_power 19 = .ok (.ldc 134, 2) := by decide +kernel
theorem dDe_power_21 : decode cDe_power 21 = .ok (.invokespecial 81, 3) := by decide +kernel
theorem dDe_power_24 : decode cDe_power 24 = .ok (.athrow, 1) := by decide +kernel
theorem dDe_power_25 : decode cDe_power 25 = .ok (.iload_n 2, 1) := by decide +kernel
theorem dDe_power_26 : decode cDe_power 26 = .ok (.ifCond .lt 9, 3) := by decide +kernel
theorem dDe_power_29 : decode cDe_power 29 = .ok (.iload_n 2, 1) := by decide +kernel
theorem dDe_power_30 : decode cDe_power 30 = .ok (.bipush 16, 2) := by decide +kernel
theorem dDe_power_32 : decode cDe_power 32 = .ok (.if_icmp .le 13, 3) := by decide +kernel
theorem dDe_power_35 : decode cDe_power 35 = .ok (.new 67, 3) := by decide +kernel
theorem dDe_power_38 : decode cDe_power 38 = .ok (.dup, 1) := by decide +kernel
theorem dDe_power_39 : decode cDe_power 39 = .ok (.ldc 136, 2) := by decide +kernel
theorem dDe_power_41 : decode cDe_power 41 = .ok (.invokespecial 71, 3) := by decide +kernel
theorem dDe_power_44 : decode cDe_power 44 = .ok (.athrow, 1) := by decide +kernel
theorem dDe_power_45 : decode cDe_power 45 = .ok (.aload_n 0, 1) := by decide +kernel
theorem dDe_power_46 : decode cDe_power 46 = .ok (.getfield 28, 3) := by decide +kernel
theorem dDe_power_49 : decode cDe_power 49 = .ok (.iload_n 1, 1) := by decide +kernel
theorem dDe_power_50 : decode cDe_power 50 = .ok (.invokevirtual 138, 3) := by decide +kernel
theorem dDe_power_53 : decode cDe_power 53 = .ok (.aload_n 0, 1) := by decide +kernel
theorem dDe_power_54 : decode cDe_power 54 = .ok (.getfield 28, 3) := by decide +kernel
theorem dDe_power_57 : decode cDe_power 57 = .ok (.iload_n 2, 1) := by decide +kernel
theorem dDe_power_58 : decode cDe_power 58 = .ok (.invokevirtual 141, 3) := by decide +kernel
theorem dDe_power_61 : decode cDe_power 61 = .ok (.dreturn, 1) := by decide +kernel
theorem dDe_level_0 : decode cDe_level 0 = .ok (.iload_n 1, 1) := by decide +kernel
theorem dDe_level_1 : decode cDe_level 1 = .ok (.ifCond .lt 14, 3) := by decide +kernel
theorem dDe_level_4 : decode cDe_level 4 = .ok (.iload_n 1, 1) := by decide +kernel
theorem dDe_level_5 : decode cDe_level 5 = .ok (.aload_n 0, 1) := by decide +kernel
theorem dDe_level_6 : decode cDe_level 6 = .ok (.getfield 28, 3) := by decide +kernel
theorem dDe_level_9 : decode cDe_level 9 = .ok (.invokevirtual 131, 3) := by decide +kernel
theorem dDe_level_12 : decode cDe_level 12 = .ok (.if_icmp .lt 13, 3) := by decide +kernel
theorem dDe_level_15 : decode cDe_level 15 = .ok (.new 77, 3) := by decide +kernel
theorem dDe_level_18 : decode cDe_level 18 = .ok (.dup, 1) := by decide +kernel
theorem dDe_level_19 : decode cDe_level 19 = .ok (.ldc 134, 2) := by decide +kernel
theorem dDe_level_21 : decode cDe_level 21 = .ok (.invokespecial 81, 3) := by decide +kernel
theorem dDe_level_24 : decode cDe_level 24 = .ok (.athrow, 1) := by decide +kernel
theorem dDe_level_25 : decode cDe_level 25 = .ok (.iload_n 2, 1) := by decide +kernel
theorem dDe_level_26 : decode cDe_level 26 = .ok (.ifCond .lt 8, 3) := by decide +kernel
theorem dDe_level_29 : decode cDe_level 29 = .ok (.iload_n 2, 1) := by decide +kernel
theorem dDe_level_30 : decode cDe_level 30 = .ok (.iconst 4, 1) := by decide +kernel
theorem dDe_level_31 : decode cDe_level 31 = .ok (.if_icmp .lt 13, 3) := by decide +kernel
theorem dDe_level_34 : decode cDe_level 34 = .ok (.new 67, 3) := by decide +kernel
theorem dDe_level_37 : decode cDe_level 37 = .ok (.dup, 1) := by decide +kernel
theorem dDe_level_38 : decode cDe_level 38 = .ok (.ldc 144, 2) := by decide +kernel
theorem dDe_level_40 : decode cDe_level 40 = .ok (.invokespecial 71, 3) := by decide +kernel
theorem dDe_level_43 : decode cDe_level 43 = .ok (.athrow, 1) := by decide +kernel
theorem dDe_level_44 : decode cDe_level 44 = .ok (.aload_n 0, 1) := by decide +kernel
theorem dDe_level_45 : decode cDe_level 45 = .ok (.getfield 28, 3) := by decide +kernel
theorem dDe_level_48 : decode cDe_level 48 = .ok (.invokevirtual 146, 3) := by decide +kernel
theorem dDe_level_51 : decode cDe_level 51 = .ok (.aload_n 0, 1) := by decide +kernel
theorem dDe_level_52 : decode cDe_level 52 = .ok (.getfield 28, 3) := by decide +kernel
theorem dDe_level_55 : decode cDe_level 55 = .ok (.getfield 149, 3) := by decide +kernel
theorem dDe_level_58 : decode cDe_level 58 = .ok (.iload_n 1, 1) := by decide +kernel
theorem dDe_level_59 : decode cDe_level 59 = .ok (.iconst 4, 1) := by decide +kernel
theorem dDe_level_60 : decode cDe_level 60 = .ok (.imul, 1) := by decide +kernel
theorem dDe_level_61 : decode cDe_level 61 = .ok (.iload_n 2, 1) := by decide +kernel
theorem dDe_level_62 : decode cDe_level 62 = .ok (.iadd, 1) := by decide +kernel
theorem dDe_level_63 : decode cDe_level 63 = .ok (.daload, 1) := by decide +kernel
theorem dDe_level_64 : decode cDe_level 64 = .ok (.dreturn, 1) := by decide +kernel
theorem dDe_ways_0 : decode cDe_ways 0 = .ok (.dload_n 1, 1) := by decide +kernel
theorem dDe_ways_1 : decode cDe_ways 1 = .ok (.dconst 0, 1) := by decide +kernel
theorem dDe_ways_2 : decode cDe_ways 2 = .ok (.dcmp .l, 1) := by decide +kernel
theorem dDe_ways_3 : decode cDe_ways 3 = .ok (.ifCond .le 20, 3) := by decide +kernel
theorem dDe_ways_6 : decode cDe_ways 6 = .ok (.iload_n 3, 1) := by decide +kernel
theorem dDe_ways_7 : decode cDe_ways 7 = .ok (.iconst 1, 1) := by decide +kernel
theorem dDe_ways_8 : decode cDe_ways 8 = .ok (.if_icmp .lt 15, 3) := by decide +kernel
theorem dDe_ways_11 : decode cDe_ways 11 = .ok (.iload_n 3, 1) := by decide +kernel
theorem dDe_ways_12 : decode cDe_ways 12 = .ok (.iconst 4, 1) := by decide +kernel
theorem dDe_ways_13 : decode cDe_ways 13 = .ok (.if_icmp .gt 10, 3) := by decide +kernel
theorem dDe_ways_16 : decode cDe_ways 16 = .ok (.dload 4, 2) := by decide +kernel
theorem dDe_ways_18 : decode cDe_ways 18 = .ok (.dconst 0, 1) := by decide +kernel
theorem dDe_ways_19 : decode cDe_ways 19 = .ok (.dcmp .g, 1) := by decide +kernel
theorem dDe_ways_20 : decode cDe_ways 20 = .ok (.ifCond .ge 13, 3) := by decide +kernel
theorem dDe_ways_23 : decode cDe_ways 23 = .ok (.new 67, 3) := by decide +kernel
theorem dDe_ways_26 : decode cDe_ways 26 = .ok (.dup, 1) := by decide +kernel
theorem dDe_ways_27 : decode cDe_ways 27 = .ok (.ldc 152, 2) := by decide +kernel
theorem dDe_ways_29 : decode cDe_ways 29 = .ok (.invokespecial 71, 3) := by decide +kernel
theorem dDe_ways_32 : decode cDe_ways 32 = .ok (.athrow, 1) := by decide +kernel
theorem dDe_ways_33 : decode cDe_ways 33 = .ok (.aload_n 0, 1) := by decide +kernel
theorem dDe_ways_34 : decode cDe_ways 34 = .ok (.dload_n 1, 1) := by decide +kernel
theorem dDe_ways_35 : decode cDe_ways 35 = .ok (.putfield 55, 3) := by decide +kernel
theorem dDe_ways_38 : decode cDe_ways 38 = .ok (.aload_n 0, 1) := by decide +kernel
theorem dDe_ways_39 : decode cDe_ways 39 = .ok (.iload_n 3, 1) := by decide +kernel
theorem dDe_ways_40 : decode cDe_ways 40 = .ok (.putfield 59, 3) := by decide +kernel
theorem dDe_ways_43 : decode cDe_ways 43 = .ok (.aload_n 0, 1) := by decide +kernel
theorem dDe_ways_44 : decode cDe_ways 44 = .ok (.dload 4, 2) := by decide +kernel
theorem dDe_ways_46 : decode cDe_ways 46 = .ok (.putfield 64, 3) := by decide +kernel
theorem dDe_ways_49 : decode cDe_ways 49 = .ok (.return_, 1) := by decide +kernel
theorem dDe_learn_0 : decode cDe_learn 0 = .ok (.iload_n 1, 1) := by decide +kernel
theorem dDe_learn_1 : decode cDe_learn 1 = .ok (.bipush 97, 2) := by decide +kernel
theorem dDe_learn_3 : decode cDe_learn 3 = .ok (.if_icmp .lt 20, 3) := by decide +kernel
theorem dDe_learn_6 : decode cDe_learn 6 = .ok (.iload_n 1, 1) := by decide +kernel
theorem dDe_learn_7 : decode cDe_learn 7 = .ok (.bipush 122, 2) := by decide +kernel
theorem dDe_learn_9 : decode cDe_learn 9 = .ok (.if_icmp .gt 14, 3) := by decide +kernel
theorem dDe_learn_12 : decode cDe_learn 12 = .ok (.iload_n 3, 1) := by decide +kernel
theorem dDe_learn_13 : decode cDe_learn 13 = .ok (.iconst 1, 1) := by decide +kernel
theorem dDe_learn_14 : decode cDe_learn 14 = .ok (.if_icmp .lt 9, 3) := by decide +kernel
theorem dDe_learn_17 : decode cDe_learn 17 = .ok (.iload_n 3, 1) := by decide +kernel
theorem dDe_learn_18 : decode cDe_learn 18 = .ok (.bipush 8, 2) := by decide +kernel
theorem dDe_learn_20 : decode cDe_learn 20 = .ok (.if_icmp .le 13, 3) := by decide +kernel
theorem dDe_learn_23 : decode cDe_learn 23 = .ok (.new 67, 3) := by decide +kernel
theorem dDe_learn_26 : decode cDe_learn 26 = .ok (.dup, 1) := by decide +kernel
theorem dDe_learn_27 : decode cDe_learn 27 = .ok (.ldc 154, 2) := by decide +kernel
theorem dDe_learn_29 : decode cDe_learn 29 = .ok (.invokespecial 71, 3) := by decide +kernel
theorem dDe_learn_32 : decode cDe_learn 32 = .ok (.athrow, 1) := by decide +kernel
theorem dDe_learn_33 : decode cDe_learn 33 = .ok (.iload_n 2, 1) := by decide +kernel
theorem dDe_learn_34 : decode cDe_learn 34 = .ok (.ifCond .lt 28, 3) := by decide +kernel
theorem dDe_learn_37 : decode cDe_learn 37 = .ok (.iload_n 2, 1) := by decide +kernel
theorem dDe_learn_38 : decode cDe_learn 38 = .ok (.aload_n 0, 1) := by decide +kernel
theorem dDe_learn_39 : decode cDe_learn 39 = .ok (.getfield 28, 3) := by decide +kernel
theorem dDe_learn_42 : decode cDe_learn 42 = .ok (.invokevirtual 131, 3) := by decide +kernel
theorem dDe_learn_45 : decode cDe_learn 45 = .ok (.iload_n 3, 1) := by decide +kernel
theorem dDe_learn_46 : decode cDe_learn 46 = .ok (.isub, 1) := by decide +kernel
theorem dDe_learn_47 : decode cDe_learn 47 = .ok (.if_icmp .gt 15, 3) := by decide +kernel
theorem dDe_learn_50 : decode cDe_learn 50 = .ok (.aload_n 0, 1) := by decide +kernel
theorem dDe_learn_51 : decode cDe_learn 51 = .ok (.getfield 35, 3) := by decide +kernel
theorem dDe_learn_54 : decode cDe_learn 54 = .ok (.getfield 156, 3) := by decide +kernel
theorem dDe_learn_57 : decode cDe_learn 57 = .ok (.bipush 6, 2) := by decide +kernel
theorem dDe_learn_59 : decode cDe_learn 59 = .ok (.if_icmp .ne 13, 3) := by decide +kernel
theorem dDe_learn_62 : decode cDe_learn 62 = .ok (.new 77, 3) := by decide +kernel
theorem dDe_learn_65 : decode cDe_learn 65 = .ok (.dup, 1) := by decide +kernel
theorem dDe_learn_66 : decode cDe_learn 66 = .ok (.ldc 157, 2) := by decide +kernel
theorem dDe_learn_68 : decode cDe_learn 68 = .ok (.invokespecial 81, 3) := by decide +kernel
theorem dDe_learn_71 : decode cDe_learn 71 = .ok (.athrow, 1) := by decide +kernel
theorem dDe_learn_72 : decode cDe_learn 72 = .ok (.aload_n 0, 1) := by decide +kernel
theorem dDe_learn_73 : decode cDe_learn 73 = .ok (.getfield 28, 3) := by decide +kernel
theorem dDe_learn_76 : decode cDe_learn 76 = .ok (.invokevirtual 146, 3) := by decide +kernel
theorem dDe_learn_79 : decode cDe_learn 79 = .ok (.aload_n 0, 1) := by decide +kernel
theorem dDe_learn_80 : decode cDe_learn 80 = .ok (.getfield 35, 3) := by decide +kernel
theorem dDe_learn_83 : decode cDe_learn 83 = .ok (.iload_n 1, 1) := by decide +kernel
theorem dDe_learn_84 : decode cDe_learn 84 = .ok (.aload_n 0, 1) := by decide +kernel
theorem dDe_learn_85 : decode cDe_learn 85 = .ok (.getfield 28, 3) := by decide +kernel
theorem dDe_learn_88 : decode cDe_learn 88 = .ok (.getfield 149, 3) := by decide +kernel
theorem dDe_learn_91 : decode cDe_learn 91 = .ok (.iload_n 2, 1) := by decide +kernel
theorem dDe_learn_92 : decode cDe_learn 92 = .ok (.iload_n 3, 1) := by decide +kernel
theorem dDe_learn_93 : decode cDe_learn 93 = .ok (.invokevirtual 159, 3) := by decide +kernel
theorem dDe_learn_96 : decode cDe_learn 96 = .ok (.aload_n 0, 1) := by decide +kernel
theorem dDe_learn_97 : decode cDe_learn 97 = .ok (.getfield 35, 3) := by decide +kernel
theorem dDe_learn_100 : decode cDe_learn 100 = .ok (.getfield 156, 3) := by decide +kernel
theorem dDe_learn_103 : decode cDe_learn 103 = .ok (.ireturn, 1) := by decide +kernel
theorem dDe_forget_0 : decode cDe_forget 0 = .ok (.iload_n 1, 1) := by decide +kernel
theorem dDe_forget_1 : decode cDe_forget 1 = .ok (.ifCond .lt 14, 3) := by decide +kernel
theorem dDe_forget_4 : decode cDe_forget 4 = .ok (.iload_n 1, 1) := by decide +kernel
theorem dDe_forget_5 : decode cDe_forget 5 = .ok (.aload_n 0, 1) := by decide +kernel
theorem dDe_forget_6 : decode cDe_forget 6 = .ok (.getfield 35, 3) := by decide +kernel
theorem dDe_forget_9 : decode cDe_forget 9 = .ok (.getfield 156, 3) := by decide +kernel
theorem dDe_forget_12 : decode cDe_forget 12 = .ok (.if_icmp .lt 13, 3) := by decide +kernel
theorem dDe_forget_15 : decode cDe_forget 15 = .ok (.new 162, 3) := by decide +kernel
theorem dDe_forget_18 : decode cDe_forget 18 = .ok (.dup, 1) := by decide +kernel
theorem dDe_forget_19 : decode cDe_forget 19 = .ok (.ldc 164, 2) := by decide +kernel
theorem dDe_forget_21 : decode cDe_forget 21 = .ok (.invokespecial 166, 3) := by decide +kernel
theorem dDe_forget_24 : decode cDe_forget 24 = .ok (.athrow, 1) := by decide +kernel
theorem dDe_forget_25 : decode cDe_forget 25 = .ok (.aload_n 0, 1) := by decide +kernel
theorem dDe_forget_26 : decode cDe_forget 26 = .ok (.getfield 35, 3) := by decide +kernel
theorem dDe_forget_29 : decode cDe_forget 29 = .ok (.iload_n 1, 1) := by decide +kernel
theorem dDe_forget_30 : decode cDe_forget 30 = .ok (.invokevirtual 167, 3) := by decide +kernel
theorem dDe_forget_33 : decode cDe_forget 33 = .ok (.ireturn, 1) := by decide +kernel
theorem dDe_warp_0 : decode cDe_warp 0 = .ok (.iload_n 1, 1) := by decide +kernel
theorem dDe_warp_1 : decode cDe_warp 1 = .ok (.ifCond .lt 29, 3) := by decide +kernel
theorem dDe_warp_4 : decode cDe_warp 4 = .ok (.iload_n 1, 1) := by decide +kernel
theorem dDe_warp_5 : decode cDe_warp 5 = .ok (.aload_n 0, 1) := by decide +kernel
theorem dDe_warp_6 : decode cDe_warp 6 = .ok (.getfield 35, 3) := by decide +kernel
theorem dDe_warp_9 : decode cDe_warp 9 = .ok (.getfield 156, 3) := by decide +kernel
theorem dDe_warp_12 : decode cDe_warp 12 = .ok (.if_icmp .ge 18, 3) := by decide +kernel
theorem dDe_warp_15 : decode cDe_warp 15 = .ok (.iload_n 2, 1) := by decide +kernel
theorem dDe_warp_16 : decode cDe_warp 16 = .ok (.ifCond .lt 14, 3) := by decide +kernel
theorem dDe_warp_19 : decode cDe_warp 19 = .ok (.iload_n 2, 1) := by decide +kernel
theorem dDe_warp_20 : decode cDe_warp 20 = .ok (.aload_n 0, 1) := by decide +kernel
theorem dDe_warp_21 : decode cDe_warp 21 = .ok (.getfield 35, 3) := by decide +kernel
theorem dDe_warp_24 : decode cDe_warp 24 = .ok (.getfield 156, 3) := by decide +kernel
theorem dDe_warp_27 : decode cDe_warp 27 = .ok (.if_icmp .lt 13, 3) := by decide +kernel
theorem dDe_warp_30 : decode cDe_warp 30 = .ok (.new 162, 3) := by decide +kernel
theorem dDe_warp_33 : decode cDe_warp 33 = .ok (.dup, 1) := by decide +kernel
theorem dDe_warp_34 : decode cDe_warp 34 = .ok (.ldc 164, 2) := by decide +kernel
theorem dDe_warp_36 : decode cDe_warp 36 = .ok (.invokespecial 166, 3) := by decide +kernel
theorem dDe_warp_39 : decode cDe_warp 39 = .ok (.athrow, 1) := by decide +kernel
theorem dDe_warp_40 : decode cDe_warp 40 = .ok (.aload_n 0, 1) := by decide +kernel
theorem dDe_warp_41 : decode cDe_warp 41 = .ok (.getfield 35, 3) := by decide +kernel
theorem dDe_warp_44 : decode cDe_warp 44 = .ok (.aload_n 0, 1) := by decide +kernel
theorem dDe_warp_45 : decode cDe_warp 45 = .ok (.getfield 35, 3) := by decide +kernel
theorem dDe_warp_48 : decode cDe_warp 48 = .ok (.getfield 171, 3) := by decide +kernel
theorem dDe_warp_51 : decode cDe_warp 51 = .ok (.iload_n 1, 1) := by decide +kernel
theorem dDe_warp_52 : decode cDe_warp 52 = .ok (.aaload, 1) := by decide +kernel
theorem dDe_warp_53 : decode cDe_warp 53 = .ok (.getfield 175, 3) := by decide +kernel
theorem dDe_warp_56 : decode cDe_warp 56 = .ok (.iconst 0, 1) := by decide +kernel
theorem dDe_warp_57 : decode cDe_warp 57 = .ok (.aload_n 0, 1) := by decide +kernel
theorem dDe_warp_58 : decode cDe_warp 58 = .ok (.getfield 35, 3) := by decide +kernel
theorem dDe_warp_61 : decode cDe_warp 61 = .ok (.getfield 171, 3) := by decide +kernel
theorem dDe_warp_64 : decode cDe_warp 64 = .ok (.iload_n 1, 1) := by decide +kernel
theorem dDe_warp_65 : decode cDe_warp 65 = .ok (.aaload, 1) := by decide +kernel
theorem dDe_warp_66 : decode cDe_warp 66 = .ok (.getfield 178, 3) := by decide +kernel
theorem dDe_warp_69 : decode cDe_warp 69 = .ok (.aload_n 0, 1) := by decide +kernel
theorem dDe_warp_70 : decode cDe_warp 70 = .ok (.getfield 35, 3) := by decide +kernel
theorem dDe_warp_73 : decode cDe_warp 73 = .ok (.getfield 171, 3) := by decide +kernel
theorem dDe_warp_76 : decode cDe_warp 76 = .ok (.iload_n 2, 1) := by decide +kernel
theorem dDe_warp_77 : decode cDe_warp 77 = .ok (.aaload, 1) := by decide +kernel
theorem dDe_warp_78 : decode cDe_warp 78 = .ok (.invokevirtual 181, 3) := by decide +kernel
theorem dDe_warp_81 : decode cDe_warp 81 = .ok (.dreturn, 1) := by decide +kernel
theorem dDe_hear_0 : decode cDe_hear 0 = .ok (.aload_n 0, 1) := by decide +kernel
theorem dDe_hear_1 : decode cDe_hear 1 = .ok (.getfield 28, 3) := by decide +kernel
theorem dDe_hear_4 : decode cDe_hear 4 = .ok (.invokevirtual 131, 3) := by decide +kernel
theorem dDe_hear_7 : decode cDe_hear 7 = .ok (.ifCond .ne 13, 3) := by decide +kernel
theorem dDe_hear_10 : decode cDe_hear 10 = .ok (.new 185, 3) := by decide +kernel
theorem dDe_hear_13 : decode cDe_hear 13 = .ok (.dup, 1) := by decide +kernel
theorem dDe_hear_14 : decode cDe_hear 14 = .ok (.ldc 187, 2) := by decide +kernel
theorem dDe_hear_16 : decode cDe_hear 16 = .ok (.invokespecial 189, 3) := by decide +kernel
theorem dDe_hear_19 : decode cDe_hear 19 = .ok (.athrow, 1) := by decide +kernel
theorem dDe_hear_20 : decode cDe_hear 20 = .ok (.aload_n 0, 1) := by decide +kernel
theorem dDe_hear_21 : decode cDe_hear 21 = .ok (.getfield 28, 3) := by decide +kernel
theorem dDe_hear_24 : decode cDe_hear 24 = .ok (.invokevirtual 146, 3) := by decide +kernel
theorem dDe_hear_27 : decode cDe_hear 27 = .ok (.aload_n 0, 1) := by decide +kernel
theorem dDe_hear_28 : decode cDe_hear 28 = .ok (.getfield 42, 3) := by decide +kernel
theorem dDe_hear_31 : decode cDe_hear 31 = .ok (.aload_n 0, 1) := by decide +kernel
theorem dDe_hear_32 : decode cDe_hear 32 = .ok (.getfield 28, 3) := by decide +kernel
theorem dDe_hear_35 : decode cDe_hear 35 = .ok (.aload_n 0, 1) := by decide +kernel
theorem dDe_hear_36 : decode cDe_hear 36 = .ok (.getfield 55, 3) := by decide +kernel
theorem dDe_hear_39 : decode cDe_hear 39 = .ok (.aload_n 0, 1) := by decide +kernel
theorem dDe_hear_40 : decode cDe_hear 40 = .ok (.getfield 59, 3) := by decide +kernel
theorem dDe_hear_43 : decode cDe_hear 43 = .ok (.invokevirtual 190, 3) := by decide +kernel
theorem dDe_hear_46 : decode cDe_hear 46 = .ok (.iconst 0, 1) := by decide +kernel
theorem dDe_hear_47 : decode cDe_hear 47 = .ok (.istore_n 1, 1) := by decide +kernel
theorem dDe_hear_48 : decode cDe_hear 48 = .ok (.iload_n 1, 1) := by decide +kernel
theorem dDe_hear_49 : decode cDe_hear 49 = .ok (.aload_n 0, 1) := by decide +kernel
theorem dDe_hear_50 : decode cDe_hear 50 = .ok (.getfield 42, 3) := by decide +kernel
theorem dDe_hear_53 : decode cDe_hear 53 = .ok (.getfield 194, 3) := by decide +kernel
theorem dDe_hear_56 : decode cDe_hear 56 = .ok (.if_icmp .ge 33, 3) := by decide +kernel
theorem dDe_hear_59 : decode cDe_hear 59 = .ok (.aload_n 0, 1) := by decide +kernel
theorem dDe_hear_60 : decode cDe_hear 60 = .ok (.getfield 42, 3) := by decide +kernel
theorem dDe_hear_63 : decode cDe_hear 63 = .ok (.getfield 195, 3) := by decide +kernel
theorem dDe_hear_66 : decode cDe_hear 66 = .ok (.iload_n 1, 1) := by decide +kernel
theorem dDe_hear_67 : decode cDe_hear 67 = .ok (.aaload, 1) := by decide +kernel
theorem dDe_hear_68 : decode cDe_hear 68 = .ok (.aload_n 0, 1) := by decide +kernel
theorem dDe_hear_69 : decode cDe_hear 69 = .ok (.getfield 28, 3) := by decide +kernel
theorem dDe_hear_72 : decode cDe_hear 72 = .ok (.aload_n 0, 1) := by decide +kernel
theorem dDe_hear_73 : decode cDe_hear 73 = .ok (.getfield 35, 3) := by decide +kernel
theorem dDe_hear_76 : decode cDe_hear 76 = .ok (.aload_n 0, 1) := by decide +kernel
theorem dDe_hear_77 : decode cDe_hear 77 = .ok (.getfield 64, 3) := by decide +kernel
theorem dDe_hear_80 : decode cDe_hear 80 = .ok (.invokevirtual 199, 3) := by decide +kernel
theorem dDe_hear_83 : decode cDe_hear 83 = .ok (.iinc 1 1, 3) := by decide +kernel
theorem dDe_hear_86 : decode cDe_hear 86 = .ok (.goto (-38), 3) := by decide +kernel
theorem dDe_hear_89 : decode cDe_hear 89 = .ok (.aload_n 0, 1) := by decide +kernel
theorem dDe_hear_90 : decode cDe_hear 90 = .ok (.getfield 42, 3) := by decide +kernel
theorem dDe_hear_93 : decode cDe_hear 93 = .ok (.getfield 194, 3) := by decide +kernel
theorem dDe_hear_96 : decode cDe_hear 96 = .ok (.ireturn, 1) := by decide +kernel
theorem dDe_word_0 : decode cDe_word 0 = .ok (.iload_n 1, 1) := by decide +kernel
theorem dDe_word_1 : decode cDe_word 1 = .ok (.ifCond .lt 14, 3) := by decide +kernel
theorem dDe_word_4 : decode cDe_word 4 = .ok (.iload_n 1, 1) := by decide +kernel
theorem dDe_word_5 : decode cDe_word 5 = .ok (.aload_n 0, 1) := by decide +kernel
theorem dDe_word_6 : decode cDe_word 6 = .ok (.getfield 42, 3) := by decide +kernel
theorem dDe_word_9 : decode cDe_word 9 = .ok (.getfield 194, 3) := by decide +kernel
theorem dDe_word_12 : decode cDe_word 12 = .ok (.if_icmp .lt 13, 3) := by decide +kernel
theorem dDe_word_15 : decode cDe_word 15 = .ok (.new 162, 3) := by decide +kernel
theorem dDe_word_18 : decode cDe_word 18 = .ok (.dup, 1) := by decide +kernel
theorem dDe_word_19 : decode cDe_word 19 = .ok (.ldc 205, 2) := by decide +kernel
theorem dDe_word_21 : decode cDe_word 21 = .ok (.invokespecial 166, 3) := by decide +kernel
theorem dDe_word_24 : decode cDe_word 24 = .ok (.athrow, 1) := by decide +kernel
theorem dDe_word_25 : decode cDe_word 25 = .ok (.aload_n 0, 1) := by decide +kernel
theorem dDe_word_26 : decode cDe_word 26 = .ok (.getfield 42, 3) := by decide +kernel
theorem dDe_word_29 : decode cDe_word 29 = .ok (.getfield 195, 3) := by decide +kernel
theorem dDe_word_32 : decode cDe_word 32 = .ok (.iload_n 1, 1) := by decide +kernel
theorem dDe_word_33 : decode cDe_word 33 = .ok (.aaload, 1) := by decide +kernel
theorem dDe_word_34 : decode cDe_word 34 = .ok (.astore_n 3, 1) := by decide +kernel
theorem dDe_word_35 : decode cDe_word 35 = .ok (.iload_n 2, 1) := by decide +kernel
theorem dDe_word_36 : decode cDe_word 36 = .ok (.tableswitch 92 0 5 #[40, 45, 50, 55, 60, 72], 40) := by decide +kernel
theorem dDe_word_76 : decode cDe_word 76 = .ok (.aload_n 3, 1) := by decide +kernel
theorem dDe_word_77 : decode cDe_word 77 = .ok (.getfield 207, 3) := by decide +kernel
theorem dDe_word_80 : decode cDe_word 80 = .ok (.ireturn, 1) := by decide +kernel
theorem dDe_word_81 : decode cDe_word 81 = .ok (.aload_n 3, 1) := by decide +kernel
theorem dDe_word_82 : decode cDe_word 82 = .ok (.getfield 210, 3) := by decide +kernel
theorem dDe_word_85 : decode cDe_word 85 = .ok (.ireturn, 1) := by decide +kernel
theorem dDe_word_86 : decode cDe_word 86 = .ok (.aload_n 3, 1) := by decide +kernel
theorem dDe_word_87 : decode cDe_word 87 = .ok (.getfield 213, 3) := by decide +kernel
theorem dDe_word_90 : decode cDe_word 90 = .ok (.ireturn, 1) := by decide +kernel
theorem dDe_word_91 : decode cDe_word 91 = .ok (.aload_n 3, 1) := by decide +kernel
theorem dDe_word_92 : decode cDe_word 92 = .ok (.getfield 215, 3) := by decide +kernel
theorem dDe_word_95 : decode cDe_word 95 = .ok (.ireturn, 1) := by decide +kernel
theorem dDe_word_96 : decode cDe_word 96 = .ok (.aload_n 0, 1) := by decide +kernel
theorem dDe_word_97 : decode cDe_word 97 = .ok (.bipush 16, 2) := by decide +kernel
theorem dDe_word_99 : decode cDe_word 99 = .ok (.aload_n 3, 1) := by decide +kernel
theorem dDe_word_100 : decode cDe_word 100 = .ok (.getfield 210, 3) := by decide +kernel
theorem dDe_word_103 : decode cDe_word 103 = .ok (.imul, 1) := by decide +kernel
theorem dDe_word_104 : decode cDe_word 104 = .ok (.invokevirtual 218, 3) := by decide +kernel
theorem dDe_word_107 : decode cDe_word 107 = .ok (.ireturn, 1) := by decide +kernel
theorem dDe_word_108 : decode cDe_word 108 = .ok (.aload_n 0, 1) := by decide +kernel
theorem dDe_word_109 : decode cDe_word 109 = .ok (.bipush 16, 2) := by decide +kernel
theorem dDe_word_111 : decode cDe_word 111 = .ok (.aload_n 3, 1) := by decide +kernel
theorem dDe_word_112 : decode cDe_word 112 = .ok (.getfield 210, 3) := by decide +kernel
theorem dDe_word_115 : decode cDe_word 115 = .ok (.aload_n 3, 1) := by decide +kernel
theorem dDe_word_116 : decode cDe_word 116 = .ok (.getfield 213, 3) := by decide +kernel
theorem dDe_word_119 : decode cDe_word 119 = .ok (.iadd, 1) := by decide +kernel
theorem dDe_word_120 : decode cDe_word 120 = .ok (.imul, 1) := by decide +kernel
theorem dDe_word_121 : decode cDe_word 121 = .ok (.bipush 16, 2) := by decide +kernel
theorem dDe_word_123 : decode cDe_word 123 = .ok (.iadd, 1) := by decide +kernel
theorem dDe_word_124 : decode cDe_word 124 = .ok (.invokevirtual 218, 3) := by decide +kernel
theorem dDe_word_127 : decode cDe_word 127 = .ok (.ireturn, 1) := by decide +kernel
theorem dDe_word_128 : decode cDe_word 128 = .ok (.new 67, 3) := by decide +kernel
theorem dDe_word_131 : decode cDe_word 131 = .ok (.dup, 1) := by decide +kernel
theorem dDe_word_132 : decode cDe_word 132 = .ok (.ldc 221, 2) := by decide +kernel
theorem dDe_word_134 : decode cDe_word 134 = .ok (.invokespecial 71, 3) := by decide +kernel
theorem dDe_word_137 : decode cDe_word 137 = .ok (.athrow, 1) := by decide +kernel
theorem dDe_cost_0 : decode cDe_cost 0 = .ok (.iload_n 1, 1) := by decide +kernel
theorem dDe_cost_1 : decode cDe_cost 1 = .ok (.ifCond .lt 14, 3) := by decide +kernel
theorem dDe_cost_4 : decode cDe_cost 4 = .ok (.iload_n 1, 1) := by decide +kernel
theorem dDe_cost_5 : decode cDe_cost 5 = .ok (.aload_n 0, 1) := by decide +kernel
theorem dDe_cost_6 : decode cDe_cost 6 = .ok (.getfield 42, 3) := by decide +kernel
theorem dDe_cost_9 : decode cDe_cost 9 = .ok (.getfield 194, 3) := by decide +kernel
theorem dDe_cost_12 : decode cDe_cost 12 = .ok (.if_icmp .lt 13, 3) := by decide +kernel
theorem dDe_cost_15 : decode cDe_cost 15 = .ok (.new 162, 3) := by decide +kernel
theorem dDe_cost_18 : decode cDe_cost 18 = .ok (.dup, 1) := by decide +kernel
theorem dDe_cost_19 : decode cDe_cost 19 = .ok (.ldc 205, 2) := by decide +kernel
theorem dDe_cost_21 : decode cDe_cost 21 = .ok (.invokespecial 166, 3) := by decide +kernel
theorem dDe_cost_24 : decode cDe_cost 24 = .ok (.athrow, 1) := by decide +kernel
theorem dDe_cost_25 : decode cDe_cost 25 = .ok (.aload_n 0, 1) := by decide +kernel
theorem dDe_cost_26 : decode cDe_cost 26 = .ok (.getfield 42, 3) := by decide +kernel
theorem dDe_cost_29 : decode cDe_cost 29 = .ok (.getfield 195, 3) := by decide +kernel
theorem dDe_cost_32 : decode cDe_cost 32 = .ok (.iload_n 1, 1) := by decide +kernel
theorem dDe_cost_33 : decode cDe_cost 33 = .ok (.aaload, 1) := by decide +kernel
theorem dDe_cost_34 : decode cDe_cost 34 = .ok (.getfield 215, 3) := by decide +kernel
theorem dDe_cost_37 : decode cDe_cost 37 = .ok (.iconst (-1), 1) := by decide +kernel
theorem dDe_cost_38 : decode cDe_cost 38 = .ok (.if_icmp .ne 13, 3) := by decide +kernel
theorem dDe_cost_41 : decode cDe_cost 41 = .ok (.new 185, 3) := by decide +kernel
theorem dDe_cost_44 : decode cDe_cost 44 = .ok (.dup, 1) := by decide +kernel
theorem dDe_cost_45 : decode cDe_cost 45 = .ok (.ldc 223, 2) := by decide +kernel
theorem dDe_cost_47 : decode cDe_cost 47 = .ok (.invokespecial 189, 3) := by decide +kernel
theorem dDe_cost_50 : decode cDe_cost 50 = .ok (.athrow, 1) := by decide +kernel
theorem dDe_cost_51 : decode cDe_cost 51 = .ok (.aload_n 0, 1) := by decide +kernel
theorem dDe_cost_52 : decode cDe_cost 52 = .ok (.getfield 42, 3) := by decide +kernel
theorem dDe_cost_55 : decode cDe_cost 55 = .ok (.getfield 195, 3) := by decide +kernel
theorem dDe_cost_58 : decode cDe_cost 58 = .ok (.iload_n 1, 1) := by decide +kernel
theorem dDe_cost_59 : decode cDe_cost 59 = .ok (.aaload, 1) := by decide +kernel
theorem dDe_cost_60 : decode cDe_cost 60 = .ok (.getfield 225, 3) := by decide +kernel
theorem dDe_cost_63 : decode cDe_cost 63 = .ok (.dreturn, 1) := by decide +kernel
theorem dDe_count_0 : decode cDe_count 0 = .ok (.iload_n 1, 1) := by decide +kernel
theorem dDe_count_1 : decode cDe_count 1 = .ok (.tableswitch 93 0 6 #[43, 51, 59, 67, 72, 80, 88], 43) := by decide +kernel
theorem dDe_count_44 : decode cDe_count 44 = .ok (.aload_n 0, 1) := by decide +kernel
theorem dDe_count_45 : decode cDe_count 45 = .ok (.getfield 12, 3) := by decide +kernel
theorem dDe_count_48 : decode cDe_count 48 = .ok (.getfield 74, 3) := by decide +kernel
theorem dDe_count_51 : decode cDe_count 51 = .ok (.ireturn, 1) := by decide +kernel
theorem dDe_count_52 : decode cDe_count 52 = .ok (.aload_n 0, 1) := by decide +kernel
theorem dDe_count_53 : decode cDe_count 53 = .ok (.getfield 28, 3) := by decide +kernel
theorem dDe_count_56 : decode cDe_count 56 = .ok (.getfield 115, 3) := by decide +kernel
theorem dDe_count_59 : decode cDe_count 59 = .ok (.ireturn, 1) := by decide +kernel
theorem dDe_count_60 : decode cDe_count 60 = .ok (.aload_n 0, 1) := by decide +kernel
theorem dDe_count_61 : decode cDe_count 61 = .ok (.getfield 28, 3) := by decide +kernel
theorem dDe_count_64 : decode cDe_count 64 = .ok (.invokevirtual 131, 3) := by decide +kernel
theorem dDe_count_67 : decode cDe_count 67 = .ok (.ireturn, 1) := by decide +kernel
theorem dDe_count_68 : decode cDe_count 68 = .ok (.aload_n 0, 1) := by decide +kernel
theorem dDe_count_69 : decode cDe_count 69 = .ok (.getfield 46, 3) := by decide +kernel
theorem dDe_count_72 : decode cDe_count 72 = .ok (.ireturn, 1) := by decide +kernel
theorem dDe_count_73 : decode cDe_count 73 = .ok (.aload_n 0, 1) := by decide +kernel
theorem dDe_count_74 : decode cDe_count 74 = .ok (.getfield 35, 3) := by decide +kernel
theorem dDe_count_77 : decode cDe_count 77 = .ok (.getfield 156, 3) := by decide +kernel
theorem dDe_count_80 : decode cDe_count 80 = .ok (.ireturn, 1) := by decide +kernel
theorem dDe_count_81 : decode cDe_count 81 = .ok (.aload_n 0, 1) := by decide +kernel
theorem dDe_count_82 : decode cDe_count 82 = .ok (.getfield 42, 3) := by decide +kernel
theorem dDe_count_85 : decode cDe_count 85 = .ok (.getfield 194, 3) := by decide +kernel
theorem dDe_count_88 : decode cDe_count 88 = .ok (.ireturn, 1) := by decide +kernel
theorem dDe_count_89 : decode cDe_count 89 = .ok (.aload_n 0, 1) := by decide +kernel
theorem dDe_count_90 : decode cDe_count 90 = .ok (.invokevirtual 228, 3) := by decide +kernel
theorem dDe_count_93 : decode cDe_count 93 = .ok (.ireturn, 1) := by decide +kernel
theorem dDe_count_94 : decode cDe_count 94 = .ok (.new 67, 3) := by decide +kernel
theorem dDe_count_97 : decode cDe_count 97 = .ok (.dup, 1) := by decide +kernel
theorem dDe_count_98 : decode cDe_count 98 = .ok (.ldc 231, 2) := by decide +kernel
theorem dDe_count_100 : decode cDe_count 100 = .ok (.invokespecial 71, 3) := by decide +kernel
theorem dDe_count_103 : decode cDe_count 103 = .ok (.athrow, 1) := by decide +kernel
theorem dDe_milliseconds_0 : decode cDe_milliseconds 0 = .ok (.iload_n 1, 1) := by decide +kernel
theorem dDe_milliseconds_1 : decode cDe_milliseconds 1 = .ok (.sipush 1000, 3) := by decide +kernel
theorem dDe_milliseconds_4 : decode cDe_milliseconds 4 = .ok (.imul, 1) := by decide +kernel
theorem dDe_milliseconds_5 : decode cDe_milliseconds 5 = .ok (.aload_n 0, 1) := by decide +kernel
theorem dDe_milliseconds_6 : decode cDe_milliseconds 6 = .ok (.getfield 46, 3) := by decide +kernel
theorem dDe_milliseconds_9 : decode cDe_milliseconds 9 = .ok (.idiv, 1) := by decide +kernel
theorem dDe_milliseconds_10 : decode cDe_milliseconds 10 = .ok (.ireturn, 1) := by decide +kernel
theorem dDe_loudFrames_0 : decode cDe_loudFrames 0 = .ok (.aload_n 0, 1) := by decide +kernel
theorem dDe_loudFrames_1 : decode cDe_loudFrames 1 = .ok (.getfield 28, 3) := by decide +kernel
theorem dDe_loudFrames_4 : decode cDe_loudFrames 4 = .ok (.invokevirtual 146, 3) := by decide +kernel
theorem dDe_loudFrames_7 : decode cDe_loudFrames 7 = .ok (.iconst 0, 1) := by decide +kernel
theorem dDe_loudFrames_8 : decode cDe_loudFrames 8 = .ok (.istore_n 1, 1) := by decide +kernel
theorem dDe_loudFrames_9 : decode cDe_loudFrames 9 = .ok (.iconst 0, 1) := by decide +kernel
theorem dDe_loudFrames_10 : decode cDe_loudFrames 10 = .ok (.istore_n 2, 1) := by decide +kernel
theorem dDe_loudFrames_11 : decode cDe_loudFrames 11 = .ok (.iload_n 2, 1) := by decide +kernel
theorem dDe_loudFrames_12 : decode cDe_loudFrames 12 = .ok (.aload_n 0, 1) := by decide +kernel
theorem dDe_loudFrames_13 : decode cDe_loudFrames 13 = .ok (.getfield 28, 3) := by decide +kernel
theorem dDe_loudFrames_16 : decode cDe_loudFrames 16 = .ok (.invokevirtual 131, 3) := by decide +kernel
theorem dDe_loudFrames_19 : decode cDe_loudFrames 19 = .ok (.if_icmp .ge 28, 3) := by decide +kernel
theorem dDe_loudFrames_22 : decode cDe_loudFrames 22 = .ok (.aload_n 0, 1) := by decide +kernel
theorem dDe_loudFrames_23 : decode cDe_loudFrames 23 = .ok (.getfield 28, 3) := by decide +kernel
theorem dDe_loudFrames_26 : decode cDe_loudFrames 26 = .ok (.iload_n 2, 1) := by decide +kernel
theorem dDe_loudFrames_27 : decode cDe_loudFrames 27 = .ok (.invokevirtual 233, 3) := by decide +kernel
theorem dDe_loudFrames_30 : decode cDe_loudFrames 30 = .ok (.aload_n 0, 1) := by decide +kernel
theorem dDe_loudFrames_31 : decode cDe_loudFrames 31 = .ok (.getfield 55, 3) := by decide +kernel
theorem dDe_loudFrames_34 : decode cDe_loudFrames 34 = .ok (.dcmp .l, 1) := by decide +kernel
theorem dDe_loudFrames_35 : decode cDe_loudFrames 35 = .ok (.ifCond .lt 6, 3) := by decide +kernel
theorem dDe_loudFrames_38 : decode cDe_loudFrames 38 = .ok (.iinc 1 1, 3) := by decide +kernel
theorem dDe_loudFrames_41 : decode cDe_loudFrames 41 = .ok (.iinc 2 1, 3) := by decide +kernel
theorem dDe_loudFrames_44 : decode cDe_loudFrames 44 = .ok (.goto (-33), 3) := by decide +kernel
theorem dDe_loudFrames_47 : decode cDe_loudFrames 47 = .ok (.iload_n 1, 1) := by decide +kernel
theorem dDe_loudFrames_48 : decode cDe_loudFrames 48 = .ok (.ireturn, 1) := by decide +kernel
theorem dFi_append_0 : decode cFi_append 0 = .ok (.aload_n 0, 1) := by decide +kernel
theorem dFi_append_1 : decode cFi_append 1 = .ok (.getfield 15, 3) := by decide +kernel
theorem dFi_append_4 : decode cFi_append 4 = .ok (.sipush 400, 3) := by decide +kernel
theorem dFi_append_7 : decode cFi_append 7 = .ok (.if_icmp .ge 23, 3) := by decide +kernel
theorem dFi_append_10 : decode cFi_append 10 = .ok (.aload_n 0, 1) := by decide +kernel
theorem dFi_append_11 : decode cFi_append 11 = .ok (.getfield 9, 3) := by decide +kernel
theorem dFi_append_14 : decode cFi_append 14 = .ok (.aload_n 0, 1) := by decide +kernel
theorem dFi_append_15 : decode cFi_append 15 = .ok (.getfield 15, 3) := by decide +kernel
theorem dFi_append_18 : decode cFi_append 18 = .ok (.iload_n 1, 1) := by decide +kernel
theorem dFi_append_19 : decode cFi_append 19 = .ok (.iastore, 1) := by decide +kernel
theorem dFi_append_20 : decode cFi_append 20 = .ok (.aload_n 0, 1) := by decide +kernel
theorem dFi_append_21 : decode cFi_append 21 = .ok (.dup, 1) := by decide +kernel
theorem dFi_append_22 : decode cFi_append 22 = .ok (.getfield 15, 3) := by decide +kernel
theorem dFi_append_25 : decode cFi_append 25 = .ok (.iconst 1, 1) := by decide +kernel
theorem dFi_append_26 : decode cFi_append 26 = .ok (.iadd, 1) := by decide +kernel
theorem dFi_append_27 : decode cFi_append 27 = .ok (.putfield 15, 3) := by decide +kernel
theorem dFi_append_30 : decode cFi_append 30 = .ok (.return_, 1) := by decide +kernel
theorem dFi_empty_0 : decode cFi_empty 0 = .ok (.aload_n 0, 1) := by decide +kernel
theorem dFi_empty_1 : decode cFi_empty 1 = .ok (.iconst 0, 1) := by decide +kernel
theorem dFi_empty_2 : decode cFi_empty 2 = .ok (.putfield 15, 3) := by decide +kernel
theorem dFi_empty_5 : decode cFi_empty 5 = .ok (.return_, 1) := by decide +kernel
theorem dFi_firstWrong_0 : decode cFi_firstWrong 0 = .ok (.aload_n 0, 1) := by decide +kernel
theorem dFi_firstWrong_1 : decode cFi_firstWrong 1 = .ok (.getfield 15, 3) := by decide +kernel
theorem dFi_firstWrong_4 : decode cFi_firstWrong 4 = .ok (.bipush 44, 2) := by decide +kernel
theorem dFi_firstWrong_6 : decode cFi_firstWrong 6 = .ok (.if_icmp .ge 8, 3) := by decide +kernel
theorem dFi_firstWrong_9 : decode cFi_firstWrong 9 = .ok (.aload_n 0, 1) := by decide +kernel
theorem dFi_firstWrong_10 : decode cFi_firstWrong 10 = .ok (.getfield 15, 3) := by decide +kernel
theorem dFi_firstWrong_13 : decode cFi_firstWrong 13 = .ok (.ireturn, 1) := by decide +kernel
theorem dFi_firstWrong_14 : decode cFi_firstWrong 14 = .ok (.aload_n 0, 1) := by decide +kernel
theorem dFi_firstWrong_15 : decode cFi_firstWrong 15 = .ok (.invokevirtual 19, 3) := by decide +kernel
theorem dFi_firstWrong_18 : decode cFi_firstWrong 18 = .ok (.istore_n 1, 1) := by decide +kernel
theorem dFi_firstWrong_19 : decode cFi_firstWrong 19 = .ok (.iload_n 1, 1) := by decide +kernel
theorem dFi_firstWrong_20 : decode cFi_firstWrong 20 = .ok (.iconst (-1), 1) := by decide +kernel
theorem dFi_firstWrong_21 : decode cFi_firstWrong 21 = .ok (.if_icmp .eq 7, 3) := by decide +kernel
theorem dFi_firstWrong_24 : decode cFi_firstWrong 24 = .ok (.iload_n 1, 1) := by decide +kernel
theorem dFi_firstWrong_25 : decode cFi_firstWrong 25 = .ok (.goto 7, 3) := by decide +kernel
theorem dFi_firstWrong_28 : decode cFi_firstWrong 28 = .ok (.aload_n 0, 1) := by decide +kernel
theorem dFi_firstWrong_29 : decode cFi_firstWrong 29 = .ok (.invokevirtual 23, 3) := by decide +kernel
theorem dFi_firstWrong_32 : decode cFi_firstWrong 32 = .ok (.ireturn, 1) := by decide +kernel
theorem dSo_empty_0 : decode cSo_empty 0 = .ok (.aload_n 0, 1) := by decide +kernel
theorem dSo_empty_1 : decode cSo_empty 1 = .ok (.iconst 0, 1) := by decide +kernel
theorem dSo_empty_2 : decode cSo_empty 2 = .ok (.putfield 28, 3) := by decide +kernel
theorem dSo_empty_5 : decode cSo_empty 5 = .ok (.aload_n 0, 1) := by decide +kernel
theorem dSo_empty_6 : decode cSo_empty 6 = .ok (.iconst 0, 1) := by decide +kernel
theorem dSo_empty_7 : decode cSo_empty 7 = .ok (.putfield 32, 3) := by decide +kernel
theorem dSo_empty_10 : decode cSo_empty 10 = .ok (.return_, 1) := by decide +kernel
theorem dLi_empty_0 : decode cLi_empty 0 = .ok (.aload_n 0, 1) := by decide +kernel
theorem dLi_empty_1 : decode cLi_empty 1 = .ok (.iconst 0, 1) := by decide +kernel
theorem dLi_empty_2 : decode cLi_empty 2 = .ok (.putfield 18, 3) := by decide +kernel
theorem dLi_empty_5 : decode cLi_empty 5 = .ok (.return_, 1) := by decide +kernel
theorem dSo_append_0 : decode cSo_append 0 = .ok (.aload_n 0, 1) := by decide +kernel
theorem dSo_append_1 : decode cSo_append 1 = .ok (.getfield 28, 3) := by decide +kernel
theorem dSo_append_4 : decode cSo_append 4 = .ok (.sipush 320, 3) := by decide +kernel
theorem dSo_append_7 : decode cSo_append 7 = .ok (.if_icmp .ge 23, 3) := by decide +kernel
theorem dSo_append_10 : decode cSo_append 10 = .ok (.aload_n 0, 1) := by decide +kernel
theorem dSo_append_11 : decode cSo_append 11 = .ok (.getfield 15, 3) := by decide +kernel
theorem dSo_append_14 : decode cSo_append 14 = .ok (.aload_n 0, 1) := by decide +kernel
theorem dSo_append_15 : decode cSo_append 15 = .ok (.getfield 28, 3) := by decide +kernel
theorem dSo_append_18 : decode cSo_append 18 = .ok (.dload_n 1, 1) := by decide +kernel
theorem dSo_append_19 : decode cSo_append 19 = .ok (.dastore, 1) := by decide +kernel
theorem dSo_append_20 : decode cSo_append 20 = .ok (.aload_n 0, 1) := by decide +kernel
theorem dSo_append_21 : decode cSo_append 21 = .ok (.dup, 1) := by decide +kernel
theorem dSo_append_22 : decode cSo_append 22 = .ok (.getfield 28, 3) := by decide +kernel
theorem dSo_append_25 : decode cSo_append 25 = .ok (.iconst 1, 1) := by decide +kernel
theorem dSo_append_26 : decode cSo_append 26 = .ok (.iadd, 1) := by decide +kernel
theorem dSo_append_27 : decode cSo_append 27 = .ok (.putfield 28, 3) := by decide +kernel
theorem dSo_append_30 : decode cSo_append 30 = .ok (.return_, 1) := by decide +kernel
theorem dSo_frames_0 : decode cSo_frames 0 = .ok (.aload_n 0, 1) := by decide +kernel
theorem dSo_frames_1 : decode cSo_frames 1 = .ok (.getfield 28, 3) := by decide +kernel
theorem dSo_frames_4 : decode cSo_frames 4 = .ok (.bipush 32, 2) := by decide +kernel
theorem dSo_frames_6 : decode cSo_frames 6 = .ok (.if_icmp .ge 7, 3) := by decide +kernel
theorem dSo_frames_9 : decode cSo_frames 9 = .ok (.iconst 0, 1) := by decide +kernel
theorem dSo_frames_10 : decode cSo_frames 10 = .ok (.goto 15, 3) := by decide +kernel
theorem dSo_frames_13 : decode cSo_frames 13 = .ok (.aload_n 0, 1) := by decide +kernel
theorem dSo_frames_14 : decode cSo_frames 14 = .ok (.getfield 28, 3) := by decide +kernel
theorem dSo_frames_17 : decode cSo_frames 17 = .ok (.bipush 32, 2) := by decide +kernel
theorem dSo_frames_19 : decode cSo_frames 19 = .ok (.isub, 1) := by decide +kernel
theorem dSo_frames_20 : decode cSo_frames 20 = .ok (.bipush 16, 2) := by decide +kernel
theorem dSo_frames_22 : decode cSo_frames 22 = .ok (.idiv, 1) := by decide +kernel
theorem dSo_frames_23 : decode cSo_frames 23 = .ok (.iconst 1, 1) := by decide +kernel
theorem dSo_frames_24 : decode cSo_frames 24 = .ok (.iadd, 1) := by decide +kernel
theorem dSo_frames_25 : decode cSo_frames 25 = .ok (.ireturn, 1) := by decide +kernel
theorem dSo_judge_0 : decode cSo_judge 0 = .ok (.aload_n 0, 1) := by decide +kernel
theorem dSo_judge_1 : decode cSo_judge 1 = .ok (.invokevirtual 52, 3) := by decide +kernel
theorem dSo_judge_4 : decode cSo_judge 4 = .ok (.istore_n 1, 1) := by decide +kernel
theorem dSo_judge_5 : decode cSo_judge 5 = .ok (.aload_n 0, 1) := by decide +kernel
theorem dSo_judge_6 : decode cSo_judge 6 = .ok (.getfield 32, 3) := by decide +kernel
theorem dSo_judge_9 : decode cSo_judge 9 = .ok (.istore_n 2, 1) := by decide +kernel
theorem dSo_judge_10 : decode cSo_judge 10 = .ok (.iload_n 2, 1) := by decide +kernel
theorem dSo_judge_11 : decode cSo_judge 11 = .ok (.iload_n 1, 1) := by decide +kernel
theorem dSo_judge_12 : decode cSo_judge 12 = .ok (.if_icmp .ge 59, 3) := by decide +kernel
theorem dSo_judge_15 : decode cSo_judge 15 = .ok (.aload_n 0, 1) := by decide +kernel
theorem dSo_judge_16 : decode cSo_judge 16 = .ok (.iload_n 2, 1) := by decide +kernel
theorem dSo_judge_17 : decode cSo_judge 17 = .ok (.invokevirtual 56, 3) := by decide +kernel
theorem dSo_judge_20 : decode cSo_judge 20 = .ok (.aload_n 0, 1) := by decide +kernel
theorem dSo_judge_21 : decode cSo_judge 21 = .ok (.iload_n 2, 1) := by decide +kernel
theorem dSo_judge_22 : decode cSo_judge 22 = .ok (.iconst 4, 1) := by decide +kernel
theorem dSo_judge_23 : decode cSo_judge 23 = .ok (.imul, 1) := by decide +kernel
theorem dSo_judge_24 : decode cSo_judge 24 = .ok (.iconst 1, 1) := by decide +kernel
theorem dSo_judge_25 : decode cSo_judge 25 = .ok (.iconst 2, 1) := by decide +kernel
theorem dSo_judge_26 : decode cSo_judge 26 = .ok (.invokevirtual 60, 3) := by decide +kernel
theorem dSo_judge_29 : decode cSo_judge 29 = .ok (.aload_n 0, 1) := by decide +kernel
theorem dSo_judge_30 : decode cSo_judge 30 = .ok (.iload_n 2, 1) := by decide +kernel
theorem dSo_judge_31 : decode cSo_judge 31 = .ok (.iconst 4, 1) := by decide +kernel
theorem dSo_judge_32 : decode cSo_judge 32 = .ok (.imul, 1) := by decide +kernel
theorem dSo_judge_33 : decode cSo_judge 33 = .ok (.iconst 1, 1) := by decide +kernel
theorem dSo_judge_34 : decode cSo_judge 34 = .ok (.iadd, 1) := by decide +kernel
theorem dSo_judge_35 : decode cSo_judge 35 = .ok (.iconst 3, 1) := by decide +kernel
theorem dSo_judge_36 : decode cSo_judge 36 = .ok (.iconst 4, 1) := by decide +kernel
theorem dSo_judge_37 : decode cSo_judge 37 = .ok (.invokevirtual 60, 3) := by decide +kernel
theorem dSo_judge_40 : decode cSo_judge 40 = .ok (.aload_n 0, 1) := by decide +kernel
theorem dSo_judge_41 : decode cSo_judge 41 = .ok (.iload_n 2, 1) := by decide +kernel
theorem dSo_judge_42 : decode cSo_judge 42 = .ok (.iconst 4, 1) := by decide +kernel
theorem dSo_judge_43 : decode cSo_judge 43 = .ok (.imul, 1) := by decide +kernel
theorem dSo_judge_44 : decode cSo_judge 44 = .ok (.iconst 2, 1) := by decide +kernel
theorem dSo_judge_45 : decode cSo_judge 45 = .ok (.iadd, 1) := by decide +kernel
theorem dSo_judge_46 : decode cSo_judge 46 = .ok (.iconst 5, 1) := by decide +kernel
theorem dSo_judge_47 : decode cSo_judge 47 = .ok (.bipush 8, 2) := by decide +kernel
theorem dSo_judge_49 : decode cSo_judge 49 = .ok (.invokevirtual 60, 3) := by decide +kernel
theorem dSo_judge_52 : decode cSo_judge 52 = .ok (.aload_n 0, 1) := by decide +kernel
theorem dSo_judge_53 : decode cSo_judge 53 = .ok (.iload_n 2, 1) := by decide +kernel
theorem dSo_judge_54 : decode cSo_judge 54 = .ok (.iconst 4, 1) := by decide +kernel
theorem dSo_judge_55 : decode cSo_judge 55 = .ok (.imul, 1) := by decide +kernel
theorem dSo_judge_56 : decode cSo_judge 56 = .ok (.iconst 3, 1) := by decide +kernel
theorem dSo_judge_57 : decode cSo_judge 57 = .ok (.iadd, 1) := by decide +kernel
theorem dSo_judge_58 : decode cSo_judge 58 = .ok (.bipush 9, 2) := by decide +kernel
theorem dSo_judge_60 : decode cSo_judge 60 = .ok (.bipush 16, 2) := by decide +kernel
theorem dSo_judge_62 : decode cSo_judge 62 = .ok (.invokevirtual 60, 3) := by decide +kernel
theorem dSo_judge_65 : decode cSo_judge 65 = .ok (.iinc 2 1, 3) := by decide +kernel
theorem dSo_judge_68 : decode cSo_judge 68 = .ok (.goto (-58), 3) := by decide +kernel
theorem dSo_judge_71 : decode cSo_judge 71 = .ok (.aload_n 0, 1) := by decide +kernel
theorem dSo_judge_72 : decode cSo_judge 72 = .ok (.iload_n 1, 1) := by decide +kernel
theorem dSo_judge_73 : decode cSo_judge 73 = .ok (.putfield 32, 3) := by decide +kernel
theorem dSo_judge_76 : decode cSo_judge 76 = .ok (.return_, 1) := by decide +kernel
theorem dNu_swing_0 : decode cNu_swing 0 = .ok (.dload_n 0, 1) := by decide +kernel
theorem dNu_swing_1 : decode cNu_swing 1 = .ok (.dload_n 0, 1) := by decide +kernel
theorem dNu_swing_2 : decode cNu_swing 2 = .ok (.dcmp .l, 1) := by decide +kernel
theorem dNu_swing_3 : decode cNu_swing 3 = .ok (.ifCond .eq 5, 3) := by decide +kernel
theorem dNu_swing_6 : decode cNu_swing 6 = .ok (.dload_n 0, 1) := by decide +kernel
theorem dNu_swing_7 : decode cNu_swing 7 = .ok (.dreturn, 1) := by decide +kernel
theorem dNu_swing_8 : decode cNu_swing 8 = .ok (.dload_n 2, 1) := by decide +kernel
theorem dNu_swing_9 : decode cNu_swing 9 = .ok (.dconst 0, 1) := by decide +kernel
theorem dNu_swing_10 : decode cNu_swing 10 = .ok (.dcmp .l, 1) := by decide +kernel
theorem dNu_swing_11 : decode cNu_swing 11 = .ok (.ifCond .ne 12, 3) := by decide +kernel
theorem dNu_swing_14 : decode cNu_swing 14 = .ok (.dload_n 0, 1) := by decide +kernel
theorem dNu_swing_15 : decode cNu_swing 15 = .ok (.invokestatic 11, 3) := by decide +kernel
theorem dNu_swing_18 : decode cNu_swing 18 = .ok (.dload_n 2, 1) := by decide +kernel
theorem dNu_swing_19 : decode cNu_swing 19 = .ok (.dmul, 1) := by decide +kernel
theorem dNu_swing_20 : decode cNu_swing 20 = .ok (.goto 6, 3) := by decide +kernel
theorem dNu_swing_23 : decode cNu_swing 23 = .ok (.dload_n 0, 1) := by decide +kernel
theorem dNu_swing_24 : decode cNu_swing 24 = .ok (.dload_n 2, 1) := by decide +kernel
theorem dNu_swing_25 : decode cNu_swing 25 = .ok (.dmul, 1) := by decide +kernel
theorem dNu_swing_26 : decode cNu_swing 26 = .ok (.dreturn, 1) := by decide +kernel
theorem dNu_finite_0 : decode cNu_finite 0 = .ok (.dload_n 0, 1) := by decide +kernel
theorem dNu_finite_1 : decode cNu_finite 1 = .ok (.dload_n 0, 1) := by decide +kernel
theorem dNu_finite_2 : decode cNu_finite 2 = .ok (.dcmp .l, 1) := by decide +kernel
theorem dNu_finite_3 : decode cNu_finite 3 = .ok (.ifCond .eq 5, 3) := by decide +kernel
theorem dNu_finite_6 : decode cNu_finite 6 = .ok (.dconst 0, 1) := by decide +kernel
theorem dNu_finite_7 : decode cNu_finite 7 = .ok (.dreturn, 1) := by decide +kernel
theorem dNu_finite_8 : decode cNu_finite 8 = .ok (.dload_n 0, 1) := by decide +kernel
theorem dNu_finite_9 : decode cNu_finite 9 = .ok (.ldc2_w 7, 3) := by decide +kernel
theorem dNu_finite_12 : decode cNu_finite 12 = .ok (.dcmp .l, 1) := by decide +kernel
theorem dNu_finite_13 : decode cNu_finite 13 = .ok (.ifCond .le 7, 3) := by decide +kernel
theorem dNu_finite_16 : decode cNu_finite 16 = .ok (.ldc2_w 7, 3) := by decide +kernel
theorem dNu_finite_19 : decode cNu_finite 19 = .ok (.dreturn, 1) := by decide +kernel
theorem dNu_finite_20 : decode cNu_finite 20 = .ok (.dload_n 0, 1) := by decide +kernel
theorem dNu_finite_21 : decode cNu_finite 21 = .ok (.ldc2_w 9, 3) := by decide +kernel
theorem dNu_finite_24 : decode cNu_finite 24 = .ok (.dcmp .g, 1) := by decide +kernel
theorem dNu_finite_25 : decode cNu_finite 25 = .ok (.ifCond .ge 9, 3) := by decide +kernel
theorem dNu_finite_28 : decode cNu_finite 28 = .ok (.ldc2_w 9, 3) := by decide +kernel
theorem dNu_finite_31 : decode cNu_finite 31 = .ok (.goto 4, 3) := by decide +kernel
theorem dNu_finite_34 : decode cNu_finite 34 = .ok (.dload_n 0, 1) := by decide +kernel
theorem dNu_finite_35 : decode cNu_finite 35 = .ok (.dreturn, 1) := by decide +kernel
theorem dNu_logarithm_0 : decode cNu_logarithm 0 = .ok (.dload_n 0, 1) := by decide +kernel
theorem dNu_logarithm_1 : decode cNu_logarithm 1 = .ok (.invokestatic 11, 3) := by decide +kernel
theorem dNu_logarithm_4 : decode cNu_logarithm 4 = .ok (.dstore_n 2, 1) := by decide +kernel
theorem dNu_logarithm_5 : decode cNu_logarithm 5 = .ok (.iconst 0, 1) := by decide +kernel
theorem dNu_logarithm_6 : decode cNu_logarithm 6 = .ok (.istore 4, 2) := by decide +kernel
theorem dNu_logarithm_8 : decode cNu_logarithm 8 = .ok (.iconst 0, 1) := by decide +kernel
theorem dNu_logarithm_9 : decode cNu_logarithm 9 = .ok (.istore 5, 2) := by decide +kernel
theorem dNu_logarithm_11 : decode cNu_logarithm 11 = .ok (.iload 5, 2) := by decide +kernel
theorem dNu_logarithm_13 : decode cNu_logarithm 13 = .ok (.sipush 2000, 3) := by decide +kernel
theorem dNu_logarithm_16 : decode cNu_logarithm 16 = .ok (.if_icmp .ge 26, 3) := by decide +kernel
theorem dNu_logarithm_19 : decode cNu_logarithm 19 = .ok (.dload_n 2, 1) := by decide +kernel
theorem dNu_logarithm_20 : decode cNu_logarithm 20 = .ok (.ldc2_w 17, 3) := by decide +kernel
theorem dNu_logarithm_23 : decode cNu_logarithm 23 = .ok (.dcmp .l, 1) := by decide +kernel
theorem dNu_logarithm_24 : decode cNu_logarithm 24 = .ok (.ifCond .lt 18, 3) := by decide +kernel
theorem dNu_logarithm_27 : decode cNu_logarithm 27 = .ok (.dload_n 2, 1) := by decide +kernel
theorem dNu_logarithm_28 : decode cNu_logarithm 28 = .ok (.ldc2_w 19, 3) := by decide +kernel
theorem dNu_logarithm_31 : decode cNu_logarithm 31 = .ok (.ddiv, 1) := by decide +kernel
theorem dNu_logarithm_32 : decode cNu_logarithm 32 = .ok (.dstore_n 2, 1) := by decide +kernel
theorem dNu_logarithm_33 : decode cNu_logarithm 33 = .ok (.iinc 4 1, 3) := by decide +kernel
theorem dNu_logarithm_36 : decode cNu_logarithm 36 = .ok (.iinc 5 1, 3) := by decide +kernel
theorem dNu_logarithm_39 : decode cNu_logarithm 39 = .ok (.goto (-28), 3) := by decide +kernel
theorem dNu_logarithm_42 : decode cNu_logarithm 42 = .ok (.iconst 0, 1) := by decide +kernel
theorem dNu_logarithm_43 : decode cNu_logarithm 43 = .ok (.istore 5, 2) := by decide +kernel
theorem dNu_logarithm_45 : decode cNu_logarithm 45 = .ok (.iload 5, 2) := by decide +kernel
theorem dNu_logarithm_47 : decode cNu_logarithm 47 = .ok (.sipush 2000, 3) := by decide +kernel
theorem dNu_logarithm_50 : decode cNu_logarithm 50 = .ok (.if_icmp .ge 26, 3) := by decide +kernel
theorem dNu_logarithm_53 : decode cNu_logarithm 53 = .ok (.dload_n 2, 1) := by decide +kernel
theorem dNu_logarithm_54 : decode cNu_logarithm 54 = .ok (.ldc2_w 21, 3) := by decide +kernel
theorem dNu_logarithm_57 : decode cNu_logarithm 57 = .ok (.dcmp .g, 1) := by decide +kernel
theorem dNu_logarithm_58 : decode cNu_logarithm 58 = .ok (.ifCond .ge 18, 3) := by decide +kernel
theorem dNu_logarithm_61 : decode cNu_logarithm 61 = .ok (.dload_n 2, 1) := by decide +kernel
theorem dNu_logarithm_62 : decode cNu_logarithm 62 = .ok (.ldc2_w 19, 3) := by decide +kernel
theorem dNu_logarithm_65 : decode cNu_logarithm 65 = .ok (.dmul, 1) := by decide +kernel
theorem dNu_logarithm_66 : decode cNu_logarithm 66 = .ok (.dstore_n 2, 1) := by decide +kernel
theorem dNu_logarithm_67 : decode cNu_logarithm 67 = .ok (.iinc 4 (-1), 3) := by decide +kernel
theorem dNu_logarithm_70 : decode cNu_logarithm 70 = .ok (.iinc 5 1, 3) := by decide +kernel
theorem dNu_logarithm_73 : decode cNu_logarithm 73 = .ok (.goto (-28), 3) := by decide +kernel
theorem dNu_logarithm_76 : decode cNu_logarithm 76 = .ok (.dload_n 2, 1) := by decide +kernel
theorem dNu_logarithm_77 : decode cNu_logarithm 77 = .ok (.dconst 1, 1) := by decide +kernel
theorem dNu_logarithm_78 : decode cNu_logarithm 78 = .ok (.dsub, 1) := by decide +kernel
theorem dNu_logarithm_79 : decode cNu_logarithm 79 = .ok (.dload_n 2, 1) := by decide +kernel
theorem dNu_logarithm_80 : decode cNu_logarithm 80 = .ok (.dconst 1, 1) := by decide +kernel
theorem dNu_logarithm_81 : decode cNu_logarithm 81 = .ok (.dadd, 1) := by decide +kernel
theorem dNu_logarithm_82 : decode cNu_logarithm 82 = .ok (.ddiv, 1) := by decide +kernel
theorem dNu_logarithm_83 : decode cNu_logarithm 83 = .ok (.dstore 5, 2) := by decide +kernel
theorem dNu_logarithm_85 : decode cNu_logarithm 85 = .ok (.dload 5, 2) := by decide +kernel
theorem dNu_logarithm_87 : decode cNu_logarithm 87 = .ok (.dload 5, 2) := by decide +kernel
theorem dNu_logarithm_89 : decode cNu_logarithm 89 = .ok (.dmul, 1) := by decide +kernel
theorem dNu_logarithm_90 : decode cNu_logarithm 90 = .ok (.dstore 7, 2) := by decide +kernel
theorem dNu_logarithm_92 : decode cNu_logarithm 92 = .ok (.dconst 0, 1) := by decide +kernel
theorem dNu_logarithm_93 : decode cNu_logarithm 93 = .ok (.dstore 9, 2) := by decide +kernel
theorem dNu_logarithm_95 : decode cNu_logarithm 95 = .ok (.bipush 19, 2) := by decide +kernel
theorem dNu_logarithm_97 : decode cNu_logarithm 97 = .ok (.istore 11, 2) := by decide +kernel
theorem dNu_logarithm_99 : decode cNu_logarithm 99 = .ok (.iload 11, 2) := by decide +kernel
theorem dNu_logarithm_101 : decode cNu_logarithm 101 = .ok (.iconst 1, 1) := by decide +kernel
theorem dNu_logarithm_102 : decode cNu_logarithm 102 = .ok (.if_icmp .lt 22, 3) := by decide +kernel
theorem dNu_logarithm_105 : decode cNu_logarithm 105 = .ok (.dload 9, 2) := by decide +kernel
theorem dNu_logarithm_107 : decode cNu_logarithm 107 = .ok (.dload 7, 2) := by decide +kernel
theorem dNu_logarithm_109 : decode cNu_logarithm 109 = .ok (.dmul, 1) := by decide +kernel
theorem dNu_logarithm_110 : decode cNu_logarithm 110 = .ok (.dconst 1, 1) := by decide +kernel
theorem dNu_logarithm_111 : decode cNu_logarithm 111 = .ok (.iload 11, 2) := by decide +kernel
theorem dNu_logarithm_113 : decode cNu_logarithm 113 = .ok (.i2d, 1) := by decide +kernel
theorem dNu_logarithm_114 : decode cNu_logarithm 114 = .ok (.ddiv, 1) := by decide +kernel
theorem dNu_logarithm_115 : decode cNu_logarithm 115 = .ok (.dadd, 1) := by decide +kernel
theorem dNu_logarithm_116 : decode cNu_logarithm 116 = .ok (.dstore 9, 2) := by decide +kernel
theorem dNu_logarithm_118 : decode cNu_logarithm 118 = .ok (.iinc 11 (-2), 3) := by decide +kernel
theorem dNu_logarithm_121 : decode cNu_logarithm 121 = .ok (.goto (-22), 3) := by decide +kernel
theorem dNu_logarithm_124 : decode cNu_logarithm 124 = .ok (.ldc2_w 19, 3) := by decide +kernel
theorem dNu_logarithm_127 : decode cNu_logarithm 127 = .ok (.dload 5, 2) := by decide +kernel
theorem dNu_logarithm_129 : decode cNu_logarithm 129 = .ok (.dmul, 1) := by decide +kernel
theorem dNu_logarithm_130 : decode cNu_logarithm 130 = .ok (.dload 9, 2) := by decide +kernel
theorem dNu_logarithm_132 : decode cNu_logarithm 132 = .ok (.dmul, 1) := by decide +kernel
theorem dNu_logarithm_133 : decode cNu_logarithm 133 = .ok (.iload 4, 2) := by decide +kernel
theorem dNu_logarithm_135 : decode cNu_logarithm 135 = .ok (.i2d, 1) := by decide +kernel
theorem dNu_logarithm_136 : decode cNu_logarithm 136 = .ok (.ldc2_w 23, 3) := by decide +kernel
theorem dNu_logarithm_139 : decode cNu_logarithm 139 = .ok (.dmul, 1) := by decide +kernel
theorem dNu_logarithm_140 : decode cNu_logarithm 140 = .ok (.dadd, 1) := by decide +kernel
theorem dNu_logarithm_141 : decode cNu_logarithm 141 = .ok (.dreturn, 1) := by decide +kernel

theorem dDe_init_0 : decode cDe_init 0 = .ok (.aload_n 0, 1) := by decide +kernel
theorem dDe_init_1 : decode cDe_init 1 = .ok (.invokespecial 3, 3) := by decide +kernel
theorem dDe_init_4 : decode cDe_init 4 = .ok (.aload_n 0, 1) := by decide +kernel
theorem dDe_init_5 : decode cDe_init 5 = .ok (.new 9, 3) := by decide +kernel
theorem dDe_init_8 : decode cDe_init 8 = .ok (.dup, 1) := by decide +kernel
theorem dDe_init_9 : decode cDe_init 9 = .ok (.invokespecial 11, 3) := by decide +kernel
theorem dDe_init_12 : decode cDe_init 12 = .ok (.putfield 12, 3) := by decide +kernel
theorem dDe_init_15 : decode cDe_init 15 = .ok (.aload_n 0, 1) := by decide +kernel
theorem dDe_init_16 : decode cDe_init 16 = .ok (.new 16, 3) := by decide +kernel
theorem dDe_init_19 : decode cDe_init 19 = .ok (.dup, 1) := by decide +kernel
theorem dDe_init_20 : decode cDe_init 20 = .ok (.invokespecial 18, 3) := by decide +kernel
theorem dDe_init_23 : decode cDe_init 23 = .ok (.putfield 19, 3) := by decide +kernel
theorem dDe_init_26 : decode cDe_init 26 = .ok (.aload_n 0, 1) := by decide +kernel
theorem dDe_init_27 : decode cDe_init 27 = .ok (.new 23, 3) := by decide +kernel
theorem dDe_init_30 : decode cDe_init 30 = .ok (.dup, 1) := by decide +kernel
theorem dDe_init_31 : decode cDe_init 31 = .ok (.aload_n 0, 1) := by decide +kernel
theorem dDe_init_32 : decode cDe_init 32 = .ok (.getfield 19, 3) := by decide +kernel
theorem dDe_init_35 : decode cDe_init 35 = .ok (.invokespecial 25, 3) := by decide +kernel
theorem dDe_init_38 : decode cDe_init 38 = .ok (.putfield 28, 3) := by decide +kernel
theorem dDe_init_41 : decode cDe_init 41 = .ok (.aload_n 0, 1) := by decide +kernel
theorem dDe_init_42 : decode cDe_init 42 = .ok (.new 32, 3) := by decide +kernel
theorem dDe_init_45 : decode cDe_init 45 = .ok (.dup, 1) := by decide +kernel
theorem dDe_init_46 : decode cDe_init 46 = .ok (.invokespecial 34, 3) := by decide +kernel
theorem dDe_init_49 : decode cDe_init 49 = .ok (.putfield 35, 3) := by decide +kernel
theorem dDe_init_52 : decode cDe_init 52 = .ok (.aload_n 0, 1) := by decide +kernel
theorem dDe_init_53 : decode cDe_init 53 = .ok (.new 39, 3) := by decide +kernel
theorem dDe_init_56 : decode cDe_init 56 = .ok (.dup, 1) := by decide +kernel
theorem dDe_init_57 : decode cDe_init 57 = .ok (.invokespecial 41, 3) := by decide +kernel
theorem dDe_init_60 : decode cDe_init 60 = .ok (.putfield 42, 3) := by decide +kernel
theorem dDe_init_63 : decode cDe_init 63 = .ok (.aload_n 0, 1) := by decide +kernel
theorem dDe_init_64 : decode cDe_init 64 = .ok (.sipush 8000, 3) := by decide +kernel
theorem dDe_init_67 : decode cDe_init 67 = .ok (.putfield 46, 3) := by decide +kernel
theorem dDe_init_70 : decode cDe_init 70 = .ok (.aload_n 0, 1) := by decide +kernel
theorem dDe_init_71 : decode cDe_init 71 = .ok (.iconst (-1), 1) := by decide +kernel
theorem dDe_init_72 : decode cDe_init 72 = .ok (.putfield 50, 3) := by decide +kernel
theorem dDe_init_75 : decode cDe_init 75 = .ok (.aload_n 0, 1) := by decide +kernel
theorem dDe_init_76 : decode cDe_init 76 = .ok (.ldc2_w 53, 3) := by decide +kernel
theorem dDe_init_79 : decode cDe_init 79 = .ok (.putfield 55, 3) := by decide +kernel
theorem dDe_init_82 : decode cDe_init 82 = .ok (.aload_n 0, 1) := by decide +kernel
theorem dDe_init_83 : decode cDe_init 83 = .ok (.iconst 2, 1) := by decide +kernel
theorem dDe_init_84 : decode cDe_init 84 = .ok (.putfield 59, 3) := by decide +kernel
theorem dDe_init_87 : decode cDe_init 87 = .ok (.aload_n 0, 1) := by decide +kernel
theorem dDe_init_88 : decode cDe_init 88 = .ok (.ldc2_w 62, 3) := by decide +kernel
theorem dDe_init_91 : decode cDe_init 91 = .ok (.putfield 64, 3) := by decide +kernel
theorem dDe_init_94 : decode cDe_init 94 = .ok (.return_, 1) := by decide +kernel
theorem dFi_init_0 : decode cFi_init 0 = .ok (.aload_n 0, 1) := by decide +kernel
theorem dFi_init_1 : decode cFi_init 1 = .ok (.invokespecial 3, 3) := by decide +kernel
theorem dFi_init_4 : decode cFi_init 4 = .ok (.aload_n 0, 1) := by decide +kernel
theorem dFi_init_5 : decode cFi_init 5 = .ok (.sipush 400, 3) := by decide +kernel
theorem dFi_init_8 : decode cFi_init 8 = .ok (.newarray .int, 2) := by decide +kernel
theorem dFi_init_10 : decode cFi_init 10 = .ok (.putfield 9, 3) := by decide +kernel
theorem dFi_init_13 : decode cFi_init 13 = .ok (.aload_n 0, 1) := by decide +kernel
theorem dFi_init_14 : decode cFi_init 14 = .ok (.iconst 0, 1) := by decide +kernel
theorem dFi_init_15 : decode cFi_init 15 = .ok (.putfield 15, 3) := by decide +kernel
theorem dFi_init_18 : decode cFi_init 18 = .ok (.return_, 1) := by decide +kernel
theorem dCi_init_0 : decode cCi_init 0 = .ok (.aload_n 0, 1) := by decide +kernel
theorem dCi_init_1 : decode cCi_init 1 = .ok (.invokespecial 3, 3) := by decide +kernel
theorem dCi_init_4 : decode cCi_init 4 = .ok (.aload_n 0, 1) := by decide +kernel
theorem dCi_init_5 : decode cCi_init 5 = .ok (.bipush 32, 2) := by decide +kernel
theorem dCi_init_7 : decode cCi_init 7 = .ok (.newarray .double, 2) := by decide +kernel
theorem dCi_init_9 : decode cCi_init 9 = .ok (.putfield 9, 3) := by decide +kernel
theorem dCi_init_12 : decode cCi_init 12 = .ok (.aload_n 0, 1) := by decide +kernel
theorem dCi_init_13 : decode cCi_init 13 = .ok (.bipush 32, 2) := by decide +kernel
theorem dCi_init_15 : decode cCi_init 15 = .ok (.newarray .double, 2) := by decide +kernel
theorem dCi_init_17 : decode cCi_init 17 = .ok (.putfield 15, 3) := by decide +kernel
theorem dCi_init_20 : decode cCi_init 20 = .ok (.aload_n 0, 1) := by decide +kernel
theorem dCi_init_21 : decode cCi_init 21 = .ok (.bipush 32, 2) := by decide +kernel
theorem dCi_init_23 : decode cCi_init 23 = .ok (.newarray .double, 2) := by decide +kernel
theorem dCi_init_25 : decode cCi_init 25 = .ok (.putfield 18, 3) := by decide +kernel
theorem dCi_init_28 : decode cCi_init 28 = .ok (.iconst 0, 1) := by decide +kernel
theorem dCi_init_29 : decode cCi_init 29 = .ok (.istore_n 1, 1) := by decide +kernel
theorem dCi_init_30 : decode cCi_init 30 = .ok (.iload_n 1, 1) := by decide +kernel
theorem dCi_init_31 : decode cCi_init 31 = .ok (.bipush 32, 2) := by decide +kernel
theorem dCi_init_33 : decode cCi_init 33 = .ok (.if_icmp .ge 79, 3) := by decide +kernel
theorem dCi_init_36 : decode cCi_init 36 = .ok (.iload_n 1, 1) := by decide +kernel
theorem dCi_init_37 : decode cCi_init 37 = .ok (.bipush 17, 2) := by decide +kernel
theorem dCi_init_39 : decode cCi_init 39 = .ok (.if_icmp .lt 10, 3) := by decide +kernel
theorem dCi_init_42 : decode cCi_init 42 = .ok (.iload_n 1, 1) := by decide +kernel
theorem dCi_init_43 : decode cCi_init 43 = .ok (.bipush 32, 2) := by decide +kernel
theorem dCi_init_45 : decode cCi_init 45 = .ok (.isub, 1) := by decide +kernel
theorem dCi_init_46 : decode cCi_init 46 = .ok (.goto 4, 3) := by decide +kernel
theorem dCi_init_49 : decode cCi_init 49 = .ok (.iload_n 1, 1) := by decide +kernel
theorem dCi_init_50 : decode cCi_init 50 = .ok (.i2d, 1) := by decide +kernel
theorem dCi_init_51 : decode cCi_init 51 = .ok (.ldc2_w 21, 3) := by decide +kernel
theorem dCi_init_54 : decode cCi_init 54 = .ok (.dmul, 1) := by decide +kernel
theorem dCi_init_55 : decode cCi_init 55 = .ok (.dstore_n 2, 1) := by decide +kernel
theorem dCi_init_56 : decode cCi_init 56 = .ok (.aload_n 0, 1) := by decide +kernel
theorem dCi_init_57 : decode cCi_init 57 = .ok (.getfield 9, 3) := by decide +kernel
theorem dCi_init_60 : decode cCi_init 60 = .ok (.iload_n 1, 1) := by decide +kernel
theorem dCi_init_61 : decode cCi_init 61 = .ok (.dload_n 2, 1) := by decide +kernel
theorem dCi_init_62 : decode cCi_init 62 = .ok (.dload_n 2, 1) := by decide +kernel
theorem dCi_init_63 : decode cCi_init 63 = .ok (.dmul, 1) := by decide +kernel
theorem dCi_init_64 : decode cCi_init 64 = .ok (.bipush 24, 2) := by decide +kernel
theorem dCi_init_66 : decode cCi_init 66 = .ok (.invokestatic 23, 3) := by decide +kernel
theorem dCi_init_69 : decode cCi_init 69 = .ok (.dastore, 1) := by decide +kernel
theorem dCi_init_70 : decode cCi_init 70 = .ok (.aload_n 0, 1) := by decide +kernel
theorem dCi_init_71 : decode cCi_init 71 = .ok (.getfield 15, 3) := by decide +kernel
theorem dCi_init_74 : decode cCi_init 74 = .ok (.iload_n 1, 1) := by decide +kernel
theorem dCi_init_75 : decode cCi_init 75 = .ok (.dload_n 2, 1) := by decide +kernel
theorem dCi_init_76 : decode cCi_init 76 = .ok (.dload_n 2, 1) := by decide +kernel
theorem dCi_init_77 : decode cCi_init 77 = .ok (.dload_n 2, 1) := by decide +kernel
theorem dCi_init_78 : decode cCi_init 78 = .ok (.dmul, 1) := by decide +kernel
theorem dCi_init_79 : decode cCi_init 79 = .ok (.bipush 25, 2) := by decide +kernel
theorem dCi_init_81 : decode cCi_init 81 = .ok (.invokestatic 23, 3) := by decide +kernel
theorem dCi_init_84 : decode cCi_init 84 = .ok (.dmul, 1) := by decide +kernel
theorem dCi_init_85 : decode cCi_init 85 = .ok (.dastore, 1) := by decide +kernel
theorem dCi_init_86 : decode cCi_init 86 = .ok (.aload_n 0, 1) := by decide +kernel
theorem dCi_init_87 : decode cCi_init 87 = .ok (.getfield 18, 3) := by decide +kernel
theorem dCi_init_90 : decode cCi_init 90 = .ok (.iload_n 1, 1) := by decide +kernel
theorem dCi_init_91 : decode cCi_init 91 = .ok (.ldc2_w 27, 3) := by decide +kernel
theorem dCi_init_94 : decode cCi_init 94 = .ok (.ldc2_w 27, 3) := by decide +kernel
theorem dCi_init_97 : decode cCi_init 97 = .ok (.aload_n 0, 1) := by decide +kernel
theorem dCi_init_98 : decode cCi_init 98 = .ok (.getfield 9, 3) := by decide +kernel
theorem dCi_init_101 : decode cCi_init 101 = .ok (.iload_n 1, 1) := by decide +kernel
theorem dCi_init_102 : decode cCi_init 102 = .ok (.daload, 1) := by decide +kernel
theorem dCi_init_103 : decode cCi_init 103 = .ok (.dmul, 1) := by decide +kernel
theorem dCi_init_104 : decode cCi_init 104 = .ok (.dsub, 1) := by decide +kernel
theorem dCi_init_105 : decode cCi_init 105 = .ok (.dastore, 1) := by decide +kernel
theorem dCi_init_106 : decode cCi_init 106 = .ok (.iinc 1 1, 3) := by decide +kernel
theorem dCi_init_109 : decode cCi_init 109 = .ok (.goto (-79), 3) := by decide +kernel
theorem dCi_init_112 : decode cCi_init 112 = .ok (.return_, 1) := by decide +kernel
theorem dCi_series_0 : decode cCi_series 0 = .ok (.dconst 1, 1) := by decide +kernel
theorem dCi_series_1 : decode cCi_series 1 = .ok (.dstore_n 3, 1) := by decide +kernel
theorem dCi_series_2 : decode cCi_series 2 = .ok (.iload_n 2, 1) := by decide +kernel
theorem dCi_series_3 : decode cCi_series 3 = .ok (.istore 5, 2) := by decide +kernel
theorem dCi_series_5 : decode cCi_series 5 = .ok (.iload 5, 2) := by decide +kernel
theorem dCi_series_7 : decode cCi_series 7 = .ok (.iconst 2, 1) := by decide +kernel
theorem dCi_series_8 : decode cCi_series 8 = .ok (.if_icmp .lt 24, 3) := by decide +kernel
theorem dCi_series_11 : decode cCi_series 11 = .ok (.dconst 1, 1) := by decide +kernel
theorem dCi_series_12 : decode cCi_series 12 = .ok (.dload_n 0, 1) := by decide +kernel
theorem dCi_series_13 : decode cCi_series 13 = .ok (.dload_n 3, 1) := by decide +kernel
theorem dCi_series_14 : decode cCi_series 14 = .ok (.dmul, 1) := by decide +kernel
theorem dCi_series_15 : decode cCi_series 15 = .ok (.iload 5, 2) := by decide +kernel
theorem dCi_series_17 : decode cCi_series 17 = .ok (.iload 5, 2) := by decide +kernel
theorem dCi_series_19 : decode cCi_series 19 = .ok (.iconst 1, 1) := by decide +kernel
theorem dCi_series_20 : decode cCi_series 20 = .ok (.isub, 1) := by decide +kernel
theorem dCi_series_21 : decode cCi_series 21 = .ok (.imul, 1) := by decide +kernel
theorem dCi_series_22 : decode cCi_series 22 = .ok (.i2d, 1) := by decide +kernel
theorem dCi_series_23 : decode cCi_series 23 = .ok (.ddiv, 1) := by decide +kernel
theorem dCi_series_24 : decode cCi_series 24 = .ok (.dsub, 1) := by decide +kernel
theorem dCi_series_25 : decode cCi_series 25 = .ok (.dstore_n 3, 1) := by decide +kernel
theorem dCi_series_26 : decode cCi_series 26 = .ok (.iinc 5 (-2), 3) := by decide +kernel
theorem dCi_series_29 : decode cCi_series 29 = .ok (.goto (-24), 3) := by decide +kernel
theorem dCi_series_32 : decode cCi_series 32 = .ok (.dload_n 3, 1) := by decide +kernel
theorem dCi_series_33 : decode cCi_series 33 = .ok (.dreturn, 1) := by decide +kernel
theorem dSo_init_0 : decode cSo_init 0 = .ok (.aload_n 0, 1) := by decide +kernel
theorem dSo_init_1 : decode cSo_init 1 = .ok (.invokespecial 3, 3) := by decide +kernel
theorem dSo_init_4 : decode cSo_init 4 = .ok (.aload_n 0, 1) := by decide +kernel
theorem dSo_init_5 : decode cSo_init 5 = .ok (.aload_n 1, 1) := by decide +kernel
theorem dSo_init_6 : decode cSo_init 6 = .ok (.putfield 9, 3) := by decide +kernel
theorem dSo_init_9 : decode cSo_init 9 = .ok (.aload_n 0, 1) := by decide +kernel
theorem dSo_init_10 : decode cSo_init 10 = .ok (.sipush 320, 3) := by decide +kernel
theorem dSo_init_13 : decode cSo_init 13 = .ok (.newarray .double, 2) := by decide +kernel
theorem dSo_init_15 : decode cSo_init 15 = .ok (.putfield 15, 3) := by decide +kernel
theorem dSo_init_18 : decode cSo_init 18 = .ok (.aload_n 0, 1) := by decide +kernel
theorem dSo_init_19 : decode cSo_init 19 = .ok (.bipush 32, 2) := by decide +kernel
theorem dSo_init_21 : decode cSo_init 21 = .ok (.newarray .double, 2) := by decide +kernel
theorem dSo_init_23 : decode cSo_init 23 = .ok (.putfield 19, 3) := by decide +kernel
theorem dSo_init_26 : decode cSo_init 26 = .ok (.aload_n 0, 1) := by decide +kernel
theorem dSo_init_27 : decode cSo_init 27 = .ok (.bipush 76, 2) := by decide +kernel
theorem dSo_init_29 : decode cSo_init 29 = .ok (.newarray .double, 2) := by decide +kernel
theorem dSo_init_31 : decode cSo_init 31 = .ok (.putfield 22, 3) := by decide +kernel
theorem dSo_init_34 : decode cSo_init 34 = .ok (.aload_n 0, 1) := by decide +kernel
theorem dSo_init_35 : decode cSo_init 35 = .ok (.bipush 76, 2) := by decide +kernel
theorem dSo_init_37 : decode cSo_init 37 = .ok (.newarray .double, 2) := by decide +kernel
theorem dSo_init_39 : decode cSo_init 39 = .ok (.putfield 25, 3) := by decide +kernel
theorem dSo_init_42 : decode cSo_init 42 = .ok (.aload_n 0, 1) := by decide +kernel
theorem dSo_init_43 : decode cSo_init 43 = .ok (.iconst 0, 1) := by decide +kernel
theorem dSo_init_44 : decode cSo_init 44 = .ok (.putfield 28, 3) := by decide +kernel
theorem dSo_init_47 : decode cSo_init 47 = .ok (.aload_n 0, 1) := by decide +kernel
theorem dSo_init_48 : decode cSo_init 48 = .ok (.iconst 0, 1) := by decide +kernel
theorem dSo_init_49 : decode cSo_init 49 = .ok (.putfield 32, 3) := by decide +kernel
theorem dSo_init_52 : decode cSo_init 52 = .ok (.return_, 1) := by decide +kernel
theorem dBo_init_0 : decode cBo_init 0 = .ok (.aload_n 0, 1) := by decide +kernel
theorem dBo_init_1 : decode cBo_init 1 = .ok (.invokespecial 3, 3) := by decide +kernel
theorem dBo_init_4 : decode cBo_init 4 = .ok (.aload_n 0, 1) := by decide +kernel
theorem dBo_init_5 : decode cBo_init 5 = .ok (.bipush 6, 2) := by decide +kernel
theorem dBo_init_7 : decode cBo_init 7 = .ok (.anewarray 9, 3) := by decide +kernel
theorem dBo_init_10 : decode cBo_init 10 = .ok (.putfield 11, 3) := by decide +kernel
theorem dBo_init_13 : decode cBo_init 13 = .ok (.iconst 0, 1) := by decide +kernel
theorem dBo_init_14 : decode cBo_init 14 = .ok (.istore_n 1, 1) := by decide +kernel
theorem dBo_init_15 : decode cBo_init 15 = .ok (.iload_n 1, 1) := by decide +kernel
theorem dBo_init_16 : decode cBo_init 16 = .ok (.bipush 6, 2) := by decide +kernel
theorem dBo_init_18 : decode cBo_init 18 = .ok (.if_icmp .ge 22, 3) := by decide +kernel
theorem dBo_init_21 : decode cBo_init 21 = .ok (.aload_n 0, 1) := by decide +kernel
theorem dBo_init_22 : decode cBo_init 22 = .ok (.getfield 11, 3) := by decide +kernel
theorem dBo_init_25 : decode cBo_init 25 = .ok (.iload_n 1, 1) := by decide +kernel
theorem dBo_init_26 : decode cBo_init 26 = .ok (.new 9, 3) := by decide +kernel
theorem dBo_init_29 : decode cBo_init 29 = .ok (.dup, 1) := by decide +kernel
theorem dBo_init_30 : decode cBo_init 30 = .ok (.invokespecial 17, 3) := by decide +kernel
theorem dBo_init_33 : decode cBo_init 33 = .ok (.aastore, 1) := by decide +kernel
theorem dBo_init_34 : decode cBo_init 34 = .ok (.iinc 1 1, 3) := by decide +kernel
theorem dBo_init_37 : decode cBo_init 37 = .ok (.goto (-22), 3) := by decide +kernel
theorem dBo_init_40 : decode cBo_init 40 = .ok (.aload_n 0, 1) := by decide +kernel
theorem dBo_init_41 : decode cBo_init 41 = .ok (.bipush 80, 2) := by decide +kernel
theorem dBo_init_43 : decode cBo_init 43 = .ok (.newarray .double, 2) := by decide +kernel
theorem dBo_init_45 : decode cBo_init 45 = .ok (.putfield 18, 3) := by decide +kernel
theorem dBo_init_48 : decode cBo_init 48 = .ok (.aload_n 0, 1) := by decide +kernel
theorem dBo_init_49 : decode cBo_init 49 = .ok (.iconst 0, 1) := by decide +kernel
theorem dBo_init_50 : decode cBo_init 50 = .ok (.putfield 22, 3) := by decide +kernel
theorem dBo_init_53 : decode cBo_init 53 = .ok (.return_, 1) := by decide +kernel
theorem dPa_init_0 : decode cPa_init 0 = .ok (.aload_n 0, 1) := by decide +kernel
theorem dPa_init_1 : decode cPa_init 1 = .ok (.invokespecial 3, 3) := by decide +kernel
theorem dPa_init_4 : decode cPa_init 4 = .ok (.aload_n 0, 1) := by decide +kernel
theorem dPa_init_5 : decode cPa_init 5 = .ok (.bipush 32, 2) := by decide +kernel
theorem dPa_init_7 : decode cPa_init 7 = .ok (.newarray .double, 2) := by decide +kernel
theorem dPa_init_9 : decode cPa_init 9 = .ok (.putfield 9, 3) := by decide +kernel
theorem dPa_init_12 : decode cPa_init 12 = .ok (.aload_n 0, 1) := by decide +kernel
theorem dPa_init_13 : decode cPa_init 13 = .ok (.bipush 63, 2) := by decide +kernel
theorem dPa_init_15 : decode cPa_init 15 = .ok (.putfield 15, 3) := by decide +kernel
theorem dPa_init_18 : decode cPa_init 18 = .ok (.aload_n 0, 1) := by decide +kernel
theorem dPa_init_19 : decode cPa_init 19 = .ok (.iconst 0, 1) := by decide +kernel
theorem dPa_init_20 : decode cPa_init 20 = .ok (.putfield 19, 3) := by decide +kernel
theorem dPa_init_23 : decode cPa_init 23 = .ok (.return_, 1) := by decide +kernel
theorem dLi_init_0 : decode cLi_init 0 = .ok (.aload_n 0, 1) := by decide +kernel
theorem dLi_init_1 : decode cLi_init 1 = .ok (.invokespecial 3, 3) := by decide +kernel
theorem dLi_init_4 : decode cLi_init 4 = .ok (.aload_n 0, 1) := by decide +kernel
theorem dLi_init_5 : decode cLi_init 5 = .ok (.bipush 19, 2) := by decide +kernel
theorem dLi_init_7 : decode cLi_init 7 = .ok (.anewarray 9, 3) := by decide +kernel
theorem dLi_init_10 : decode cLi_init 10 = .ok (.putfield 11, 3) := by decide +kernel
theorem dLi_init_13 : decode cLi_init 13 = .ok (.iconst 0, 1) := by decide +kernel
theorem dLi_init_14 : decode cLi_init 14 = .ok (.istore_n 1, 1) := by decide +kernel
theorem dLi_init_15 : decode cLi_init 15 = .ok (.iload_n 1, 1) := by decide +kernel
theorem dLi_init_16 : decode cLi_init 16 = .ok (.bipush 19, 2) := by decide +kernel
theorem dLi_init_18 : decode cLi_init 18 = .ok (.if_icmp .ge 22, 3) := by decide +kernel
theorem dLi_init_21 : decode cLi_init 21 = .ok (.aload_n 0, 1) := by decide +kernel
theorem dLi_init_22 : decode cLi_init 22 = .ok (.getfield 11, 3) := by decide +kernel
theorem dLi_init_25 : decode cLi_init 25 = .ok (.iload_n 1, 1) := by decide +kernel
theorem dLi_init_26 : decode cLi_init 26 = .ok (.new 9, 3) := by decide +kernel
theorem dLi_init_29 : decode cLi_init 29 = .ok (.dup, 1) := by decide +kernel
theorem dLi_init_30 : decode cLi_init 30 = .ok (.invokespecial 17, 3) := by decide +kernel
theorem dLi_init_33 : decode cLi_init 33 = .ok (.aastore, 1) := by decide +kernel
theorem dLi_init_34 : decode cLi_init 34 = .ok (.iinc 1 1, 3) := by decide +kernel
theorem dLi_init_37 : decode cLi_init 37 = .ok (.goto (-22), 3) := by decide +kernel
theorem dLi_init_40 : decode cLi_init 40 = .ok (.aload_n 0, 1) := by decide +kernel
theorem dLi_init_41 : decode cLi_init 41 = .ok (.iconst 0, 1) := by decide +kernel
theorem dLi_init_42 : decode cLi_init 42 = .ok (.putfield 18, 3) := by decide +kernel
theorem dLi_init_45 : decode cLi_init 45 = .ok (.return_, 1) := by decide +kernel
theorem dWo_init_0 : decode cWo_init 0 = .ok (.aload_n 0, 1) := by decide +kernel
theorem dWo_init_1 : decode cWo_init 1 = .ok (.invokespecial 3, 3) := by decide +kernel
theorem dWo_init_4 : decode cWo_init 4 = .ok (.aload_n 0, 1) := by decide +kernel
theorem dWo_init_5 : decode cWo_init 5 = .ok (.iconst 0, 1) := by decide +kernel
theorem dWo_init_6 : decode cWo_init 6 = .ok (.invokevirtual 9, 3) := by decide +kernel
theorem dWo_init_9 : decode cWo_init 9 = .ok (.return_, 1) := by decide +kernel
theorem dWo_begin_0 : decode cWo_begin 0 = .ok (.aload_n 0, 1) := by decide +kernel
theorem dWo_begin_1 : decode cWo_begin 1 = .ok (.iload_n 1, 1) := by decide +kernel
theorem dWo_begin_2 : decode cWo_begin 2 = .ok (.putfield 15, 3) := by decide +kernel
theorem dWo_begin_5 : decode cWo_begin 5 = .ok (.aload_n 0, 1) := by decide +kernel
theorem dWo_begin_6 : decode cWo_begin 6 = .ok (.iconst 1, 1) := by decide +kernel
theorem dWo_begin_7 : decode cWo_begin 7 = .ok (.putfield 19, 3) := by decide +kernel
theorem dWo_begin_10 : decode cWo_begin 10 = .ok (.aload_n 0, 1) := by decide +kernel
theorem dWo_begin_11 : decode cWo_begin 11 = .ok (.iconst (-1), 1) := by decide +kernel
theorem dWo_begin_12 : decode cWo_begin 12 = .ok (.putfield 22, 3) := by decide +kernel
theorem dWo_begin_15 : decode cWo_begin 15 = .ok (.aload_n 0, 1) := by decide +kernel
theorem dWo_begin_16 : decode cWo_begin 16 = .ok (.bipush 63, 2) := by decide +kernel
theorem dWo_begin_18 : decode cWo_begin 18 = .ok (.putfield 25, 3) := by decide +kernel
theorem dWo_begin_21 : decode cWo_begin 21 = .ok (.aload_n 0, 1) := by decide +kernel
theorem dWo_begin_22 : decode cWo_begin 22 = .ok (.dconst 0, 1) := by decide +kernel
theorem dWo_begin_23 : decode cWo_begin 23 = .ok (.putfield 28, 3) := by decide +kernel
theorem dWo_begin_26 : decode cWo_begin 26 = .ok (.return_, 1) := by decide +kernel

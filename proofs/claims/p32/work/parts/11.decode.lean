theorem dX0_init_0 : decode cX0_init 0 = .ok (.aload_n 0, 1) := by decide +kernel
theorem dX0_init_1 : decode cX0_init 1 = .ok (.invokespecial 1, 3) := by decide +kernel
theorem dX0_init_4 : decode cX0_init 4 = .ok (.aload_n 0, 1) := by decide +kernel
theorem dX0_init_5 : decode cX0_init 5 = .ok (.iconst 0, 1) := by decide +kernel
theorem dX0_init_6 : decode cX0_init 6 = .ok (.putfield 7, 3) := by decide +kernel
theorem dX0_init_9 : decode cX0_init 9 = .ok (.aload_n 0, 1) := by decide +kernel
theorem dX0_init_10 : decode cX0_init 10 = .ok (.iconst 0, 1) := by decide +kernel
theorem dX0_init_11 : decode cX0_init 11 = .ok (.putfield 13, 3) := by decide +kernel
theorem dX0_init_14 : decode cX0_init 14 = .ok (.aload_n 0, 1) := by decide +kernel
theorem dX0_init_15 : decode cX0_init 15 = .ok (.iconst 0, 1) := by decide +kernel
theorem dX0_init_16 : decode cX0_init 16 = .ok (.putfield 16, 3) := by decide +kernel
theorem dX0_init_19 : decode cX0_init 19 = .ok (.aload_n 0, 1) := by decide +kernel
theorem dX0_init_20 : decode cX0_init 20 = .ok (.iload_n 1, 1) := by decide +kernel
theorem dX0_init_21 : decode cX0_init 21 = .ok (.putfield 20, 3) := by decide +kernel
theorem dX0_init_24 : decode cX0_init 24 = .ok (.aload_n 0, 1) := by decide +kernel
theorem dX0_init_25 : decode cX0_init 25 = .ok (.aload_n 2, 1) := by decide +kernel
theorem dX0_init_26 : decode cX0_init 26 = .ok (.putfield 23, 3) := by decide +kernel
theorem dX0_init_29 : decode cX0_init 29 = .ok (.return_, 1) := by decide +kernel
theorem dX1_init_0 : decode cX1_init 0 = .ok (.aload_n 0, 1) := by decide +kernel
theorem dX1_init_1 : decode cX1_init 1 = .ok (.invokespecial 1, 3) := by decide +kernel
theorem dX1_init_4 : decode cX1_init 4 = .ok (.aload_n 0, 1) := by decide +kernel
theorem dX1_init_5 : decode cX1_init 5 = .ok (.aload_n 1, 1) := by decide +kernel
theorem dX1_init_6 : decode cX1_init 6 = .ok (.putfield 7, 3) := by decide +kernel
theorem dX1_init_9 : decode cX1_init 9 = .ok (.aload_n 0, 1) := by decide +kernel
theorem dX1_init_10 : decode cX1_init 10 = .ok (.iload_n 2, 1) := by decide +kernel
theorem dX1_init_11 : decode cX1_init 11 = .ok (.putfield 13, 3) := by decide +kernel
theorem dX1_init_14 : decode cX1_init 14 = .ok (.return_, 1) := by decide +kernel
theorem dX2_init_0 : decode cX2_init 0 = .ok (.aload_n 0, 1) := by decide +kernel
theorem dX2_init_1 : decode cX2_init 1 = .ok (.invokespecial 3, 3) := by decide +kernel
theorem dX2_init_4 : decode cX2_init 4 = .ok (.aload_n 0, 1) := by decide +kernel
theorem dX2_init_5 : decode cX2_init 5 = .ok (.bipush 30, 2) := by decide +kernel
theorem dX2_init_7 : decode cX2_init 7 = .ok (.newarray .int, 2) := by decide +kernel
theorem dX2_init_9 : decode cX2_init 9 = .ok (.putfield 9, 3) := by decide +kernel
theorem dX2_init_12 : decode cX2_init 12 = .ok (.aload_n 0, 1) := by decide +kernel
theorem dX2_init_13 : decode cX2_init 13 = .ok (.iconst 0, 1) := by decide +kernel
theorem dX2_init_14 : decode cX2_init 14 = .ok (.putfield 15, 3) := by decide +kernel
theorem dX2_init_17 : decode cX2_init 17 = .ok (.aload_n 0, 1) := by decide +kernel
theorem dX2_init_18 : decode cX2_init 18 = .ok (.iconst 0, 1) := by decide +kernel
theorem dX2_init_19 : decode cX2_init 19 = .ok (.putfield 19, 3) := by decide +kernel
theorem dX2_init_22 : decode cX2_init 22 = .ok (.aload_n 0, 1) := by decide +kernel
theorem dX2_init_23 : decode cX2_init 23 = .ok (.iconst 0, 1) := by decide +kernel
theorem dX2_init_24 : decode cX2_init 24 = .ok (.putfield 22, 3) := by decide +kernel
theorem dX2_init_27 : decode cX2_init 27 = .ok (.aload_n 0, 1) := by decide +kernel
theorem dX2_init_28 : decode cX2_init 28 = .ok (.iconst 0, 1) := by decide +kernel
theorem dX2_init_29 : decode cX2_init 29 = .ok (.putfield 25, 3) := by decide +kernel
theorem dX2_init_32 : decode cX2_init 32 = .ok (.aload_n 0, 1) := by decide +kernel
theorem dX2_init_33 : decode cX2_init 33 = .ok (.aload_n 1, 1) := by decide +kernel
theorem dX2_init_34 : decode cX2_init 34 = .ok (.putfield 29, 3) := by decide +kernel
theorem dX2_init_37 : decode cX2_init 37 = .ok (.return_, 1) := by decide +kernel
theorem dX2_findFault_0 : decode cX2_findFault 0 = .ok (.aload_n 0, 1) := by decide +kernel
theorem dX2_findFault_1 : decode cX2_findFault 1 = .ok (.iconst 0, 1) := by decide +kernel
theorem dX2_findFault_2 : decode cX2_findFault 2 = .ok (.putfield 15, 3) := by decide +kernel
theorem dX2_findFault_5 : decode cX2_findFault 5 = .ok (.aload_n 0, 1) := by decide +kernel
theorem dX2_findFault_6 : decode cX2_findFault 6 = .ok (.iconst 0, 1) := by decide +kernel
theorem dX2_findFault_7 : decode cX2_findFault 7 = .ok (.putfield 19, 3) := by decide +kernel
theorem dX2_findFault_10 : decode cX2_findFault 10 = .ok (.aload_n 0, 1) := by decide +kernel
theorem dX2_findFault_11 : decode cX2_findFault 11 = .ok (.iconst 0, 1) := by decide +kernel
theorem dX2_findFault_12 : decode cX2_findFault 12 = .ok (.putfield 22, 3) := by decide +kernel
theorem dX2_findFault_15 : decode cX2_findFault 15 = .ok (.aload_n 0, 1) := by decide +kernel
theorem dX2_findFault_16 : decode cX2_findFault 16 = .ok (.iconst 0, 1) := by decide +kernel
theorem dX2_findFault_17 : decode cX2_findFault 17 = .ok (.putfield 25, 3) := by decide +kernel
theorem dX2_findFault_20 : decode cX2_findFault 20 = .ok (.aload_n 0, 1) := by decide +kernel
theorem dX2_findFault_21 : decode cX2_findFault 21 = .ok (.iconst 0, 1) := by decide +kernel
theorem dX2_findFault_22 : decode cX2_findFault 22 = .ok (.invokevirtual 33, 3) := by decide +kernel
theorem dX2_findFault_25 : decode cX2_findFault 25 = .ok (.aload_n 0, 1) := by decide +kernel
theorem dX2_findFault_26 : decode cX2_findFault 26 = .ok (.getfield 25, 3) := by decide +kernel
theorem dX2_findFault_29 : decode cX2_findFault 29 = .ok (.ifCond .ne 17, 3) := by decide +kernel
theorem dX2_findFault_32 : decode cX2_findFault 32 = .ok (.aload_n 0, 1) := by decide +kernel
theorem dX2_findFault_33 : decode cX2_findFault 33 = .ok (.getfield 22, 3) := by decide +kernel
theorem dX2_findFault_36 : decode cX2_findFault 36 = .ok (.aload_n 0, 1) := by decide +kernel
theorem dX2_findFault_37 : decode cX2_findFault 37 = .ok (.getfield 29, 3) := by decide +kernel
theorem dX2_findFault_40 : decode cX2_findFault 40 = .ok (.getfield 37, 3) := by decide +kernel
theorem dX2_findFault_43 : decode cX2_findFault 43 = .ok (.if_icmp .ge 10, 3) := by decide +kernel
theorem dX2_findFault_46 : decode cX2_findFault 46 = .ok (.aload_n 0, 1) := by decide +kernel
theorem dX2_findFault_47 : decode cX2_findFault 47 = .ok (.getfield 22, 3) := by decide +kernel
theorem dX2_findFault_50 : decode cX2_findFault 50 = .ok (.goto 4, 3) := by decide +kernel
theorem dX2_findFault_53 : decode cX2_findFault 53 = .ok (.iconst (-1), 1) := by decide +kernel
theorem dX2_findFault_54 : decode cX2_findFault 54 = .ok (.ireturn, 1) := by decide +kernel
theorem dX2_makeFormula_0 : decode cX2_makeFormula 0 = .ok (.new 42, 3) := by decide +kernel
theorem dX2_makeFormula_3 : decode cX2_makeFormula 3 = .ok (.dup, 1) := by decide +kernel
theorem dX2_makeFormula_4 : decode cX2_makeFormula 4 = .ok (.aload_n 0, 1) := by decide +kernel
theorem dX2_makeFormula_5 : decode cX2_makeFormula 5 = .ok (.getfield 9, 3) := by decide +kernel
theorem dX2_makeFormula_8 : decode cX2_makeFormula 8 = .ok (.iconst 0, 1) := by decide +kernel
theorem dX2_makeFormula_9 : decode cX2_makeFormula 9 = .ok (.aload_n 0, 1) := by decide +kernel
theorem dX2_makeFormula_10 : decode cX2_makeFormula 10 = .ok (.getfield 15, 3) := by decide +kernel
theorem dX2_makeFormula_13 : decode cX2_makeFormula 13 = .ok (.invokestatic 44, 3) := by decide +kernel
theorem dX2_makeFormula_16 : decode cX2_makeFormula 16 = .ok (.invokestatic 50, 3) := by decide +kernel
theorem dX2_makeFormula_19 : decode cX2_makeFormula 19 = .ok (.aload_n 0, 1) := by decide +kernel
theorem dX2_makeFormula_20 : decode cX2_makeFormula 20 = .ok (.getfield 19, 3) := by decide +kernel
theorem dX2_makeFormula_23 : decode cX2_makeFormula 23 = .ok (.invokespecial 56, 3) := by decide +kernel
theorem dX2_makeFormula_26 : decode cX2_makeFormula 26 = .ok (.areturn, 1) := by decide +kernel
theorem dX2_passFormula_0 : decode cX2_passFormula 0 = .ok (.aload_n 0, 1) := by decide +kernel
theorem dX2_passFormula_1 : decode cX2_passFormula 1 = .ok (.iload_n 1, 1) := by decide +kernel
theorem dX2_passFormula_2 : decode cX2_passFormula 2 = .ok (.invokevirtual 59, 3) := by decide +kernel
theorem dX2_passFormula_5 : decode cX2_passFormula 5 = .ok (.aload_n 0, 1) := by decide +kernel
theorem dX2_passFormula_6 : decode cX2_passFormula 6 = .ok (.getfield 29, 3) := by decide +kernel
theorem dX2_passFormula_9 : decode cX2_passFormula 9 = .ok (.aload_n 0, 1) := by decide +kernel
theorem dX2_passFormula_10 : decode cX2_passFormula 10 = .ok (.getfield 22, 3) := by decide +kernel
theorem dX2_passFormula_13 : decode cX2_passFormula 13 = .ok (.invokevirtual 62, 3) := by decide +kernel
theorem dX2_passFormula_16 : decode cX2_passFormula 16 = .ok (.invokestatic 66, 3) := by decide +kernel
theorem dX2_passFormula_19 : decode cX2_passFormula 19 = .ok (.istore_n 2, 1) := by decide +kernel
theorem dX2_passFormula_20 : decode cX2_passFormula 20 = .ok (.aload_n 0, 1) := by decide +kernel
theorem dX2_passFormula_21 : decode cX2_passFormula 21 = .ok (.getfield 25, 3) := by decide +kernel
theorem dX2_passFormula_24 : decode cX2_passFormula 24 = .ok (.ifCond .ne 8, 3) := by decide +kernel
theorem dX2_passFormula_27 : decode cX2_passFormula 27 = .ok (.iload_n 2, 1) := by decide +kernel
theorem dX2_passFormula_28 : decode cX2_passFormula 28 = .ok (.iconst (-1), 1) := by decide +kernel
theorem dX2_passFormula_29 : decode cX2_passFormula 29 = .ok (.if_icmp .ne 4, 3) := by decide +kernel
theorem dX2_passFormula_32 : decode cX2_passFormula 32 = .ok (.return_, 1) := by decide +kernel
theorem dX2_passFormula_33 : decode cX2_passFormula 33 = .ok (.aload_n 0, 1) := by decide +kernel
theorem dX2_passFormula_34 : decode cX2_passFormula 34 = .ok (.dup, 1) := by decide +kernel
theorem dX2_passFormula_35 : decode cX2_passFormula 35 = .ok (.getfield 22, 3) := by decide +kernel
theorem dX2_passFormula_38 : decode cX2_passFormula 38 = .ok (.iconst 1, 1) := by decide +kernel
theorem dX2_passFormula_39 : decode cX2_passFormula 39 = .ok (.iadd, 1) := by decide +kernel
theorem dX2_passFormula_40 : decode cX2_passFormula 40 = .ok (.putfield 22, 3) := by decide +kernel
theorem dX2_passFormula_43 : decode cX2_passFormula 43 = .ok (.aload_n 0, 1) := by decide +kernel
theorem dX2_passFormula_44 : decode cX2_passFormula 44 = .ok (.iload_n 1, 1) := by decide +kernel
theorem dX2_passFormula_45 : decode cX2_passFormula 45 = .ok (.invokevirtual 59, 3) := by decide +kernel
theorem dX2_passFormula_48 : decode cX2_passFormula 48 = .ok (.aload_n 0, 1) := by decide +kernel
theorem dX2_passFormula_49 : decode cX2_passFormula 49 = .ok (.iload_n 2, 1) := by decide +kernel
theorem dX2_passFormula_50 : decode cX2_passFormula 50 = .ok (.iconst 0, 1) := by decide +kernel
theorem dX2_passFormula_51 : decode cX2_passFormula 51 = .ok (.invokevirtual 70, 3) := by decide +kernel
theorem dX2_passFormula_54 : decode cX2_passFormula 54 = .ok (.return_, 1) := by decide +kernel
theorem dX2_comparisonOf_0 : decode cX2_comparisonOf 0 = .ok (.iload_n 0, 1) := by decide +kernel
theorem dX2_comparisonOf_1 : decode cX2_comparisonOf 1 = .ok (.tableswitch 36 60 62 #[27, 33, 30], 27) := by decide +kernel
theorem dX2_comparisonOf_28 : decode cX2_comparisonOf 28 = .ok (.bipush 8, 2) := by decide +kernel
theorem dX2_comparisonOf_30 : decode cX2_comparisonOf 30 = .ok (.ireturn, 1) := by decide +kernel
theorem dX2_comparisonOf_31 : decode cX2_comparisonOf 31 = .ok (.bipush 9, 2) := by decide +kernel
theorem dX2_comparisonOf_33 : decode cX2_comparisonOf 33 = .ok (.ireturn, 1) := by decide +kernel
theorem dX2_comparisonOf_34 : decode cX2_comparisonOf 34 = .ok (.bipush 10, 2) := by decide +kernel
theorem dX2_comparisonOf_36 : decode cX2_comparisonOf 36 = .ok (.ireturn, 1) := by decide +kernel
theorem dX2_comparisonOf_37 : decode cX2_comparisonOf 37 = .ok (.iconst (-1), 1) := by decide +kernel
theorem dX2_comparisonOf_38 : decode cX2_comparisonOf 38 = .ok (.ireturn, 1) := by decide +kernel
theorem dX2_passSum_0 : decode cX2_passSum 0 = .ok (.aload_n 0, 1) := by decide +kernel
theorem dX2_passSum_1 : decode cX2_passSum 1 = .ok (.iload_n 1, 1) := by decide +kernel
theorem dX2_passSum_2 : decode cX2_passSum 2 = .ok (.invokevirtual 74, 3) := by decide +kernel
theorem dX2_passSum_5 : decode cX2_passSum 5 = .ok (.iconst 0, 1) := by decide +kernel
theorem dX2_passSum_6 : decode cX2_passSum 6 = .ok (.istore_n 2, 1) := by decide +kernel
theorem dX2_passSum_7 : decode cX2_passSum 7 = .ok (.iload_n 2, 1) := by decide +kernel
theorem dX2_passSum_8 : decode cX2_passSum 8 = .ok (.bipush 30, 2) := by decide +kernel
theorem dX2_passSum_10 : decode cX2_passSum 10 = .ok (.if_icmp .ge 73, 3) := by decide +kernel
theorem dX2_passSum_13 : decode cX2_passSum 13 = .ok (.aload_n 0, 1) := by decide +kernel
theorem dX2_passSum_14 : decode cX2_passSum 14 = .ok (.getfield 25, 3) := by decide +kernel
theorem dX2_passSum_17 : decode cX2_passSum 17 = .ok (.ifCond .ne 66, 3) := by decide +kernel
theorem dX2_passSum_20 : decode cX2_passSum 20 = .ok (.aload_n 0, 1) := by decide +kernel
theorem dX2_passSum_21 : decode cX2_passSum 21 = .ok (.getfield 29, 3) := by decide +kernel
theorem dX2_passSum_24 : decode cX2_passSum 24 = .ok (.aload_n 0, 1) := by decide +kernel
theorem dX2_passSum_25 : decode cX2_passSum 25 = .ok (.getfield 22, 3) := by decide +kernel
theorem dX2_passSum_28 : decode cX2_passSum 28 = .ok (.invokevirtual 62, 3) := by decide +kernel
theorem dX2_passSum_31 : decode cX2_passSum 31 = .ok (.istore_n 3, 1) := by decide +kernel
theorem dX2_passSum_32 : decode cX2_passSum 32 = .ok (.iload_n 3, 1) := by decide +kernel
theorem dX2_passSum_33 : decode cX2_passSum 33 = .ok (.bipush 43, 2) := by decide +kernel
theorem dX2_passSum_35 : decode cX2_passSum 35 = .ok (.if_icmp .eq 10, 3) := by decide +kernel
theorem dX2_passSum_38 : decode cX2_passSum 38 = .ok (.iload_n 3, 1) := by decide +kernel
theorem dX2_passSum_39 : decode cX2_passSum 39 = .ok (.bipush 45, 2) := by decide +kernel
theorem dX2_passSum_41 : decode cX2_passSum 41 = .ok (.if_icmp .eq 4, 3) := by decide +kernel
theorem dX2_passSum_44 : decode cX2_passSum 44 = .ok (.return_, 1) := by decide +kernel
theorem dX2_passSum_45 : decode cX2_passSum 45 = .ok (.aload_n 0, 1) := by decide +kernel
theorem dX2_passSum_46 : decode cX2_passSum 46 = .ok (.dup, 1) := by decide +kernel
theorem dX2_passSum_47 : decode cX2_passSum 47 = .ok (.getfield 22, 3) := by decide +kernel
theorem dX2_passSum_50 : decode cX2_passSum 50 = .ok (.iconst 1, 1) := by decide +kernel
theorem dX2_passSum_51 : decode cX2_passSum 51 = .ok (.iadd, 1) := by decide +kernel
theorem dX2_passSum_52 : decode cX2_passSum 52 = .ok (.putfield 22, 3) := by decide +kernel
theorem dX2_passSum_55 : decode cX2_passSum 55 = .ok (.aload_n 0, 1) := by decide +kernel
theorem dX2_passSum_56 : decode cX2_passSum 56 = .ok (.iload_n 1, 1) := by decide +kernel
theorem dX2_passSum_57 : decode cX2_passSum 57 = .ok (.invokevirtual 74, 3) := by decide +kernel
theorem dX2_passSum_60 : decode cX2_passSum 60 = .ok (.aload_n 0, 1) := by decide +kernel
theorem dX2_passSum_61 : decode cX2_passSum 61 = .ok (.iload_n 3, 1) := by decide +kernel
theorem dX2_passSum_62 : decode cX2_passSum 62 = .ok (.bipush 43, 2) := by decide +kernel
theorem dX2_passSum_64 : decode cX2_passSum 64 = .ok (.if_icmp .ne 7, 3) := by decide +kernel
theorem dX2_passSum_67 : decode cX2_passSum 67 = .ok (.iconst 5, 1) := by decide +kernel
theorem dX2_passSum_68 : decode cX2_passSum 68 = .ok (.goto 5, 3) := by decide +kernel
theorem dX2_passSum_71 : decode cX2_passSum 71 = .ok (.bipush 6, 2) := by decide +kernel
theorem dX2_passSum_73 : decode cX2_passSum 73 = .ok (.iconst 0, 1) := by decide +kernel
theorem dX2_passSum_74 : decode cX2_passSum 74 = .ok (.invokevirtual 70, 3) := by decide +kernel
theorem dX2_passSum_77 : decode cX2_passSum 77 = .ok (.iinc 2 1, 3) := by decide +kernel
theorem dX2_passSum_80 : decode cX2_passSum 80 = .ok (.goto (-73), 3) := by decide +kernel
theorem dX2_passSum_83 : decode cX2_passSum 83 = .ok (.return_, 1) := by decide +kernel
theorem dX2_passProduct_0 : decode cX2_passProduct 0 = .ok (.aload_n 0, 1) := by decide +kernel
theorem dX2_passProduct_1 : decode cX2_passProduct 1 = .ok (.iload_n 1, 1) := by decide +kernel
theorem dX2_passProduct_2 : decode cX2_passProduct 2 = .ok (.invokevirtual 77, 3) := by decide +kernel
theorem dX2_passProduct_5 : decode cX2_passProduct 5 = .ok (.iconst 0, 1) := by decide +kernel
theorem dX2_passProduct_6 : decode cX2_passProduct 6 = .ok (.istore_n 2, 1) := by decide +kernel
theorem dX2_passProduct_7 : decode cX2_passProduct 7 = .ok (.iload_n 2, 1) := by decide +kernel
theorem dX2_passProduct_8 : decode cX2_passProduct 8 = .ok (.bipush 30, 2) := by decide +kernel
theorem dX2_passProduct_10 : decode cX2_passProduct 10 = .ok (.if_icmp .ge 55, 3) := by decide +kernel
theorem dX2_passProduct_13 : decode cX2_passProduct 13 = .ok (.aload_n 0, 1) := by decide +kernel
theorem dX2_passProduct_14 : decode cX2_passProduct 14 = .ok (.getfield 25, 3) := by decide +kernel
theorem dX2_passProduct_17 : decode cX2_passProduct 17 = .ok (.ifCond .ne 48, 3) := by decide +kernel
theorem dX2_passProduct_20 : decode cX2_passProduct 20 = .ok (.aload_n 0, 1) := by decide +kernel
theorem dX2_passProduct_21 : decode cX2_passProduct 21 = .ok (.getfield 29, 3) := by decide +kernel
theorem dX2_passProduct_24 : decode cX2_passProduct 24 = .ok (.aload_n 0, 1) := by decide +kernel
theorem dX2_passProduct_25 : decode cX2_passProduct 25 = .ok (.getfield 22, 3) := by decide +kernel
theorem dX2_passProduct_28 : decode cX2_passProduct 28 = .ok (.invokevirtual 62, 3) := by decide +kernel
theorem dX2_passProduct_31 : decode cX2_passProduct 31 = .ok (.bipush 42, 2) := by decide +kernel
theorem dX2_passProduct_33 : decode cX2_passProduct 33 = .ok (.if_icmp .eq 4, 3) := by decide +kernel
theorem dX2_passProduct_36 : decode cX2_passProduct 36 = .ok (.return_, 1) := by decide +kernel
theorem dX2_passProduct_37 : decode cX2_passProduct 37 = .ok (.aload_n 0, 1) := by decide +kernel
theorem dX2_passProduct_38 : decode cX2_passProduct 38 = .ok (.dup, 1) := by decide +kernel
theorem dX2_passProduct_39 : decode cX2_passProduct 39 = .ok (.getfield 22, 3) := by decide +kernel
theorem dX2_passProduct_42 : decode cX2_passProduct 42 = .ok (.iconst 1, 1) := by decide +kernel
theorem dX2_passProduct_43 : decode cX2_passProduct 43 = .ok (.iadd, 1) := by decide +kernel
theorem dX2_passProduct_44 : decode cX2_passProduct 44 = .ok (.putfield 22, 3) := by decide +kernel
theorem dX2_passProduct_47 : decode cX2_passProduct 47 = .ok (.aload_n 0, 1) := by decide +kernel
theorem dX2_passProduct_48 : decode cX2_passProduct 48 = .ok (.iload_n 1, 1) := by decide +kernel
theorem dX2_passProduct_49 : decode cX2_passProduct 49 = .ok (.invokevirtual 77, 3) := by decide +kernel
theorem dX2_passProduct_52 : decode cX2_passProduct 52 = .ok (.aload_n 0, 1) := by decide +kernel
theorem dX2_passProduct_53 : decode cX2_passProduct 53 = .ok (.bipush 7, 2) := by decide +kernel
theorem dX2_passProduct_55 : decode cX2_passProduct 55 = .ok (.iconst 0, 1) := by decide +kernel
theorem dX2_passProduct_56 : decode cX2_passProduct 56 = .ok (.invokevirtual 70, 3) := by decide +kernel
theorem dX2_passProduct_59 : decode cX2_passProduct 59 = .ok (.iinc 2 1, 3) := by decide +kernel
theorem dX2_passProduct_62 : decode cX2_passProduct 62 = .ok (.goto (-55), 3) := by decide +kernel
theorem dX2_passProduct_65 : decode cX2_passProduct 65 = .ok (.return_, 1) := by decide +kernel
theorem dX2_passPart_0 : decode cX2_passPart 0 = .ok (.aload_n 0, 1) := by decide +kernel
theorem dX2_passPart_1 : decode cX2_passPart 1 = .ok (.getfield 25, 3) := by decide +kernel
theorem dX2_passPart_4 : decode cX2_passPart 4 = .ok (.ifCond .ne 9, 3) := by decide +kernel
theorem dX2_passPart_7 : decode cX2_passPart 7 = .ok (.iload_n 1, 1) := by decide +kernel
theorem dX2_passPart_8 : decode cX2_passPart 8 = .ok (.bipush 30, 2) := by decide +kernel
theorem dX2_passPart_10 : decode cX2_passPart 10 = .ok (.if_icmp .le 9, 3) := by decide +kernel
theorem dX2_passPart_13 : decode cX2_passPart 13 = .ok (.aload_n 0, 1) := by decide +kernel
theorem dX2_passPart_14 : decode cX2_passPart 14 = .ok (.iconst 1, 1) := by decide +kernel
theorem dX2_passPart_15 : decode cX2_passPart 15 = .ok (.putfield 25, 3) := by decide +kernel
theorem dX2_passPart_18 : decode cX2_passPart 18 = .ok (.return_, 1) := by decide +kernel
theorem dX2_passPart_19 : decode cX2_passPart 19 = .ok (.aload_n 0, 1) := by decide +kernel
theorem dX2_passPart_20 : decode cX2_passPart 20 = .ok (.getfield 29, 3) := by decide +kernel
theorem dX2_passPart_23 : decode cX2_passPart 23 = .ok (.aload_n 0, 1) := by decide +kernel
theorem dX2_passPart_24 : decode cX2_passPart 24 = .ok (.getfield 22, 3) := by decide +kernel
theorem dX2_passPart_27 : decode cX2_passPart 27 = .ok (.invokevirtual 62, 3) := by decide +kernel
theorem dX2_passPart_30 : decode cX2_passPart 30 = .ok (.istore_n 2, 1) := by decide +kernel
theorem dX2_passPart_31 : decode cX2_passPart 31 = .ok (.iload_n 2, 1) := by decide +kernel
theorem dX2_passPart_32 : decode cX2_passPart 32 = .ok (.invokestatic 80, 3) := by decide +kernel
theorem dX2_passPart_35 : decode cX2_passPart 35 = .ok (.ifCond .eq 8, 3) := by decide +kernel
theorem dX2_passPart_38 : decode cX2_passPart 38 = .ok (.aload_n 0, 1) := by decide +kernel
theorem dX2_passPart_39 : decode cX2_passPart 39 = .ok (.invokevirtual 84, 3) := by decide +kernel
theorem dX2_passPart_42 : decode cX2_passPart 42 = .ok (.return_, 1) := by decide +kernel
theorem dX2_passPart_43 : decode cX2_passPart 43 = .ok (.iload_n 2, 1) := by decide +kernel
theorem dX2_passPart_44 : decode cX2_passPart 44 = .ok (.lookupswitch 222 #[(40, 102), (45, 76), (99, 111), (105, 196), (108, 133), (109, 144), (110, 170), (114, 122)], 76) := by decide +kernel
theorem dX2_passPart_120 : decode cX2_passPart 120 = .ok (.aload_n 0, 1) := by decide +kernel
theorem dX2_passPart_121 : decode cX2_passPart 121 = .ok (.dup, 1) := by decide +kernel
theorem dX2_passPart_122 : decode cX2_passPart 122 = .ok (.getfield 22, 3) := by decide +kernel
theorem dX2_passPart_125 : decode cX2_passPart 125 = .ok (.iconst 1, 1) := by decide +kernel
theorem dX2_passPart_126 : decode cX2_passPart 126 = .ok (.iadd, 1) := by decide +kernel
theorem dX2_passPart_127 : decode cX2_passPart 127 = .ok (.putfield 22, 3) := by decide +kernel
theorem dX2_passPart_130 : decode cX2_passPart 130 = .ok (.aload_n 0, 1) := by decide +kernel
theorem dX2_passPart_131 : decode cX2_passPart 131 = .ok (.iload_n 1, 1) := by decide +kernel
theorem dX2_passPart_132 : decode cX2_passPart 132 = .ok (.iconst 1, 1) := by decide +kernel
theorem dX2_passPart_133 : decode cX2_passPart 133 = .ok (.iadd, 1) := by decide +kernel
theorem dX2_passPart_134 : decode cX2_passPart 134 = .ok (.invokevirtual 77, 3) := by decide +kernel
theorem dX2_passPart_137 : decode cX2_passPart 137 = .ok (.aload_n 0, 1) := by decide +kernel
theorem dX2_passPart_138 : decode cX2_passPart 138 = .ok (.iconst 4, 1) := by decide +kernel
theorem dX2_passPart_139 : decode cX2_passPart 139 = .ok (.iconst 0, 1) := by decide +kernel
theorem dX2_passPart_140 : decode cX2_passPart 140 = .ok (.invokevirtual 70, 3) := by decide +kernel
theorem dX2_passPart_143 : decode cX2_passPart 143 = .ok (.goto 128, 3) := by decide +kernel
theorem dX2_passPart_146 : decode cX2_passPart 146 = .ok (.aload_n 0, 1) := by decide +kernel
theorem dX2_passPart_147 : decode cX2_passPart 147 = .ok (.iload_n 1, 1) := by decide +kernel
theorem dX2_passPart_148 : decode cX2_passPart 148 = .ok (.iconst 1, 1) := by decide +kernel
theorem dX2_passPart_149 : decode cX2_passPart 149 = .ok (.invokevirtual 87, 3) := by decide +kernel
theorem dX2_passPart_152 : decode cX2_passPart 152 = .ok (.goto 119, 3) := by decide +kernel
theorem dX2_passPart_155 : decode cX2_passPart 155 = .ok (.aload_n 0, 1) := by decide +kernel
theorem dX2_passPart_156 : decode cX2_passPart 156 = .ok (.iconst 1, 1) := by decide +kernel
theorem dX2_passPart_157 : decode cX2_passPart 157 = .ok (.iconst 0, 1) := by decide +kernel
theorem dX2_passPart_158 : decode cX2_passPart 158 = .ok (.bipush 12, 2) := by decide +kernel
theorem dX2_passPart_160 : decode cX2_passPart 160 = .ok (.invokevirtual 90, 3) := by decide +kernel
theorem dX2_passPart_163 : decode cX2_passPart 163 = .ok (.goto 108, 3) := by decide +kernel
theorem dX2_passPart_166 : decode cX2_passPart 166 = .ok (.aload_n 0, 1) := by decide +kernel
theorem dX2_passPart_167 : decode cX2_passPart 167 = .ok (.iconst 2, 1) := by decide +kernel
theorem dX2_passPart_168 : decode cX2_passPart 168 = .ok (.bipush 12, 2) := by decide +kernel
theorem dX2_passPart_170 : decode cX2_passPart 170 = .ok (.iconst 5, 1) := by decide +kernel
theorem dX2_passPart_171 : decode cX2_passPart 171 = .ok (.invokevirtual 90, 3) := by decide +kernel
theorem dX2_passPart_174 : decode cX2_passPart 174 = .ok (.goto 97, 3) := by decide +kernel
theorem dX2_passPart_177 : decode cX2_passPart 177 = .ok (.aload_n 0, 1) := by decide +kernel
theorem dX2_passPart_178 : decode cX2_passPart 178 = .ok (.iconst 3, 1) := by decide +kernel
theorem dX2_passPart_179 : decode cX2_passPart 179 = .ok (.bipush 17, 2) := by decide +kernel
theorem dX2_passPart_181 : decode cX2_passPart 181 = .ok (.iconst 5, 1) := by decide +kernel
theorem dX2_passPart_182 : decode cX2_passPart 182 = .ok (.invokevirtual 90, 3) := by decide +kernel
theorem dX2_passPart_185 : decode cX2_passPart 185 = .ok (.goto 86, 3) := by decide +kernel
theorem dX2_passPart_188 : decode cX2_passPart 188 = .ok (.aload_n 0, 1) := by decide +kernel
theorem dX2_passPart_189 : decode cX2_passPart 189 = .ok (.dup, 1) := by decide +kernel
theorem dX2_passPart_190 : decode cX2_passPart 190 = .ok (.getfield 22, 3) := by decide +kernel
theorem dX2_passPart_193 : decode cX2_passPart 193 = .ok (.iconst 1, 1) := by decide +kernel
theorem dX2_passPart_194 : decode cX2_passPart 194 = .ok (.iadd, 1) := by decide +kernel
theorem dX2_passPart_195 : decode cX2_passPart 195 = .ok (.putfield 22, 3) := by decide +kernel
theorem dX2_passPart_198 : decode cX2_passPart 198 = .ok (.aload_n 0, 1) := by decide +kernel
theorem dX2_passPart_199 : decode cX2_passPart 199 = .ok (.iload_n 1, 1) := by decide +kernel
theorem dX2_passPart_200 : decode cX2_passPart 200 = .ok (.iconst 2, 1) := by decide +kernel
theorem dX2_passPart_201 : decode cX2_passPart 201 = .ok (.invokevirtual 87, 3) := by decide +kernel
theorem dX2_passPart_204 : decode cX2_passPart 204 = .ok (.aload_n 0, 1) := by decide +kernel
theorem dX2_passPart_205 : decode cX2_passPart 205 = .ok (.bipush 11, 2) := by decide +kernel
theorem dX2_passPart_207 : decode cX2_passPart 207 = .ok (.iconst 0, 1) := by decide +kernel
theorem dX2_passPart_208 : decode cX2_passPart 208 = .ok (.invokevirtual 70, 3) := by decide +kernel
theorem dX2_passPart_211 : decode cX2_passPart 211 = .ok (.goto 60, 3) := by decide +kernel
theorem dX2_passPart_214 : decode cX2_passPart 214 = .ok (.aload_n 0, 1) := by decide +kernel
theorem dX2_passPart_215 : decode cX2_passPart 215 = .ok (.dup, 1) := by decide +kernel
theorem dX2_passPart_216 : decode cX2_passPart 216 = .ok (.getfield 22, 3) := by decide +kernel
theorem dX2_passPart_219 : decode cX2_passPart 219 = .ok (.iconst 1, 1) := by decide +kernel
theorem dX2_passPart_220 : decode cX2_passPart 220 = .ok (.iadd, 1) := by decide +kernel
theorem dX2_passPart_221 : decode cX2_passPart 221 = .ok (.putfield 22, 3) := by decide +kernel
theorem dX2_passPart_224 : decode cX2_passPart 224 = .ok (.aload_n 0, 1) := by decide +kernel
theorem dX2_passPart_225 : decode cX2_passPart 225 = .ok (.iload_n 1, 1) := by decide +kernel
theorem dX2_passPart_226 : decode cX2_passPart 226 = .ok (.iconst 2, 1) := by decide +kernel
theorem dX2_passPart_227 : decode cX2_passPart 227 = .ok (.invokevirtual 87, 3) := by decide +kernel
theorem dX2_passPart_230 : decode cX2_passPart 230 = .ok (.aload_n 0, 1) := by decide +kernel
theorem dX2_passPart_231 : decode cX2_passPart 231 = .ok (.bipush 12, 2) := by decide +kernel
theorem dX2_passPart_233 : decode cX2_passPart 233 = .ok (.iconst 0, 1) := by decide +kernel
theorem dX2_passPart_234 : decode cX2_passPart 234 = .ok (.invokevirtual 70, 3) := by decide +kernel
theorem dX2_passPart_237 : decode cX2_passPart 237 = .ok (.goto 34, 3) := by decide +kernel
theorem dX2_passPart_240 : decode cX2_passPart 240 = .ok (.aload_n 0, 1) := by decide +kernel
theorem dX2_passPart_241 : decode cX2_passPart 241 = .ok (.dup, 1) := by decide +kernel
theorem dX2_passPart_242 : decode cX2_passPart 242 = .ok (.getfield 22, 3) := by decide +kernel
theorem dX2_passPart_245 : decode cX2_passPart 245 = .ok (.iconst 1, 1) := by decide +kernel
theorem dX2_passPart_246 : decode cX2_passPart 246 = .ok (.iadd, 1) := by decide +kernel
theorem dX2_passPart_247 : decode cX2_passPart 247 = .ok (.putfield 22, 3) := by decide +kernel
theorem dX2_passPart_250 : decode cX2_passPart 250 = .ok (.aload_n 0, 1) := by decide +kernel
theorem dX2_passPart_251 : decode cX2_passPart 251 = .ok (.iload_n 1, 1) := by decide +kernel
theorem dX2_passPart_252 : decode cX2_passPart 252 = .ok (.iconst 3, 1) := by decide +kernel
theorem dX2_passPart_253 : decode cX2_passPart 253 = .ok (.invokevirtual 87, 3) := by decide +kernel
theorem dX2_passPart_256 : decode cX2_passPart 256 = .ok (.aload_n 0, 1) := by decide +kernel
theorem dX2_passPart_257 : decode cX2_passPart 257 = .ok (.bipush 13, 2) := by decide +kernel
theorem dX2_passPart_259 : decode cX2_passPart 259 = .ok (.iconst 0, 1) := by decide +kernel
theorem dX2_passPart_260 : decode cX2_passPart 260 = .ok (.invokevirtual 70, 3) := by decide +kernel
theorem dX2_passPart_263 : decode cX2_passPart 263 = .ok (.goto 8, 3) := by decide +kernel
theorem dX2_passPart_266 : decode cX2_passPart 266 = .ok (.aload_n 0, 1) := by decide +kernel
theorem dX2_passPart_267 : decode cX2_passPart 267 = .ok (.iconst 1, 1) := by decide +kernel
theorem dX2_passPart_268 : decode cX2_passPart 268 = .ok (.putfield 25, 3) := by decide +kernel
theorem dX2_passPart_271 : decode cX2_passPart 271 = .ok (.return_, 1) := by decide +kernel
theorem dX2_passNumber_0 : decode cX2_passNumber 0 = .ok (.iconst 0, 1) := by decide +kernel
theorem dX2_passNumber_1 : decode cX2_passNumber 1 = .ok (.istore_n 1, 1) := by decide +kernel
theorem dX2_passNumber_2 : decode cX2_passNumber 2 = .ok (.iconst 0, 1) := by decide +kernel
theorem dX2_passNumber_3 : decode cX2_passNumber 3 = .ok (.istore_n 2, 1) := by decide +kernel
theorem dX2_passNumber_4 : decode cX2_passNumber 4 = .ok (.iload_n 2, 1) := by decide +kernel
theorem dX2_passNumber_5 : decode cX2_passNumber 5 = .ok (.iconst 4, 1) := by decide +kernel
theorem dX2_passNumber_6 : decode cX2_passNumber 6 = .ok (.if_icmp .ge 56, 3) := by decide +kernel
theorem dX2_passNumber_9 : decode cX2_passNumber 9 = .ok (.aload_n 0, 1) := by decide +kernel
theorem dX2_passNumber_10 : decode cX2_passNumber 10 = .ok (.getfield 29, 3) := by decide +kernel
theorem dX2_passNumber_13 : decode cX2_passNumber 13 = .ok (.aload_n 0, 1) := by decide +kernel
theorem dX2_passNumber_14 : decode cX2_passNumber 14 = .ok (.getfield 22, 3) := by decide +kernel
theorem dX2_passNumber_17 : decode cX2_passNumber 17 = .ok (.invokevirtual 62, 3) := by decide +kernel
theorem dX2_passNumber_20 : decode cX2_passNumber 20 = .ok (.invokestatic 80, 3) := by decide +kernel
theorem dX2_passNumber_23 : decode cX2_passNumber 23 = .ok (.ifCond .eq 39, 3) := by decide +kernel
theorem dX2_passNumber_26 : decode cX2_passNumber 26 = .ok (.iload_n 1, 1) := by decide +kernel
theorem dX2_passNumber_27 : decode cX2_passNumber 27 = .ok (.bipush 10, 2) := by decide +kernel
theorem dX2_passNumber_29 : decode cX2_passNumber 29 = .ok (.imul, 1) := by decide +kernel
theorem dX2_passNumber_30 : decode cX2_passNumber 30 = .ok (.aload_n 0, 1) := by decide +kernel
theorem dX2_passNumber_31 : decode cX2_passNumber 31 = .ok (.getfield 29, 3) := by decide +kernel
theorem dX2_passNumber_34 : decode cX2_passNumber 34 = .ok (.aload_n 0, 1) := by decide +kernel
theorem dX2_passNumber_35 : decode cX2_passNumber 35 = .ok (.getfield 22, 3) := by decide +kernel
theorem dX2_passNumber_38 : decode cX2_passNumber 38 = .ok (.invokevirtual 62, 3) := by decide +kernel
theorem dX2_passNumber_41 : decode cX2_passNumber 41 = .ok (.bipush 48, 2) := by decide +kernel
theorem dX2_passNumber_43 : decode cX2_passNumber 43 = .ok (.isub, 1) := by decide +kernel
theorem dX2_passNumber_44 : decode cX2_passNumber 44 = .ok (.iadd, 1) := by decide +kernel
theorem dX2_passNumber_45 : decode cX2_passNumber 45 = .ok (.istore_n 1, 1) := by decide +kernel
theorem dX2_passNumber_46 : decode cX2_passNumber 46 = .ok (.aload_n 0, 1) := by decide +kernel
theorem dX2_passNumber_47 : decode cX2_passNumber 47 = .ok (.dup, 1) := by decide +kernel
theorem dX2_passNumber_48 : decode cX2_passNumber 48 = .ok (.getfield 22, 3) := by decide +kernel
theorem dX2_passNumber_51 : decode cX2_passNumber 51 = .ok (.iconst 1, 1) := by decide +kernel
theorem dX2_passNumber_52 : decode cX2_passNumber 52 = .ok (.iadd, 1) := by decide +kernel
theorem dX2_passNumber_53 : decode cX2_passNumber 53 = .ok (.putfield 22, 3) := by decide +kernel
theorem dX2_passNumber_56 : decode cX2_passNumber 56 = .ok (.iinc 2 1, 3) := by decide +kernel
theorem dX2_passNumber_59 : decode cX2_passNumber 59 = .ok (.goto (-55), 3) := by decide +kernel
theorem dX2_passNumber_62 : decode cX2_passNumber 62 = .ok (.aload_n 0, 1) := by decide +kernel
theorem dX2_passNumber_63 : decode cX2_passNumber 63 = .ok (.iconst 0, 1) := by decide +kernel
theorem dX2_passNumber_64 : decode cX2_passNumber 64 = .ok (.iload_n 1, 1) := by decide +kernel
theorem dX2_passNumber_65 : decode cX2_passNumber 65 = .ok (.invokevirtual 70, 3) := by decide +kernel
theorem dX2_passNumber_68 : decode cX2_passNumber 68 = .ok (.return_, 1) := by decide +kernel
theorem dX2_passName_0 : decode cX2_passName 0 = .ok (.aload_n 0, 1) := by decide +kernel
theorem dX2_passName_1 : decode cX2_passName 1 = .ok (.dup, 1) := by decide +kernel
theorem dX2_passName_2 : decode cX2_passName 2 = .ok (.getfield 22, 3) := by decide +kernel
theorem dX2_passName_5 : decode cX2_passName 5 = .ok (.iconst 1, 1) := by decide +kernel
theorem dX2_passName_6 : decode cX2_passName 6 = .ok (.iadd, 1) := by decide +kernel
theorem dX2_passName_7 : decode cX2_passName 7 = .ok (.putfield 22, 3) := by decide +kernel
theorem dX2_passName_10 : decode cX2_passName 10 = .ok (.aload_n 0, 1) := by decide +kernel
theorem dX2_passName_11 : decode cX2_passName 11 = .ok (.aload_n 0, 1) := by decide +kernel
theorem dX2_passName_12 : decode cX2_passName 12 = .ok (.getfield 22, 3) := by decide +kernel
theorem dX2_passName_15 : decode cX2_passName 15 = .ok (.invokevirtual 94, 3) := by decide +kernel
theorem dX2_passName_18 : decode cX2_passName 18 = .ok (.istore 4, 2) := by decide +kernel
theorem dX2_passName_20 : decode cX2_passName 20 = .ok (.iload 4, 2) := by decide +kernel
theorem dX2_passName_22 : decode cX2_passName 22 = .ok (.iconst (-1), 1) := by decide +kernel
theorem dX2_passName_23 : decode cX2_passName 23 = .ok (.if_icmp .eq 9, 3) := by decide +kernel
theorem dX2_passName_26 : decode cX2_passName 26 = .ok (.iload 4, 2) := by decide +kernel
theorem dX2_passName_28 : decode cX2_passName 28 = .ok (.iload_n 3, 1) := by decide +kernel
theorem dX2_passName_29 : decode cX2_passName 29 = .ok (.if_icmp .lt 9, 3) := by decide +kernel
theorem dX2_passName_32 : decode cX2_passName 32 = .ok (.aload_n 0, 1) := by decide +kernel
theorem dX2_passName_33 : decode cX2_passName 33 = .ok (.iconst 1, 1) := by decide +kernel
theorem dX2_passName_34 : decode cX2_passName 34 = .ok (.putfield 25, 3) := by decide +kernel
theorem dX2_passName_37 : decode cX2_passName 37 = .ok (.return_, 1) := by decide +kernel
theorem dX2_passName_38 : decode cX2_passName 38 = .ok (.aload_n 0, 1) := by decide +kernel
theorem dX2_passName_39 : decode cX2_passName 39 = .ok (.dup, 1) := by decide +kernel
theorem dX2_passName_40 : decode cX2_passName 40 = .ok (.getfield 22, 3) := by decide +kernel
theorem dX2_passName_43 : decode cX2_passName 43 = .ok (.iconst 1, 1) := by decide +kernel
theorem dX2_passName_44 : decode cX2_passName 44 = .ok (.iadd, 1) := by decide +kernel
theorem dX2_passName_45 : decode cX2_passName 45 = .ok (.putfield 22, 3) := by decide +kernel
theorem dX2_passName_48 : decode cX2_passName 48 = .ok (.aload_n 0, 1) := by decide +kernel
theorem dX2_passName_49 : decode cX2_passName 49 = .ok (.aload_n 0, 1) := by decide +kernel
theorem dX2_passName_50 : decode cX2_passName 50 = .ok (.getfield 22, 3) := by decide +kernel
theorem dX2_passName_53 : decode cX2_passName 53 = .ok (.invokevirtual 94, 3) := by decide +kernel
theorem dX2_passName_56 : decode cX2_passName 56 = .ok (.istore 5, 2) := by decide +kernel
theorem dX2_passName_58 : decode cX2_passName 58 = .ok (.iload 4, 2) := by decide +kernel
theorem dX2_passName_60 : decode cX2_passName 60 = .ok (.ifCond .le 41, 3) := by decide +kernel
theorem dX2_passName_63 : decode cX2_passName 63 = .ok (.iload 5, 2) := by decide +kernel
theorem dX2_passName_65 : decode cX2_passName 65 = .ok (.iconst (-1), 1) := by decide +kernel
theorem dX2_passName_66 : decode cX2_passName 66 = .ok (.if_icmp .eq 35, 3) := by decide +kernel
theorem dX2_passName_69 : decode cX2_passName 69 = .ok (.iload 4, 2) := by decide +kernel
theorem dX2_passName_71 : decode cX2_passName 71 = .ok (.bipush 10, 2) := by decide +kernel
theorem dX2_passName_73 : decode cX2_passName 73 = .ok (.imul, 1) := by decide +kernel
theorem dX2_passName_74 : decode cX2_passName 74 = .ok (.iload 5, 2) := by decide +kernel
theorem dX2_passName_76 : decode cX2_passName 76 = .ok (.iadd, 1) := by decide +kernel
theorem dX2_passName_77 : decode cX2_passName 77 = .ok (.iload_n 3, 1) := by decide +kernel
theorem dX2_passName_78 : decode cX2_passName 78 = .ok (.if_icmp .ge 23, 3) := by decide +kernel
theorem dX2_passName_81 : decode cX2_passName 81 = .ok (.iload 4, 2) := by decide +kernel
theorem dX2_passName_83 : decode cX2_passName 83 = .ok (.bipush 10, 2) := by decide +kernel
theorem dX2_passName_85 : decode cX2_passName 85 = .ok (.imul, 1) := by decide +kernel
theorem dX2_passName_86 : decode cX2_passName 86 = .ok (.iload 5, 2) := by decide +kernel
theorem dX2_passName_88 : decode cX2_passName 88 = .ok (.iadd, 1) := by decide +kernel
theorem dX2_passName_89 : decode cX2_passName 89 = .ok (.istore 4, 2) := by decide +kernel
theorem dX2_passName_91 : decode cX2_passName 91 = .ok (.aload_n 0, 1) := by decide +kernel
theorem dX2_passName_92 : decode cX2_passName 92 = .ok (.dup, 1) := by decide +kernel
theorem dX2_passName_93 : decode cX2_passName 93 = .ok (.getfield 22, 3) := by decide +kernel
theorem dX2_passName_96 : decode cX2_passName 96 = .ok (.iconst 1, 1) := by decide +kernel
theorem dX2_passName_97 : decode cX2_passName 97 = .ok (.iadd, 1) := by decide +kernel
theorem dX2_passName_98 : decode cX2_passName 98 = .ok (.putfield 22, 3) := by decide +kernel
theorem dX2_passName_101 : decode cX2_passName 101 = .ok (.aload_n 0, 1) := by decide +kernel
theorem dX2_passName_102 : decode cX2_passName 102 = .ok (.dup, 1) := by decide +kernel
theorem dX2_passName_103 : decode cX2_passName 103 = .ok (.getfield 19, 3) := by decide +kernel
theorem dX2_passName_106 : decode cX2_passName 106 = .ok (.iload_n 2, 1) := by decide +kernel
theorem dX2_passName_107 : decode cX2_passName 107 = .ok (.iload 4, 2) := by decide +kernel
theorem dX2_passName_109 : decode cX2_passName 109 = .ok (.iadd, 1) := by decide +kernel
theorem dX2_passName_110 : decode cX2_passName 110 = .ok (.invokestatic 98, 3) := by decide +kernel
theorem dX2_passName_113 : decode cX2_passName 113 = .ok (.ior, 1) := by decide +kernel
theorem dX2_passName_114 : decode cX2_passName 114 = .ok (.putfield 19, 3) := by decide +kernel
theorem dX2_passName_117 : decode cX2_passName 117 = .ok (.aload_n 0, 1) := by decide +kernel
theorem dX2_passName_118 : decode cX2_passName 118 = .ok (.iload_n 1, 1) := by decide +kernel
theorem dX2_passName_119 : decode cX2_passName 119 = .ok (.iload 4, 2) := by decide +kernel
theorem dX2_passName_121 : decode cX2_passName 121 = .ok (.invokevirtual 70, 3) := by decide +kernel
theorem dX2_passName_124 : decode cX2_passName 124 = .ok (.return_, 1) := by decide +kernel
theorem dX2_figureAt_0 : decode cX2_figureAt 0 = .ok (.aload_n 0, 1) := by decide +kernel
theorem dX2_figureAt_1 : decode cX2_figureAt 1 = .ok (.getfield 29, 3) := by decide +kernel
theorem dX2_figureAt_4 : decode cX2_figureAt 4 = .ok (.iload_n 1, 1) := by decide +kernel
theorem dX2_figureAt_5 : decode cX2_figureAt 5 = .ok (.invokevirtual 62, 3) := by decide +kernel
theorem dX2_figureAt_8 : decode cX2_figureAt 8 = .ok (.istore_n 2, 1) := by decide +kernel
theorem dX2_figureAt_9 : decode cX2_figureAt 9 = .ok (.iload_n 2, 1) := by decide +kernel
theorem dX2_figureAt_10 : decode cX2_figureAt 10 = .ok (.invokestatic 80, 3) := by decide +kernel
theorem dX2_figureAt_13 : decode cX2_figureAt 13 = .ok (.ifCond .eq 10, 3) := by decide +kernel
theorem dX2_figureAt_16 : decode cX2_figureAt 16 = .ok (.iload_n 2, 1) := by decide +kernel
theorem dX2_figureAt_17 : decode cX2_figureAt 17 = .ok (.bipush 48, 2) := by decide +kernel
theorem dX2_figureAt_19 : decode cX2_figureAt 19 = .ok (.isub, 1) := by decide +kernel
theorem dX2_figureAt_20 : decode cX2_figureAt 20 = .ok (.goto 4, 3) := by decide +kernel
theorem dX2_figureAt_23 : decode cX2_figureAt 23 = .ok (.iconst (-1), 1) := by decide +kernel
theorem dX2_figureAt_24 : decode cX2_figureAt 24 = .ok (.ireturn, 1) := by decide +kernel
theorem dX2_passBrackets_0 : decode cX2_passBrackets 0 = .ok (.aload_n 0, 1) := by decide +kernel
theorem dX2_passBrackets_1 : decode cX2_passBrackets 1 = .ok (.bipush 40, 2) := by decide +kernel
theorem dX2_passBrackets_3 : decode cX2_passBrackets 3 = .ok (.invokevirtual 101, 3) := by decide +kernel
theorem dX2_passBrackets_6 : decode cX2_passBrackets 6 = .ok (.iconst 0, 1) := by decide +kernel
theorem dX2_passBrackets_7 : decode cX2_passBrackets 7 = .ok (.istore_n 3, 1) := by decide +kernel
theorem dX2_passBrackets_8 : decode cX2_passBrackets 8 = .ok (.iload_n 3, 1) := by decide +kernel
theorem dX2_passBrackets_9 : decode cX2_passBrackets 9 = .ok (.iload_n 2, 1) := by decide +kernel
theorem dX2_passBrackets_10 : decode cX2_passBrackets 10 = .ok (.if_icmp .ge 41, 3) := by decide +kernel
theorem dX2_passBrackets_13 : decode cX2_passBrackets 13 = .ok (.aload_n 0, 1) := by decide +kernel
theorem dX2_passBrackets_14 : decode cX2_passBrackets 14 = .ok (.getfield 25, 3) := by decide +kernel
theorem dX2_passBrackets_17 : decode cX2_passBrackets 17 = .ok (.ifCond .ne 34, 3) := by decide +kernel
theorem dX2_passBrackets_20 : decode cX2_passBrackets 20 = .ok (.aload_n 0, 1) := by decide +kernel
theorem dX2_passBrackets_21 : decode cX2_passBrackets 21 = .ok (.iload_n 1, 1) := by decide +kernel
theorem dX2_passBrackets_22 : decode cX2_passBrackets 22 = .ok (.iconst 1, 1) := by decide +kernel
theorem dX2_passBrackets_23 : decode cX2_passBrackets 23 = .ok (.iadd, 1) := by decide +kernel
theorem dX2_passBrackets_24 : decode cX2_passBrackets 24 = .ok (.invokevirtual 33, 3) := by decide +kernel
theorem dX2_passBrackets_27 : decode cX2_passBrackets 27 = .ok (.aload_n 0, 1) := by decide +kernel
theorem dX2_passBrackets_28 : decode cX2_passBrackets 28 = .ok (.iload_n 3, 1) := by decide +kernel
theorem dX2_passBrackets_29 : decode cX2_passBrackets 29 = .ok (.iload_n 2, 1) := by decide +kernel
theorem dX2_passBrackets_30 : decode cX2_passBrackets 30 = .ok (.iconst 1, 1) := by decide +kernel
theorem dX2_passBrackets_31 : decode cX2_passBrackets 31 = .ok (.isub, 1) := by decide +kernel
theorem dX2_passBrackets_32 : decode cX2_passBrackets 32 = .ok (.if_icmp .ge 8, 3) := by decide +kernel
theorem dX2_passBrackets_35 : decode cX2_passBrackets 35 = .ok (.bipush 44, 2) := by decide +kernel
theorem dX2_passBrackets_37 : decode cX2_passBrackets 37 = .ok (.goto 5, 3) := by decide +kernel
theorem dX2_passBrackets_40 : decode cX2_passBrackets 40 = .ok (.bipush 41, 2) := by decide +kernel
theorem dX2_passBrackets_42 : decode cX2_passBrackets 42 = .ok (.invokevirtual 101, 3) := by decide +kernel
theorem dX2_passBrackets_45 : decode cX2_passBrackets 45 = .ok (.iinc 3 1, 3) := by decide +kernel
theorem dX2_passBrackets_48 : decode cX2_passBrackets 48 = .ok (.goto (-40), 3) := by decide +kernel
theorem dX2_passBrackets_51 : decode cX2_passBrackets 51 = .ok (.return_, 1) := by decide +kernel
theorem dX2_passSign_0 : decode cX2_passSign 0 = .ok (.aload_n 0, 1) := by decide +kernel
theorem dX2_passSign_1 : decode cX2_passSign 1 = .ok (.getfield 25, 3) := by decide +kernel
theorem dX2_passSign_4 : decode cX2_passSign 4 = .ok (.ifCond .ne 18, 3) := by decide +kernel
theorem dX2_passSign_7 : decode cX2_passSign 7 = .ok (.aload_n 0, 1) := by decide +kernel
theorem dX2_passSign_8 : decode cX2_passSign 8 = .ok (.getfield 29, 3) := by decide +kernel
theorem dX2_passSign_11 : decode cX2_passSign 11 = .ok (.aload_n 0, 1) := by decide +kernel
theorem dX2_passSign_12 : decode cX2_passSign 12 = .ok (.getfield 22, 3) := by decide +kernel
theorem dX2_passSign_15 : decode cX2_passSign 15 = .ok (.invokevirtual 62, 3) := by decide +kernel
theorem dX2_passSign_18 : decode cX2_passSign 18 = .ok (.iload_n 1, 1) := by decide +kernel
theorem dX2_passSign_19 : decode cX2_passSign 19 = .ok (.if_icmp .eq 9, 3) := by decide +kernel
theorem dX2_passSign_22 : decode cX2_passSign 22 = .ok (.aload_n 0, 1) := by decide +kernel
theorem dX2_passSign_23 : decode cX2_passSign 23 = .ok (.iconst 1, 1) := by decide +kernel
theorem dX2_passSign_24 : decode cX2_passSign 24 = .ok (.putfield 25, 3) := by decide +kernel
theorem dX2_passSign_27 : decode cX2_passSign 27 = .ok (.return_, 1) := by decide +kernel
theorem dX2_passSign_28 : decode cX2_passSign 28 = .ok (.aload_n 0, 1) := by decide +kernel
theorem dX2_passSign_29 : decode cX2_passSign 29 = .ok (.dup, 1) := by decide +kernel
theorem dX2_passSign_30 : decode cX2_passSign 30 = .ok (.getfield 22, 3) := by decide +kernel
theorem dX2_passSign_33 : decode cX2_passSign 33 = .ok (.iconst 1, 1) := by decide +kernel
theorem dX2_passSign_34 : decode cX2_passSign 34 = .ok (.iadd, 1) := by decide +kernel
theorem dX2_passSign_35 : decode cX2_passSign 35 = .ok (.putfield 22, 3) := by decide +kernel
theorem dX2_passSign_38 : decode cX2_passSign 38 = .ok (.return_, 1) := by decide +kernel
theorem dX2_write_0 : decode cX2_write 0 = .ok (.aload_n 0, 1) := by decide +kernel
theorem dX2_write_1 : decode cX2_write 1 = .ok (.getfield 25, 3) := by decide +kernel
theorem dX2_write_4 : decode cX2_write 4 = .ok (.ifCond .ne 46, 3) := by decide +kernel
theorem dX2_write_7 : decode cX2_write 7 = .ok (.aload_n 0, 1) := by decide +kernel
theorem dX2_write_8 : decode cX2_write 8 = .ok (.getfield 15, 3) := by decide +kernel
theorem dX2_write_11 : decode cX2_write 11 = .ok (.ifCond .lt 39, 3) := by decide +kernel
theorem dX2_write_14 : decode cX2_write 14 = .ok (.aload_n 0, 1) := by decide +kernel
theorem dX2_write_15 : decode cX2_write 15 = .ok (.getfield 15, 3) := by decide +kernel
theorem dX2_write_18 : decode cX2_write 18 = .ok (.aload_n 0, 1) := by decide +kernel
theorem dX2_write_19 : decode cX2_write 19 = .ok (.getfield 9, 3) := by decide +kernel
theorem dX2_write_22 : decode cX2_write 22 = .ok (.arraylength, 1) := by decide +kernel
theorem dX2_write_23 : decode cX2_write 23 = .ok (.if_icmp .ge 27, 3) := by decide +kernel
theorem dX2_write_26 : decode cX2_write 26 = .ok (.aload_n 0, 1) := by decide +kernel
theorem dX2_write_27 : decode cX2_write 27 = .ok (.getfield 9, 3) := by decide +kernel
theorem dX2_write_30 : decode cX2_write 30 = .ok (.aload_n 0, 1) := by decide +kernel
theorem dX2_write_31 : decode cX2_write 31 = .ok (.getfield 15, 3) := by decide +kernel
theorem dX2_write_34 : decode cX2_write 34 = .ok (.iload_n 2, 1) := by decide +kernel
theorem dX2_write_35 : decode cX2_write 35 = .ok (.iconst 4, 1) := by decide +kernel
theorem dX2_write_36 : decode cX2_write 36 = .ok (.ishl, 1) := by decide +kernel
theorem dX2_write_37 : decode cX2_write 37 = .ok (.iload_n 1, 1) := by decide +kernel
theorem dX2_write_38 : decode cX2_write 38 = .ok (.ior, 1) := by decide +kernel
theorem dX2_write_39 : decode cX2_write 39 = .ok (.iastore, 1) := by decide +kernel
theorem dX2_write_40 : decode cX2_write 40 = .ok (.aload_n 0, 1) := by decide +kernel
theorem dX2_write_41 : decode cX2_write 41 = .ok (.dup, 1) := by decide +kernel
theorem dX2_write_42 : decode cX2_write 42 = .ok (.getfield 15, 3) := by decide +kernel
theorem dX2_write_45 : decode cX2_write 45 = .ok (.iconst 1, 1) := by decide +kernel
theorem dX2_write_46 : decode cX2_write 46 = .ok (.iadd, 1) := by decide +kernel
theorem dX2_write_47 : decode cX2_write 47 = .ok (.putfield 15, 3) := by decide +kernel
theorem dX2_write_50 : decode cX2_write 50 = .ok (.return_, 1) := by decide +kernel
theorem dX3_init_0 : decode cX3_init 0 = .ok (.aload_n 0, 1) := by decide +kernel
theorem dX3_init_1 : decode cX3_init 1 = .ok (.invokespecial 3, 3) := by decide +kernel
theorem dX3_init_4 : decode cX3_init 4 = .ok (.aload_n 0, 1) := by decide +kernel
theorem dX3_init_5 : decode cX3_init 5 = .ok (.iconst 0, 1) := by decide +kernel
theorem dX3_init_6 : decode cX3_init 6 = .ok (.putfield 9, 3) := by decide +kernel
theorem dX3_init_9 : decode cX3_init 9 = .ok (.aload_n 0, 1) := by decide +kernel
theorem dX3_init_10 : decode cX3_init 10 = .ok (.iconst (-1), 1) := by decide +kernel
theorem dX3_init_11 : decode cX3_init 11 = .ok (.putfield 15, 3) := by decide +kernel
theorem dX3_init_14 : decode cX3_init 14 = .ok (.return_, 1) := by decide +kernel
theorem dX3_isFresh_0 : decode cX3_isFresh 0 = .ok (.aload_n 0, 1) := by decide +kernel
theorem dX3_isFresh_1 : decode cX3_isFresh 1 = .ok (.getfield 15, 3) := by decide +kernel
theorem dX3_isFresh_4 : decode cX3_isFresh 4 = .ok (.iconst (-1), 1) := by decide +kernel
theorem dX3_isFresh_5 : decode cX3_isFresh 5 = .ok (.if_icmp .eq 18, 3) := by decide +kernel
theorem dX3_isFresh_8 : decode cX3_isFresh 8 = .ok (.iload_n 1, 1) := by decide +kernel
theorem dX3_isFresh_9 : decode cX3_isFresh 9 = .ok (.aload_n 0, 1) := by decide +kernel
theorem dX3_isFresh_10 : decode cX3_isFresh 10 = .ok (.getfield 15, 3) := by decide +kernel
theorem dX3_isFresh_13 : decode cX3_isFresh 13 = .ok (.isub, 1) := by decide +kernel
theorem dX3_isFresh_14 : decode cX3_isFresh 14 = .ok (.bipush 10, 2) := by decide +kernel
theorem dX3_isFresh_16 : decode cX3_isFresh 16 = .ok (.if_icmp .gt 7, 3) := by decide +kernel
theorem dX3_isFresh_19 : decode cX3_isFresh 19 = .ok (.iconst 1, 1) := by decide +kernel
theorem dX3_isFresh_20 : decode cX3_isFresh 20 = .ok (.goto 4, 3) := by decide +kernel
theorem dX3_isFresh_23 : decode cX3_isFresh 23 = .ok (.iconst 0, 1) := by decide +kernel
theorem dX3_isFresh_24 : decode cX3_isFresh 24 = .ok (.ireturn, 1) := by decide +kernel
theorem dX4_init_0 : decode cX4_init 0 = .ok (.aload_n 0, 1) := by decide +kernel
theorem dX4_init_1 : decode cX4_init 1 = .ok (.invokespecial 3, 3) := by decide +kernel
theorem dX4_init_4 : decode cX4_init 4 = .ok (.aload_n 0, 1) := by decide +kernel
theorem dX4_init_5 : decode cX4_init 5 = .ok (.iconst 0, 1) := by decide +kernel
theorem dX4_init_6 : decode cX4_init 6 = .ok (.putfield 9, 3) := by decide +kernel
theorem dX4_init_9 : decode cX4_init 9 = .ok (.aload_n 0, 1) := by decide +kernel
theorem dX4_init_10 : decode cX4_init 10 = .ok (.iconst (-1), 1) := by decide +kernel
theorem dX4_init_11 : decode cX4_init 11 = .ok (.putfield 15, 3) := by decide +kernel
theorem dX4_init_14 : decode cX4_init 14 = .ok (.aload_n 0, 1) := by decide +kernel
theorem dX4_init_15 : decode cX4_init 15 = .ok (.iconst (-1), 1) := by decide +kernel
theorem dX4_init_16 : decode cX4_init 16 = .ok (.putfield 18, 3) := by decide +kernel
theorem dX4_init_19 : decode cX4_init 19 = .ok (.aload_n 0, 1) := by decide +kernel
theorem dX4_init_20 : decode cX4_init 20 = .ok (.iconst 0, 1) := by decide +kernel
theorem dX4_init_21 : decode cX4_init 21 = .ok (.putfield 21, 3) := by decide +kernel
theorem dX4_init_24 : decode cX4_init 24 = .ok (.aload_n 0, 1) := by decide +kernel
theorem dX4_init_25 : decode cX4_init 25 = .ok (.iconst 0, 1) := by decide +kernel
theorem dX4_init_26 : decode cX4_init 26 = .ok (.putfield 24, 3) := by decide +kernel
theorem dX4_init_29 : decode cX4_init 29 = .ok (.aload_n 0, 1) := by decide +kernel
theorem dX4_init_30 : decode cX4_init 30 = .ok (.iconst 0, 1) := by decide +kernel
theorem dX4_init_31 : decode cX4_init 31 = .ok (.putfield 27, 3) := by decide +kernel
theorem dX4_init_34 : decode cX4_init 34 = .ok (.aload_n 0, 1) := by decide +kernel
theorem dX4_init_35 : decode cX4_init 35 = .ok (.iconst (-1), 1) := by decide +kernel
theorem dX4_init_36 : decode cX4_init 36 = .ok (.putfield 30, 3) := by decide +kernel
theorem dX4_init_39 : decode cX4_init 39 = .ok (.aload_n 0, 1) := by decide +kernel
theorem dX4_init_40 : decode cX4_init 40 = .ok (.iconst 0, 1) := by decide +kernel
theorem dX4_init_41 : decode cX4_init 41 = .ok (.putfield 33, 3) := by decide +kernel
theorem dX4_init_44 : decode cX4_init 44 = .ok (.aload_n 0, 1) := by decide +kernel
theorem dX4_init_45 : decode cX4_init 45 = .ok (.iconst 0, 1) := by decide +kernel
theorem dX4_init_46 : decode cX4_init 46 = .ok (.putfield 36, 3) := by decide +kernel
theorem dX4_init_49 : decode cX4_init 49 = .ok (.aload_n 0, 1) := by decide +kernel
theorem dX4_init_50 : decode cX4_init 50 = .ok (.iconst 0, 1) := by decide +kernel
theorem dX4_init_51 : decode cX4_init 51 = .ok (.putfield 39, 3) := by decide +kernel
theorem dX4_init_54 : decode cX4_init 54 = .ok (.aload_n 0, 1) := by decide +kernel
theorem dX4_init_55 : decode cX4_init 55 = .ok (.iconst 0, 1) := by decide +kernel
theorem dX4_init_56 : decode cX4_init 56 = .ok (.putfield 42, 3) := by decide +kernel
theorem dX4_init_59 : decode cX4_init 59 = .ok (.aload_n 0, 1) := by decide +kernel
theorem dX4_init_60 : decode cX4_init 60 = .ok (.iconst 0, 1) := by decide +kernel
theorem dX4_init_61 : decode cX4_init 61 = .ok (.putfield 45, 3) := by decide +kernel
theorem dX4_init_64 : decode cX4_init 64 = .ok (.aload_n 0, 1) := by decide +kernel
theorem dX4_init_65 : decode cX4_init 65 = .ok (.iconst 0, 1) := by decide +kernel
theorem dX4_init_66 : decode cX4_init 66 = .ok (.putfield 48, 3) := by decide +kernel
theorem dX4_init_69 : decode cX4_init 69 = .ok (.aload_n 0, 1) := by decide +kernel
theorem dX4_init_70 : decode cX4_init 70 = .ok (.iload_n 1, 1) := by decide +kernel
theorem dX4_init_71 : decode cX4_init 71 = .ok (.putfield 51, 3) := by decide +kernel
theorem dX4_init_74 : decode cX4_init 74 = .ok (.return_, 1) := by decide +kernel
theorem dX4_clear_0 : decode cX4_clear 0 = .ok (.aload_n 0, 1) := by decide +kernel
theorem dX4_clear_1 : decode cX4_clear 1 = .ok (.iconst 0, 1) := by decide +kernel
theorem dX4_clear_2 : decode cX4_clear 2 = .ok (.putfield 9, 3) := by decide +kernel
theorem dX4_clear_5 : decode cX4_clear 5 = .ok (.aload_n 0, 1) := by decide +kernel
theorem dX4_clear_6 : decode cX4_clear 6 = .ok (.iconst (-1), 1) := by decide +kernel
theorem dX4_clear_7 : decode cX4_clear 7 = .ok (.putfield 15, 3) := by decide +kernel
theorem dX4_clear_10 : decode cX4_clear 10 = .ok (.aload_n 0, 1) := by decide +kernel
theorem dX4_clear_11 : decode cX4_clear 11 = .ok (.iconst (-1), 1) := by decide +kernel
theorem dX4_clear_12 : decode cX4_clear 12 = .ok (.putfield 18, 3) := by decide +kernel
theorem dX4_clear_15 : decode cX4_clear 15 = .ok (.aload_n 0, 1) := by decide +kernel
theorem dX4_clear_16 : decode cX4_clear 16 = .ok (.iconst 0, 1) := by decide +kernel
theorem dX4_clear_17 : decode cX4_clear 17 = .ok (.putfield 21, 3) := by decide +kernel
theorem dX4_clear_20 : decode cX4_clear 20 = .ok (.aload_n 0, 1) := by decide +kernel
theorem dX4_clear_21 : decode cX4_clear 21 = .ok (.iconst 0, 1) := by decide +kernel
theorem dX4_clear_22 : decode cX4_clear 22 = .ok (.putfield 24, 3) := by decide +kernel
theorem dX4_clear_25 : decode cX4_clear 25 = .ok (.aload_n 0, 1) := by decide +kernel
theorem dX4_clear_26 : decode cX4_clear 26 = .ok (.iconst 0, 1) := by decide +kernel
theorem dX4_clear_27 : decode cX4_clear 27 = .ok (.putfield 27, 3) := by decide +kernel
theorem dX4_clear_30 : decode cX4_clear 30 = .ok (.aload_n 0, 1) := by decide +kernel
theorem dX4_clear_31 : decode cX4_clear 31 = .ok (.iconst (-1), 1) := by decide +kernel
theorem dX4_clear_32 : decode cX4_clear 32 = .ok (.putfield 30, 3) := by decide +kernel
theorem dX4_clear_35 : decode cX4_clear 35 = .ok (.aload_n 0, 1) := by decide +kernel
theorem dX4_clear_36 : decode cX4_clear 36 = .ok (.iconst 0, 1) := by decide +kernel
theorem dX4_clear_37 : decode cX4_clear 37 = .ok (.putfield 33, 3) := by decide +kernel
theorem dX4_clear_40 : decode cX4_clear 40 = .ok (.aload_n 0, 1) := by decide +kernel
theorem dX4_clear_41 : decode cX4_clear 41 = .ok (.iconst 0, 1) := by decide +kernel
theorem dX4_clear_42 : decode cX4_clear 42 = .ok (.putfield 36, 3) := by decide +kernel
theorem dX4_clear_45 : decode cX4_clear 45 = .ok (.aload_n 0, 1) := by decide +kernel
theorem dX4_clear_46 : decode cX4_clear 46 = .ok (.iconst 0, 1) := by decide +kernel
theorem dX4_clear_47 : decode cX4_clear 47 = .ok (.putfield 39, 3) := by decide +kernel
theorem dX4_clear_50 : decode cX4_clear 50 = .ok (.return_, 1) := by decide +kernel
theorem dX4_takeSettings_0 : decode cX4_takeSettings 0 = .ok (.aload_n 0, 1) := by decide +kernel
theorem dX4_takeSettings_1 : decode cX4_takeSettings 1 = .ok (.aload_n 1, 1) := by decide +kernel
theorem dX4_takeSettings_2 : decode cX4_takeSettings 2 = .ok (.getfield 15, 3) := by decide +kernel
theorem dX4_takeSettings_5 : decode cX4_takeSettings 5 = .ok (.putfield 15, 3) := by decide +kernel
theorem dX4_takeSettings_8 : decode cX4_takeSettings 8 = .ok (.aload_n 0, 1) := by decide +kernel
theorem dX4_takeSettings_9 : decode cX4_takeSettings 9 = .ok (.aload_n 1, 1) := by decide +kernel
theorem dX4_takeSettings_10 : decode cX4_takeSettings 10 = .ok (.getfield 18, 3) := by decide +kernel
theorem dX4_takeSettings_13 : decode cX4_takeSettings 13 = .ok (.putfield 18, 3) := by decide +kernel
theorem dX4_takeSettings_16 : decode cX4_takeSettings 16 = .ok (.aload_n 0, 1) := by decide +kernel
theorem dX4_takeSettings_17 : decode cX4_takeSettings 17 = .ok (.aload_n 1, 1) := by decide +kernel
theorem dX4_takeSettings_18 : decode cX4_takeSettings 18 = .ok (.getfield 21, 3) := by decide +kernel
theorem dX4_takeSettings_21 : decode cX4_takeSettings 21 = .ok (.putfield 21, 3) := by decide +kernel
theorem dX4_takeSettings_24 : decode cX4_takeSettings 24 = .ok (.aload_n 0, 1) := by decide +kernel
theorem dX4_takeSettings_25 : decode cX4_takeSettings 25 = .ok (.aload_n 1, 1) := by decide +kernel
theorem dX4_takeSettings_26 : decode cX4_takeSettings 26 = .ok (.getfield 24, 3) := by decide +kernel
theorem dX4_takeSettings_29 : decode cX4_takeSettings 29 = .ok (.putfield 24, 3) := by decide +kernel
theorem dX4_takeSettings_32 : decode cX4_takeSettings 32 = .ok (.aload_n 0, 1) := by decide +kernel
theorem dX4_takeSettings_33 : decode cX4_takeSettings 33 = .ok (.aload_n 1, 1) := by decide +kernel
theorem dX4_takeSettings_34 : decode cX4_takeSettings 34 = .ok (.getfield 27, 3) := by decide +kernel
theorem dX4_takeSettings_37 : decode cX4_takeSettings 37 = .ok (.putfield 27, 3) := by decide +kernel
theorem dX4_takeSettings_40 : decode cX4_takeSettings 40 = .ok (.aload_n 0, 1) := by decide +kernel
theorem dX4_takeSettings_41 : decode cX4_takeSettings 41 = .ok (.aload_n 1, 1) := by decide +kernel
theorem dX4_takeSettings_42 : decode cX4_takeSettings 42 = .ok (.getfield 30, 3) := by decide +kernel
theorem dX4_takeSettings_45 : decode cX4_takeSettings 45 = .ok (.putfield 30, 3) := by decide +kernel
theorem dX4_takeSettings_48 : decode cX4_takeSettings 48 = .ok (.return_, 1) := by decide +kernel
theorem dX4_isDue_0 : decode cX4_isDue 0 = .ok (.aload_n 0, 1) := by decide +kernel
theorem dX4_isDue_1 : decode cX4_isDue 1 = .ok (.getfield 9, 3) := by decide +kernel
theorem dX4_isDue_4 : decode cX4_isDue 4 = .ok (.iconst 1, 1) := by decide +kernel
theorem dX4_isDue_5 : decode cX4_isDue 5 = .ok (.if_icmp .ne 20, 3) := by decide +kernel
theorem dX4_isDue_8 : decode cX4_isDue 8 = .ok (.iload_n 1, 1) := by decide +kernel
theorem dX4_isDue_9 : decode cX4_isDue 9 = .ok (.aload_n 0, 1) := by decide +kernel
theorem dX4_isDue_10 : decode cX4_isDue 10 = .ok (.getfield 42, 3) := by decide +kernel
theorem dX4_isDue_13 : decode cX4_isDue 13 = .ok (.isub, 1) := by decide +kernel
theorem dX4_isDue_14 : decode cX4_isDue 14 = .ok (.aload_n 0, 1) := by decide +kernel
theorem dX4_isDue_15 : decode cX4_isDue 15 = .ok (.getfield 45, 3) := by decide +kernel
theorem dX4_isDue_18 : decode cX4_isDue 18 = .ok (.if_icmp .lt 7, 3) := by decide +kernel
theorem dX4_isDue_21 : decode cX4_isDue 21 = .ok (.iconst 1, 1) := by decide +kernel
theorem dX4_isDue_22 : decode cX4_isDue 22 = .ok (.goto 4, 3) := by decide +kernel
theorem dX4_isDue_25 : decode cX4_isDue 25 = .ok (.iconst 0, 1) := by decide +kernel
theorem dX4_isDue_26 : decode cX4_isDue 26 = .ok (.ireturn, 1) := by decide +kernel
theorem dX4_enter_0 : decode cX4_enter 0 = .ok (.iload_n 1, 1) := by decide +kernel
theorem dX4_enter_1 : decode cX4_enter 1 = .ok (.aload_n 0, 1) := by decide +kernel
theorem dX4_enter_2 : decode cX4_enter 2 = .ok (.getfield 9, 3) := by decide +kernel
theorem dX4_enter_5 : decode cX4_enter 5 = .ok (.if_icmp .eq 18, 3) := by decide +kernel
theorem dX4_enter_8 : decode cX4_enter 8 = .ok (.iload_n 1, 1) := by decide +kernel
theorem dX4_enter_9 : decode cX4_enter 9 = .ok (.iconst 2, 1) := by decide +kernel
theorem dX4_enter_10 : decode cX4_enter 10 = .ok (.if_icmp .ne 13, 3) := by decide +kernel
theorem dX4_enter_13 : decode cX4_enter 13 = .ok (.aload_n 0, 1) := by decide +kernel
theorem dX4_enter_14 : decode cX4_enter 14 = .ok (.dup, 1) := by decide +kernel
theorem dX4_enter_15 : decode cX4_enter 15 = .ok (.getfield 39, 3) := by decide +kernel
theorem dX4_enter_18 : decode cX4_enter 18 = .ok (.iconst 1, 1) := by decide +kernel
theorem dX4_enter_19 : decode cX4_enter 19 = .ok (.iadd, 1) := by decide +kernel
theorem dX4_enter_20 : decode cX4_enter 20 = .ok (.putfield 39, 3) := by decide +kernel
theorem dX4_enter_23 : decode cX4_enter 23 = .ok (.iload_n 1, 1) := by decide +kernel
theorem dX4_enter_24 : decode cX4_enter 24 = .ok (.aload_n 0, 1) := by decide +kernel
theorem dX4_enter_25 : decode cX4_enter 25 = .ok (.getfield 9, 3) := by decide +kernel
theorem dX4_enter_28 : decode cX4_enter 28 = .ok (.if_icmp .eq 21, 3) := by decide +kernel
theorem dX4_enter_31 : decode cX4_enter 31 = .ok (.iload_n 1, 1) := by decide +kernel
theorem dX4_enter_32 : decode cX4_enter 32 = .ok (.iconst 1, 1) := by decide +kernel
theorem dX4_enter_33 : decode cX4_enter 33 = .ok (.if_icmp .ne 16, 3) := by decide +kernel
theorem dX4_enter_36 : decode cX4_enter 36 = .ok (.aload_n 0, 1) := by decide +kernel
theorem dX4_enter_37 : decode cX4_enter 37 = .ok (.iload_n 2, 1) := by decide +kernel
theorem dX4_enter_38 : decode cX4_enter 38 = .ok (.putfield 42, 3) := by decide +kernel
theorem dX4_enter_41 : decode cX4_enter 41 = .ok (.aload_n 0, 1) := by decide +kernel
theorem dX4_enter_42 : decode cX4_enter 42 = .ok (.aload_n 0, 1) := by decide +kernel
theorem dX4_enter_43 : decode cX4_enter 43 = .ok (.getfield 27, 3) := by decide +kernel
theorem dX4_enter_46 : decode cX4_enter 46 = .ok (.putfield 45, 3) := by decide +kernel
theorem dX4_enter_49 : decode cX4_enter 49 = .ok (.aload_n 0, 1) := by decide +kernel
theorem dX4_enter_50 : decode cX4_enter 50 = .ok (.iload_n 1, 1) := by decide +kernel
theorem dX4_enter_51 : decode cX4_enter 51 = .ok (.putfield 9, 3) := by decide +kernel
theorem dX4_enter_54 : decode cX4_enter 54 = .ok (.return_, 1) := by decide +kernel
theorem dX5_init_0 : decode cX5_init 0 = .ok (.aload_n 0, 1) := by decide +kernel
theorem dX5_init_1 : decode cX5_init 1 = .ok (.invokespecial 1, 3) := by decide +kernel
theorem dX5_init_4 : decode cX5_init 4 = .ok (.aload_n 0, 1) := by decide +kernel
theorem dX5_init_5 : decode cX5_init 5 = .ok (.iload_n 1, 1) := by decide +kernel
theorem dX5_init_6 : decode cX5_init 6 = .ok (.putfield 7, 3) := by decide +kernel
theorem dX5_init_9 : decode cX5_init 9 = .ok (.aload_n 0, 1) := by decide +kernel
theorem dX5_init_10 : decode cX5_init 10 = .ok (.iload_n 2, 1) := by decide +kernel
theorem dX5_init_11 : decode cX5_init 11 = .ok (.putfield 13, 3) := by decide +kernel
theorem dX5_init_14 : decode cX5_init 14 = .ok (.aload_n 0, 1) := by decide +kernel
theorem dX5_init_15 : decode cX5_init 15 = .ok (.iload_n 3, 1) := by decide +kernel
theorem dX5_init_16 : decode cX5_init 16 = .ok (.putfield 16, 3) := by decide +kernel
theorem dX5_init_19 : decode cX5_init 19 = .ok (.aload_n 0, 1) := by decide +kernel
theorem dX5_init_20 : decode cX5_init 20 = .ok (.iload 4, 2) := by decide +kernel
theorem dX5_init_22 : decode cX5_init 22 = .ok (.putfield 19, 3) := by decide +kernel
theorem dX5_init_25 : decode cX5_init 25 = .ok (.aload_n 0, 1) := by decide +kernel
theorem dX5_init_26 : decode cX5_init 26 = .ok (.aload 5, 2) := by decide +kernel
theorem dX5_init_28 : decode cX5_init 28 = .ok (.putfield 22, 3) := by decide +kernel
theorem dX5_init_31 : decode cX5_init 31 = .ok (.aload_n 0, 1) := by decide +kernel
theorem dX5_init_32 : decode cX5_init 32 = .ok (.iload 6, 2) := by decide +kernel
theorem dX5_init_34 : decode cX5_init 34 = .ok (.putfield 26, 3) := by decide +kernel
theorem dX5_init_37 : decode cX5_init 37 = .ok (.return_, 1) := by decide +kernel
theorem dX6_init_0 : decode cX6_init 0 = .ok (.aload_n 0, 1) := by decide +kernel
theorem dX6_init_1 : decode cX6_init 1 = .ok (.invokespecial 3, 3) := by decide +kernel
theorem dX6_init_4 : decode cX6_init 4 = .ok (.aload_n 0, 1) := by decide +kernel
theorem dX6_init_5 : decode cX6_init 5 = .ok (.new 9, 3) := by decide +kernel
theorem dX6_init_8 : decode cX6_init 8 = .ok (.dup, 1) := by decide +kernel
theorem dX6_init_9 : decode cX6_init 9 = .ok (.iconst 1, 1) := by decide +kernel
theorem dX6_init_10 : decode cX6_init 10 = .ok (.newarray .int, 2) := by decide +kernel
theorem dX6_init_12 : decode cX6_init 12 = .ok (.dup, 1) := by decide +kernel
theorem dX6_init_13 : decode cX6_init 13 = .ok (.iconst 0, 1) := by decide +kernel
theorem dX6_init_14 : decode cX6_init 14 = .ok (.iconst 0, 1) := by decide +kernel
theorem dX6_init_15 : decode cX6_init 15 = .ok (.iastore, 1) := by decide +kernel
theorem dX6_init_16 : decode cX6_init 16 = .ok (.iconst 0, 1) := by decide +kernel
theorem dX6_init_17 : decode cX6_init 17 = .ok (.invokespecial 11, 3) := by decide +kernel
theorem dX6_init_20 : decode cX6_init 20 = .ok (.putfield 14, 3) := by decide +kernel
theorem dX6_init_23 : decode cX6_init 23 = .ok (.aload_n 0, 1) := by decide +kernel
theorem dX6_init_24 : decode cX6_init 24 = .ok (.bipush 12, 2) := by decide +kernel
theorem dX6_init_26 : decode cX6_init 26 = .ok (.anewarray 20, 3) := by decide +kernel
theorem dX6_init_29 : decode cX6_init 29 = .ok (.putfield 22, 3) := by decide +kernel
theorem dX6_init_32 : decode cX6_init 32 = .ok (.aload_n 0, 1) := by decide +kernel
theorem dX6_init_33 : decode cX6_init 33 = .ok (.bipush 12, 2) := by decide +kernel
theorem dX6_init_35 : decode cX6_init 35 = .ok (.anewarray 20, 3) := by decide +kernel
theorem dX6_init_38 : decode cX6_init 38 = .ok (.putfield 26, 3) := by decide +kernel
theorem dX6_init_41 : decode cX6_init 41 = .ok (.aload_n 0, 1) := by decide +kernel
theorem dX6_init_42 : decode cX6_init 42 = .ok (.iconst 5, 1) := by decide +kernel
theorem dX6_init_43 : decode cX6_init 43 = .ok (.anewarray 29, 3) := by decide +kernel
theorem dX6_init_46 : decode cX6_init 46 = .ok (.putfield 31, 3) := by decide +kernel
theorem dX6_init_49 : decode cX6_init 49 = .ok (.aload_n 0, 1) := by decide +kernel
theorem dX6_init_50 : decode cX6_init 50 = .ok (.iconst 5, 1) := by decide +kernel
theorem dX6_init_51 : decode cX6_init 51 = .ok (.anewarray 35, 3) := by decide +kernel
theorem dX6_init_54 : decode cX6_init 54 = .ok (.putfield 37, 3) := by decide +kernel
theorem dX6_init_57 : decode cX6_init 57 = .ok (.aload_n 0, 1) := by decide +kernel
theorem dX6_init_58 : decode cX6_init 58 = .ok (.bipush 33, 2) := by decide +kernel
theorem dX6_init_60 : decode cX6_init 60 = .ok (.newarray .int, 2) := by decide +kernel
theorem dX6_init_62 : decode cX6_init 62 = .ok (.putfield 41, 3) := by decide +kernel
theorem dX6_init_65 : decode cX6_init 65 = .ok (.aload_n 0, 1) := by decide +kernel
theorem dX6_init_66 : decode cX6_init 66 = .ok (.iconst 0, 1) := by decide +kernel
theorem dX6_init_67 : decode cX6_init 67 = .ok (.putfield 45, 3) := by decide +kernel
theorem dX6_init_70 : decode cX6_init 70 = .ok (.aload_n 0, 1) := by decide +kernel
theorem dX6_init_71 : decode cX6_init 71 = .ok (.iconst 0, 1) := by decide +kernel
theorem dX6_init_72 : decode cX6_init 72 = .ok (.putfield 49, 3) := by decide +kernel
theorem dX6_init_75 : decode cX6_init 75 = .ok (.aload_n 0, 1) := by decide +kernel
theorem dX6_init_76 : decode cX6_init 76 = .ok (.iconst 0, 1) := by decide +kernel
theorem dX6_init_77 : decode cX6_init 77 = .ok (.putfield 52, 3) := by decide +kernel
theorem dX6_init_80 : decode cX6_init 80 = .ok (.iconst 0, 1) := by decide +kernel
theorem dX6_init_81 : decode cX6_init 81 = .ok (.istore_n 1, 1) := by decide +kernel
theorem dX6_init_82 : decode cX6_init 82 = .ok (.iload_n 1, 1) := by decide +kernel
theorem dX6_init_83 : decode cX6_init 83 = .ok (.bipush 12, 2) := by decide +kernel
theorem dX6_init_85 : decode cX6_init 85 = .ok (.if_icmp .ge 36, 3) := by decide +kernel
theorem dX6_init_88 : decode cX6_init 88 = .ok (.new 20, 3) := by decide +kernel
theorem dX6_init_91 : decode cX6_init 91 = .ok (.dup, 1) := by decide +kernel
theorem dX6_init_92 : decode cX6_init 92 = .ok (.iload_n 1, 1) := by decide +kernel
theorem dX6_init_93 : decode cX6_init 93 = .ok (.aload_n 0, 1) := by decide +kernel
theorem dX6_init_94 : decode cX6_init 94 = .ok (.getfield 14, 3) := by decide +kernel
theorem dX6_init_97 : decode cX6_init 97 = .ok (.invokespecial 55, 3) := by decide +kernel
theorem dX6_init_100 : decode cX6_init 100 = .ok (.astore_n 2, 1) := by decide +kernel
theorem dX6_init_101 : decode cX6_init 101 = .ok (.aload_n 0, 1) := by decide +kernel
theorem dX6_init_102 : decode cX6_init 102 = .ok (.getfield 22, 3) := by decide +kernel
theorem dX6_init_105 : decode cX6_init 105 = .ok (.iload_n 1, 1) := by decide +kernel
theorem dX6_init_106 : decode cX6_init 106 = .ok (.aload_n 2, 1) := by decide +kernel
theorem dX6_init_107 : decode cX6_init 107 = .ok (.aastore, 1) := by decide +kernel
theorem dX6_init_108 : decode cX6_init 108 = .ok (.aload_n 0, 1) := by decide +kernel
theorem dX6_init_109 : decode cX6_init 109 = .ok (.getfield 26, 3) := by decide +kernel
theorem dX6_init_112 : decode cX6_init 112 = .ok (.iload_n 1, 1) := by decide +kernel
theorem dX6_init_113 : decode cX6_init 113 = .ok (.aload_n 2, 1) := by decide +kernel
theorem dX6_init_114 : decode cX6_init 114 = .ok (.aastore, 1) := by decide +kernel
theorem dX6_init_115 : decode cX6_init 115 = .ok (.iinc 1 1, 3) := by decide +kernel
theorem dX6_init_118 : decode cX6_init 118 = .ok (.goto (-36), 3) := by decide +kernel
theorem dX6_init_121 : decode cX6_init 121 = .ok (.iconst 0, 1) := by decide +kernel
theorem dX6_init_122 : decode cX6_init 122 = .ok (.istore_n 1, 1) := by decide +kernel
theorem dX6_init_123 : decode cX6_init 123 = .ok (.iload_n 1, 1) := by decide +kernel
theorem dX6_init_124 : decode cX6_init 124 = .ok (.iconst 5, 1) := by decide +kernel
theorem dX6_init_125 : decode cX6_init 125 = .ok (.if_icmp .ge 22, 3) := by decide +kernel
theorem dX6_init_128 : decode cX6_init 128 = .ok (.aload_n 0, 1) := by decide +kernel
theorem dX6_init_129 : decode cX6_init 129 = .ok (.getfield 31, 3) := by decide +kernel
theorem dX6_init_132 : decode cX6_init 132 = .ok (.iload_n 1, 1) := by decide +kernel
theorem dX6_init_133 : decode cX6_init 133 = .ok (.new 29, 3) := by decide +kernel
theorem dX6_init_136 : decode cX6_init 136 = .ok (.dup, 1) := by decide +kernel
theorem dX6_init_137 : decode cX6_init 137 = .ok (.invokespecial 58, 3) := by decide +kernel
theorem dX6_init_140 : decode cX6_init 140 = .ok (.aastore, 1) := by decide +kernel
theorem dX6_init_141 : decode cX6_init 141 = .ok (.iinc 1 1, 3) := by decide +kernel
theorem dX6_init_144 : decode cX6_init 144 = .ok (.goto (-21), 3) := by decide +kernel
theorem dX6_init_147 : decode cX6_init 147 = .ok (.iconst 0, 1) := by decide +kernel
theorem dX6_init_148 : decode cX6_init 148 = .ok (.istore_n 1, 1) := by decide +kernel
theorem dX6_init_149 : decode cX6_init 149 = .ok (.iload_n 1, 1) := by decide +kernel
theorem dX6_init_150 : decode cX6_init 150 = .ok (.iconst 5, 1) := by decide +kernel
theorem dX6_init_151 : decode cX6_init 151 = .ok (.if_icmp .ge 23, 3) := by decide +kernel
theorem dX6_init_154 : decode cX6_init 154 = .ok (.aload_n 0, 1) := by decide +kernel
theorem dX6_init_155 : decode cX6_init 155 = .ok (.getfield 37, 3) := by decide +kernel
theorem dX6_init_158 : decode cX6_init 158 = .ok (.iload_n 1, 1) := by decide +kernel
theorem dX6_init_159 : decode cX6_init 159 = .ok (.new 35, 3) := by decide +kernel
theorem dX6_init_162 : decode cX6_init 162 = .ok (.dup, 1) := by decide +kernel
theorem dX6_init_163 : decode cX6_init 163 = .ok (.iload_n 1, 1) := by decide +kernel
theorem dX6_init_164 : decode cX6_init 164 = .ok (.invokespecial 59, 3) := by decide +kernel
theorem dX6_init_167 : decode cX6_init 167 = .ok (.aastore, 1) := by decide +kernel
theorem dX6_init_168 : decode cX6_init 168 = .ok (.iinc 1 1, 3) := by decide +kernel
theorem dX6_init_171 : decode cX6_init 171 = .ok (.goto (-22), 3) := by decide +kernel
theorem dX6_init_174 : decode cX6_init 174 = .ok (.return_, 1) := by decide +kernel
theorem dX6_clear_0 : decode cX6_clear 0 = .ok (.aload_n 0, 1) := by decide +kernel
theorem dX6_clear_1 : decode cX6_clear 1 = .ok (.getfield 22, 3) := by decide +kernel
theorem dX6_clear_4 : decode cX6_clear 4 = .ok (.astore_n 1, 1) := by decide +kernel
theorem dX6_clear_5 : decode cX6_clear 5 = .ok (.aload_n 1, 1) := by decide +kernel
theorem dX6_clear_6 : decode cX6_clear 6 = .ok (.arraylength, 1) := by decide +kernel
theorem dX6_clear_7 : decode cX6_clear 7 = .ok (.istore_n 2, 1) := by decide +kernel
theorem dX6_clear_8 : decode cX6_clear 8 = .ok (.iconst 0, 1) := by decide +kernel
theorem dX6_clear_9 : decode cX6_clear 9 = .ok (.istore_n 3, 1) := by decide +kernel
theorem dX6_clear_10 : decode cX6_clear 10 = .ok (.iload_n 3, 1) := by decide +kernel
theorem dX6_clear_11 : decode cX6_clear 11 = .ok (.iload_n 2, 1) := by decide +kernel
theorem dX6_clear_12 : decode cX6_clear 12 = .ok (.if_icmp .ge 35, 3) := by decide +kernel
theorem dX6_clear_15 : decode cX6_clear 15 = .ok (.aload_n 1, 1) := by decide +kernel
theorem dX6_clear_16 : decode cX6_clear 16 = .ok (.iload_n 3, 1) := by decide +kernel
theorem dX6_clear_17 : decode cX6_clear 17 = .ok (.aaload, 1) := by decide +kernel
theorem dX6_clear_18 : decode cX6_clear 18 = .ok (.astore 4, 2) := by decide +kernel
theorem dX6_clear_20 : decode cX6_clear 20 = .ok (.aload 4, 2) := by decide +kernel
theorem dX6_clear_22 : decode cX6_clear 22 = .ok (.aload_n 0, 1) := by decide +kernel
theorem dX6_clear_23 : decode cX6_clear 23 = .ok (.getfield 14, 3) := by decide +kernel
theorem dX6_clear_26 : decode cX6_clear 26 = .ok (.putfield 62, 3) := by decide +kernel
theorem dX6_clear_29 : decode cX6_clear 29 = .ok (.aload 4, 2) := by decide +kernel
theorem dX6_clear_31 : decode cX6_clear 31 = .ok (.iconst 0, 1) := by decide +kernel
theorem dX6_clear_32 : decode cX6_clear 32 = .ok (.putfield 65, 3) := by decide +kernel
theorem dX6_clear_35 : decode cX6_clear 35 = .ok (.aload 4, 2) := by decide +kernel
theorem dX6_clear_37 : decode cX6_clear 37 = .ok (.iconst 0, 1) := by decide +kernel
theorem dX6_clear_38 : decode cX6_clear 38 = .ok (.putfield 68, 3) := by decide +kernel
theorem dX6_clear_41 : decode cX6_clear 41 = .ok (.iinc 3 1, 3) := by decide +kernel
theorem dX6_clear_44 : decode cX6_clear 44 = .ok (.goto (-34), 3) := by decide +kernel
theorem dX6_clear_47 : decode cX6_clear 47 = .ok (.aload_n 0, 1) := by decide +kernel
theorem dX6_clear_48 : decode cX6_clear 48 = .ok (.getfield 31, 3) := by decide +kernel
theorem dX6_clear_51 : decode cX6_clear 51 = .ok (.astore_n 1, 1) := by decide +kernel
theorem dX6_clear_52 : decode cX6_clear 52 = .ok (.aload_n 1, 1) := by decide +kernel
theorem dX6_clear_53 : decode cX6_clear 53 = .ok (.arraylength, 1) := by decide +kernel
theorem dX6_clear_54 : decode cX6_clear 54 = .ok (.istore_n 2, 1) := by decide +kernel
theorem dX6_clear_55 : decode cX6_clear 55 = .ok (.iconst 0, 1) := by decide +kernel
theorem dX6_clear_56 : decode cX6_clear 56 = .ok (.istore_n 3, 1) := by decide +kernel
theorem dX6_clear_57 : decode cX6_clear 57 = .ok (.iload_n 3, 1) := by decide +kernel
theorem dX6_clear_58 : decode cX6_clear 58 = .ok (.iload_n 2, 1) := by decide +kernel
theorem dX6_clear_59 : decode cX6_clear 59 = .ok (.if_icmp .ge 26, 3) := by decide +kernel
theorem dX6_clear_62 : decode cX6_clear 62 = .ok (.aload_n 1, 1) := by decide +kernel
theorem dX6_clear_63 : decode cX6_clear 63 = .ok (.iload_n 3, 1) := by decide +kernel
theorem dX6_clear_64 : decode cX6_clear 64 = .ok (.aaload, 1) := by decide +kernel
theorem dX6_clear_65 : decode cX6_clear 65 = .ok (.astore 4, 2) := by decide +kernel
theorem dX6_clear_67 : decode cX6_clear 67 = .ok (.aload 4, 2) := by decide +kernel
theorem dX6_clear_69 : decode cX6_clear 69 = .ok (.iconst 0, 1) := by decide +kernel
theorem dX6_clear_70 : decode cX6_clear 70 = .ok (.putfield 72, 3) := by decide +kernel
theorem dX6_clear_73 : decode cX6_clear 73 = .ok (.aload 4, 2) := by decide +kernel
theorem dX6_clear_75 : decode cX6_clear 75 = .ok (.iconst (-1), 1) := by decide +kernel
theorem dX6_clear_76 : decode cX6_clear 76 = .ok (.putfield 73, 3) := by decide +kernel
theorem dX6_clear_79 : decode cX6_clear 79 = .ok (.iinc 3 1, 3) := by decide +kernel
theorem dX6_clear_82 : decode cX6_clear 82 = .ok (.goto (-25), 3) := by decide +kernel
theorem dX6_clear_85 : decode cX6_clear 85 = .ok (.aload_n 0, 1) := by decide +kernel
theorem dX6_clear_86 : decode cX6_clear 86 = .ok (.getfield 37, 3) := by decide +kernel
theorem dX6_clear_89 : decode cX6_clear 89 = .ok (.astore_n 1, 1) := by decide +kernel
theorem dX6_clear_90 : decode cX6_clear 90 = .ok (.aload_n 1, 1) := by decide +kernel
theorem dX6_clear_91 : decode cX6_clear 91 = .ok (.arraylength, 1) := by decide +kernel
theorem dX6_clear_92 : decode cX6_clear 92 = .ok (.istore_n 2, 1) := by decide +kernel
theorem dX6_clear_93 : decode cX6_clear 93 = .ok (.iconst 0, 1) := by decide +kernel
theorem dX6_clear_94 : decode cX6_clear 94 = .ok (.istore_n 3, 1) := by decide +kernel
theorem dX6_clear_95 : decode cX6_clear 95 = .ok (.iload_n 3, 1) := by decide +kernel
theorem dX6_clear_96 : decode cX6_clear 96 = .ok (.iload_n 2, 1) := by decide +kernel
theorem dX6_clear_97 : decode cX6_clear 97 = .ok (.if_icmp .ge 19, 3) := by decide +kernel
theorem dX6_clear_100 : decode cX6_clear 100 = .ok (.aload_n 1, 1) := by decide +kernel
theorem dX6_clear_101 : decode cX6_clear 101 = .ok (.iload_n 3, 1) := by decide +kernel
theorem dX6_clear_102 : decode cX6_clear 102 = .ok (.aaload, 1) := by decide +kernel
theorem dX6_clear_103 : decode cX6_clear 103 = .ok (.astore 4, 2) := by decide +kernel
theorem dX6_clear_105 : decode cX6_clear 105 = .ok (.aload 4, 2) := by decide +kernel
theorem dX6_clear_107 : decode cX6_clear 107 = .ok (.invokevirtual 76, 3) := by decide +kernel
theorem dX6_clear_110 : decode cX6_clear 110 = .ok (.iinc 3 1, 3) := by decide +kernel
theorem dX6_clear_113 : decode cX6_clear 113 = .ok (.goto (-18), 3) := by decide +kernel
theorem dX6_clear_116 : decode cX6_clear 116 = .ok (.aload_n 0, 1) := by decide +kernel
theorem dX6_clear_117 : decode cX6_clear 117 = .ok (.iconst 0, 1) := by decide +kernel
theorem dX6_clear_118 : decode cX6_clear 118 = .ok (.putfield 45, 3) := by decide +kernel
theorem dX6_clear_121 : decode cX6_clear 121 = .ok (.aload_n 0, 1) := by decide +kernel
theorem dX6_clear_122 : decode cX6_clear 122 = .ok (.iconst 0, 1) := by decide +kernel
theorem dX6_clear_123 : decode cX6_clear 123 = .ok (.putfield 49, 3) := by decide +kernel
theorem dX6_clear_126 : decode cX6_clear 126 = .ok (.aload_n 0, 1) := by decide +kernel
theorem dX6_clear_127 : decode cX6_clear 127 = .ok (.iconst 0, 1) := by decide +kernel
theorem dX6_clear_128 : decode cX6_clear 128 = .ok (.putfield 52, 3) := by decide +kernel
theorem dX6_clear_131 : decode cX6_clear 131 = .ok (.aload_n 0, 1) := by decide +kernel
theorem dX6_clear_132 : decode cX6_clear 132 = .ok (.invokevirtual 79, 3) := by decide +kernel
theorem dX6_clear_135 : decode cX6_clear 135 = .ok (.return_, 1) := by decide +kernel
theorem dX6_takeSettings_0 : decode cX6_takeSettings 0 = .ok (.aload_n 0, 1) := by decide +kernel
theorem dX6_takeSettings_1 : decode cX6_takeSettings 1 = .ok (.invokevirtual 82, 3) := by decide +kernel
theorem dX6_takeSettings_4 : decode cX6_takeSettings 4 = .ok (.aload_n 0, 1) := by decide +kernel
theorem dX6_takeSettings_5 : decode cX6_takeSettings 5 = .ok (.iload_n 2, 1) := by decide +kernel
theorem dX6_takeSettings_6 : decode cX6_takeSettings 6 = .ok (.putfield 49, 3) := by decide +kernel
theorem dX6_takeSettings_9 : decode cX6_takeSettings 9 = .ok (.iconst 0, 1) := by decide +kernel
theorem dX6_takeSettings_10 : decode cX6_takeSettings 10 = .ok (.istore_n 3, 1) := by decide +kernel
theorem dX6_takeSettings_11 : decode cX6_takeSettings 11 = .ok (.iload_n 3, 1) := by decide +kernel
theorem dX6_takeSettings_12 : decode cX6_takeSettings 12 = .ok (.bipush 12, 2) := by decide +kernel
theorem dX6_takeSettings_14 : decode cX6_takeSettings 14 = .ok (.if_icmp .ge 92, 3) := by decide +kernel
theorem dX6_takeSettings_17 : decode cX6_takeSettings 17 = .ok (.aload_n 0, 1) := by decide +kernel
theorem dX6_takeSettings_18 : decode cX6_takeSettings 18 = .ok (.getfield 22, 3) := by decide +kernel
theorem dX6_takeSettings_21 : decode cX6_takeSettings 21 = .ok (.iload_n 3, 1) := by decide +kernel
theorem dX6_takeSettings_22 : decode cX6_takeSettings 22 = .ok (.aaload, 1) := by decide +kernel
theorem dX6_takeSettings_23 : decode cX6_takeSettings 23 = .ok (.astore 4, 2) := by decide +kernel
theorem dX6_takeSettings_25 : decode cX6_takeSettings 25 = .ok (.aload_n 1, 1) := by decide +kernel
theorem dX6_takeSettings_26 : decode cX6_takeSettings 26 = .ok (.getfield 22, 3) := by decide +kernel
theorem dX6_takeSettings_29 : decode cX6_takeSettings 29 = .ok (.iload_n 3, 1) := by decide +kernel
theorem dX6_takeSettings_30 : decode cX6_takeSettings 30 = .ok (.aaload, 1) := by decide +kernel
theorem dX6_takeSettings_31 : decode cX6_takeSettings 31 = .ok (.astore 5, 2) := by decide +kernel
theorem dX6_takeSettings_33 : decode cX6_takeSettings 33 = .ok (.aload 4, 2) := by decide +kernel
theorem dX6_takeSettings_35 : decode cX6_takeSettings 35 = .ok (.aload 5, 2) := by decide +kernel
theorem dX6_takeSettings_37 : decode cX6_takeSettings 37 = .ok (.getfield 62, 3) := by decide +kernel
theorem dX6_takeSettings_40 : decode cX6_takeSettings 40 = .ok (.putfield 62, 3) := by decide +kernel
theorem dX6_takeSettings_43 : decode cX6_takeSettings 43 = .ok (.aload 4, 2) := by decide +kernel
theorem dX6_takeSettings_45 : decode cX6_takeSettings 45 = .ok (.aload 5, 2) := by decide +kernel
theorem dX6_takeSettings_47 : decode cX6_takeSettings 47 = .ok (.getfield 68, 3) := by decide +kernel
theorem dX6_takeSettings_50 : decode cX6_takeSettings 50 = .ok (.putfield 68, 3) := by decide +kernel
theorem dX6_takeSettings_53 : decode cX6_takeSettings 53 = .ok (.aload 4, 2) := by decide +kernel
theorem dX6_takeSettings_55 : decode cX6_takeSettings 55 = .ok (.aload 5, 2) := by decide +kernel
theorem dX6_takeSettings_57 : decode cX6_takeSettings 57 = .ok (.getfield 68, 3) := by decide +kernel
theorem dX6_takeSettings_60 : decode cX6_takeSettings 60 = .ok (.ifCond .eq 11, 3) := by decide +kernel
theorem dX6_takeSettings_63 : decode cX6_takeSettings 63 = .ok (.aload 5, 2) := by decide +kernel
theorem dX6_takeSettings_65 : decode cX6_takeSettings 65 = .ok (.getfield 65, 3) := by decide +kernel
theorem dX6_takeSettings_68 : decode cX6_takeSettings 68 = .ok (.goto 4, 3) := by decide +kernel
theorem dX6_takeSettings_71 : decode cX6_takeSettings 71 = .ok (.iconst 0, 1) := by decide +kernel
theorem dX6_takeSettings_72 : decode cX6_takeSettings 72 = .ok (.putfield 65, 3) := by decide +kernel
theorem dX6_takeSettings_75 : decode cX6_takeSettings 75 = .ok (.aload_n 0, 1) := by decide +kernel
theorem dX6_takeSettings_76 : decode cX6_takeSettings 76 = .ok (.dup, 1) := by decide +kernel
theorem dX6_takeSettings_77 : decode cX6_takeSettings 77 = .ok (.getfield 45, 3) := by decide +kernel
theorem dX6_takeSettings_80 : decode cX6_takeSettings 80 = .ok (.aload 5, 2) := by decide +kernel
theorem dX6_takeSettings_82 : decode cX6_takeSettings 82 = .ok (.getfield 68, 3) := by decide +kernel
theorem dX6_takeSettings_85 : decode cX6_takeSettings 85 = .ok (.ifCond .eq 7, 3) := by decide +kernel
theorem dX6_takeSettings_88 : decode cX6_takeSettings 88 = .ok (.iconst 0, 1) := by decide +kernel
theorem dX6_takeSettings_89 : decode cX6_takeSettings 89 = .ok (.goto 7, 3) := by decide +kernel
theorem dX6_takeSettings_92 : decode cX6_takeSettings 92 = .ok (.iload_n 3, 1) := by decide +kernel
theorem dX6_takeSettings_93 : decode cX6_takeSettings 93 = .ok (.invokestatic 83, 3) := by decide +kernel
theorem dX6_takeSettings_96 : decode cX6_takeSettings 96 = .ok (.ior, 1) := by decide +kernel
theorem dX6_takeSettings_97 : decode cX6_takeSettings 97 = .ok (.putfield 45, 3) := by decide +kernel
theorem dX6_takeSettings_100 : decode cX6_takeSettings 100 = .ok (.iinc 3 1, 3) := by decide +kernel
theorem dX6_takeSettings_103 : decode cX6_takeSettings 103 = .ok (.goto (-92), 3) := by decide +kernel
theorem dX6_takeSettings_106 : decode cX6_takeSettings 106 = .ok (.iconst 0, 1) := by decide +kernel
theorem dX6_takeSettings_107 : decode cX6_takeSettings 107 = .ok (.istore_n 3, 1) := by decide +kernel
theorem dX6_takeSettings_108 : decode cX6_takeSettings 108 = .ok (.iload_n 3, 1) := by decide +kernel
theorem dX6_takeSettings_109 : decode cX6_takeSettings 109 = .ok (.iconst 5, 1) := by decide +kernel
theorem dX6_takeSettings_110 : decode cX6_takeSettings 110 = .ok (.if_icmp .ge 24, 3) := by decide +kernel
theorem dX6_takeSettings_113 : decode cX6_takeSettings 113 = .ok (.aload_n 0, 1) := by decide +kernel
theorem dX6_takeSettings_114 : decode cX6_takeSettings 114 = .ok (.getfield 37, 3) := by decide +kernel
theorem dX6_takeSettings_117 : decode cX6_takeSettings 117 = .ok (.iload_n 3, 1) := by decide +kernel
theorem dX6_takeSettings_118 : decode cX6_takeSettings 118 = .ok (.aaload, 1) := by decide +kernel
theorem dX6_takeSettings_119 : decode cX6_takeSettings 119 = .ok (.aload_n 1, 1) := by decide +kernel
theorem dX6_takeSettings_120 : decode cX6_takeSettings 120 = .ok (.getfield 37, 3) := by decide +kernel
theorem dX6_takeSettings_123 : decode cX6_takeSettings 123 = .ok (.iload_n 3, 1) := by decide +kernel
theorem dX6_takeSettings_124 : decode cX6_takeSettings 124 = .ok (.aaload, 1) := by decide +kernel
theorem dX6_takeSettings_125 : decode cX6_takeSettings 125 = .ok (.invokevirtual 87, 3) := by decide +kernel
theorem dX6_takeSettings_128 : decode cX6_takeSettings 128 = .ok (.iinc 3 1, 3) := by decide +kernel
theorem dX6_takeSettings_131 : decode cX6_takeSettings 131 = .ok (.goto (-23), 3) := by decide +kernel
theorem dX6_takeSettings_134 : decode cX6_takeSettings 134 = .ok (.aload_n 0, 1) := by decide +kernel
theorem dX6_takeSettings_135 : decode cX6_takeSettings 135 = .ok (.invokevirtual 79, 3) := by decide +kernel
theorem dX6_takeSettings_138 : decode cX6_takeSettings 138 = .ok (.return_, 1) := by decide +kernel
theorem dX6_tell_0 : decode cX6_tell 0 = .ok (.aload_n 1, 1) := by decide +kernel
theorem dX6_tell_1 : decode cX6_tell 1 = .ok (.getfield 91, 3) := by decide +kernel
theorem dX6_tell_4 : decode cX6_tell 4 = .ok (.bipush 10, 2) := by decide +kernel
theorem dX6_tell_6 : decode cX6_tell 6 = .ok (.if_icmp .eq 13, 3) := by decide +kernel
theorem dX6_tell_9 : decode cX6_tell 9 = .ok (.aload_n 0, 1) := by decide +kernel
theorem dX6_tell_10 : decode cX6_tell 10 = .ok (.aload_n 1, 1) := by decide +kernel
theorem dX6_tell_11 : decode cX6_tell 11 = .ok (.invokevirtual 96, 3) := by decide +kernel
theorem dX6_tell_14 : decode cX6_tell 14 = .ok (.aload_n 0, 1) := by decide +kernel
theorem dX6_tell_15 : decode cX6_tell 15 = .ok (.invokevirtual 100, 3) := by decide +kernel
theorem dX6_tell_18 : decode cX6_tell 18 = .ok (.ireturn, 1) := by decide +kernel
theorem dX6_tell_19 : decode cX6_tell 19 = .ok (.iconst 0, 1) := by decide +kernel
theorem dX6_tell_20 : decode cX6_tell 20 = .ok (.istore_n 2, 1) := by decide +kernel
theorem dX6_tell_21 : decode cX6_tell 21 = .ok (.iconst 0, 1) := by decide +kernel
theorem dX6_tell_22 : decode cX6_tell 22 = .ok (.istore_n 3, 1) := by decide +kernel
theorem dX6_tell_23 : decode cX6_tell 23 = .ok (.iload_n 3, 1) := by decide +kernel
theorem dX6_tell_24 : decode cX6_tell 24 = .ok (.aload_n 1, 1) := by decide +kernel
theorem dX6_tell_25 : decode cX6_tell 25 = .ok (.getfield 104, 3) := by decide +kernel
theorem dX6_tell_28 : decode cX6_tell 28 = .ok (.if_icmp .ge 37, 3) := by decide +kernel
theorem dX6_tell_31 : decode cX6_tell 31 = .ok (.aload_n 0, 1) := by decide +kernel
theorem dX6_tell_32 : decode cX6_tell 32 = .ok (.dup, 1) := by decide +kernel
theorem dX6_tell_33 : decode cX6_tell 33 = .ok (.getfield 49, 3) := by decide +kernel
theorem dX6_tell_36 : decode cX6_tell 36 = .ok (.iconst 1, 1) := by decide +kernel
theorem dX6_tell_37 : decode cX6_tell 37 = .ok (.iadd, 1) := by decide +kernel
theorem dX6_tell_38 : decode cX6_tell 38 = .ok (.putfield 49, 3) := by decide +kernel
theorem dX6_tell_41 : decode cX6_tell 41 = .ok (.iload_n 2, 1) := by decide +kernel
theorem dX6_tell_42 : decode cX6_tell 42 = .ok (.aload_n 0, 1) := by decide +kernel
theorem dX6_tell_43 : decode cX6_tell 43 = .ok (.invokevirtual 107, 3) := by decide +kernel
theorem dX6_tell_46 : decode cX6_tell 46 = .ok (.ifCond .eq 10, 3) := by decide +kernel
theorem dX6_tell_49 : decode cX6_tell 49 = .ok (.aload_n 0, 1) := by decide +kernel
theorem dX6_tell_50 : decode cX6_tell 50 = .ok (.invokevirtual 100, 3) := by decide +kernel
theorem dX6_tell_53 : decode cX6_tell 53 = .ok (.goto 4, 3) := by decide +kernel
theorem dX6_tell_56 : decode cX6_tell 56 = .ok (.iconst 1, 1) := by decide +kernel
theorem dX6_tell_57 : decode cX6_tell 57 = .ok (.iadd, 1) := by decide +kernel
theorem dX6_tell_58 : decode cX6_tell 58 = .ok (.istore_n 2, 1) := by decide +kernel
theorem dX6_tell_59 : decode cX6_tell 59 = .ok (.iinc 3 1, 3) := by decide +kernel
theorem dX6_tell_62 : decode cX6_tell 62 = .ok (.goto (-39), 3) := by decide +kernel
theorem dX6_tell_65 : decode cX6_tell 65 = .ok (.iload_n 2, 1) := by decide +kernel
theorem dX6_tell_66 : decode cX6_tell 66 = .ok (.ireturn, 1) := by decide +kernel
theorem dX6_change_0 : decode cX6_change 0 = .ok (.aload_n 1, 1) := by decide +kernel
theorem dX6_change_1 : decode cX6_change 1 = .ok (.getfield 91, 3) := by decide +kernel
theorem dX6_change_4 : decode cX6_change 4 = .ok (.iconst 3, 1) := by decide +kernel
theorem dX6_change_5 : decode cX6_change 5 = .ok (.if_icmp .ne 11, 3) := by decide +kernel
theorem dX6_change_8 : decode cX6_change 8 = .ok (.aload_n 0, 1) := by decide +kernel
theorem dX6_change_9 : decode cX6_change 9 = .ok (.aload_n 1, 1) := by decide +kernel
theorem dX6_change_10 : decode cX6_change 10 = .ok (.invokevirtual 111, 3) := by decide +kernel
theorem dX6_change_13 : decode cX6_change 13 = .ok (.goto 24, 3) := by decide +kernel
theorem dX6_change_16 : decode cX6_change 16 = .ok (.aload_n 1, 1) := by decide +kernel
theorem dX6_change_17 : decode cX6_change 17 = .ok (.getfield 91, 3) := by decide +kernel
theorem dX6_change_20 : decode cX6_change 20 = .ok (.iconst 3, 1) := by decide +kernel
theorem dX6_change_21 : decode cX6_change 21 = .ok (.if_icmp .ge 11, 3) := by decide +kernel
theorem dX6_change_24 : decode cX6_change 24 = .ok (.aload_n 0, 1) := by decide +kernel
theorem dX6_change_25 : decode cX6_change 25 = .ok (.aload_n 1, 1) := by decide +kernel
theorem dX6_change_26 : decode cX6_change 26 = .ok (.invokevirtual 114, 3) := by decide +kernel
theorem dX6_change_29 : decode cX6_change 29 = .ok (.goto 8, 3) := by decide +kernel
theorem dX6_change_32 : decode cX6_change 32 = .ok (.aload_n 0, 1) := by decide +kernel
theorem dX6_change_33 : decode cX6_change 33 = .ok (.aload_n 1, 1) := by decide +kernel
theorem dX6_change_34 : decode cX6_change 34 = .ok (.invokevirtual 117, 3) := by decide +kernel
theorem dX6_change_37 : decode cX6_change 37 = .ok (.return_, 1) := by decide +kernel
theorem dX6_isStartDue_0 : decode cX6_isStartDue 0 = .ok (.aload_n 0, 1) := by decide +kernel
theorem dX6_isStartDue_1 : decode cX6_isStartDue 1 = .ok (.getfield 37, 3) := by decide +kernel
theorem dX6_isStartDue_4 : decode cX6_isStartDue 4 = .ok (.astore_n 1, 1) := by decide +kernel
theorem dX6_isStartDue_5 : decode cX6_isStartDue 5 = .ok (.aload_n 1, 1) := by decide +kernel
theorem dX6_isStartDue_6 : decode cX6_isStartDue 6 = .ok (.arraylength, 1) := by decide +kernel
theorem dX6_isStartDue_7 : decode cX6_isStartDue 7 = .ok (.istore_n 2, 1) := by decide +kernel
theorem dX6_isStartDue_8 : decode cX6_isStartDue 8 = .ok (.iconst 0, 1) := by decide +kernel
theorem dX6_isStartDue_9 : decode cX6_isStartDue 9 = .ok (.istore_n 3, 1) := by decide +kernel
theorem dX6_isStartDue_10 : decode cX6_isStartDue 10 = .ok (.iload_n 3, 1) := by decide +kernel
theorem dX6_isStartDue_11 : decode cX6_isStartDue 11 = .ok (.iload_n 2, 1) := by decide +kernel
theorem dX6_isStartDue_12 : decode cX6_isStartDue 12 = .ok (.if_icmp .ge 28, 3) := by decide +kernel
theorem dX6_isStartDue_15 : decode cX6_isStartDue 15 = .ok (.aload_n 1, 1) := by decide +kernel
theorem dX6_isStartDue_16 : decode cX6_isStartDue 16 = .ok (.iload_n 3, 1) := by decide +kernel
theorem dX6_isStartDue_17 : decode cX6_isStartDue 17 = .ok (.aaload, 1) := by decide +kernel
theorem dX6_isStartDue_18 : decode cX6_isStartDue 18 = .ok (.astore 4, 2) := by decide +kernel
theorem dX6_isStartDue_20 : decode cX6_isStartDue 20 = .ok (.aload 4, 2) := by decide +kernel
theorem dX6_isStartDue_22 : decode cX6_isStartDue 22 = .ok (.aload_n 0, 1) := by decide +kernel
theorem dX6_isStartDue_23 : decode cX6_isStartDue 23 = .ok (.getfield 49, 3) := by decide +kernel
theorem dX6_isStartDue_26 : decode cX6_isStartDue 26 = .ok (.invokevirtual 120, 3) := by decide +kernel
theorem dX6_isStartDue_29 : decode cX6_isStartDue 29 = .ok (.ifCond .eq 5, 3) := by decide +kernel
theorem dX6_isStartDue_32 : decode cX6_isStartDue 32 = .ok (.iconst 1, 1) := by decide +kernel
theorem dX6_isStartDue_33 : decode cX6_isStartDue 33 = .ok (.ireturn, 1) := by decide +kernel
theorem dX6_isStartDue_34 : decode cX6_isStartDue 34 = .ok (.iinc 3 1, 3) := by decide +kernel
theorem dX6_isStartDue_37 : decode cX6_isStartDue 37 = .ok (.goto (-27), 3) := by decide +kernel
theorem dX6_isStartDue_40 : decode cX6_isStartDue 40 = .ok (.iconst 0, 1) := by decide +kernel
theorem dX6_isStartDue_41 : decode cX6_isStartDue 41 = .ok (.ireturn, 1) := by decide +kernel
theorem dX6_changeReading_0 : decode cX6_changeReading 0 = .ok (.aload_n 1, 1) := by decide +kernel
theorem dX6_changeReading_1 : decode cX6_changeReading 1 = .ok (.getfield 104, 3) := by decide +kernel
theorem dX6_changeReading_4 : decode cX6_changeReading 4 = .ok (.ifCond .lt 15, 3) := by decide +kernel
theorem dX6_changeReading_7 : decode cX6_changeReading 7 = .ok (.aload_n 1, 1) := by decide +kernel
theorem dX6_changeReading_8 : decode cX6_changeReading 8 = .ok (.getfield 104, 3) := by decide +kernel
theorem dX6_changeReading_11 : decode cX6_changeReading 11 = .ok (.aload_n 0, 1) := by decide +kernel
theorem dX6_changeReading_12 : decode cX6_changeReading 12 = .ok (.getfield 31, 3) := by decide +kernel
theorem dX6_changeReading_15 : decode cX6_changeReading 15 = .ok (.arraylength, 1) := by decide +kernel
theorem dX6_changeReading_16 : decode cX6_changeReading 16 = .ok (.if_icmp .lt 4, 3) := by decide +kernel
theorem dX6_changeReading_19 : decode cX6_changeReading 19 = .ok (.return_, 1) := by decide +kernel
theorem dX6_changeReading_20 : decode cX6_changeReading 20 = .ok (.aload_n 0, 1) := by decide +kernel
theorem dX6_changeReading_21 : decode cX6_changeReading 21 = .ok (.getfield 31, 3) := by decide +kernel
theorem dX6_changeReading_24 : decode cX6_changeReading 24 = .ok (.aload_n 1, 1) := by decide +kernel
theorem dX6_changeReading_25 : decode cX6_changeReading 25 = .ok (.getfield 104, 3) := by decide +kernel
theorem dX6_changeReading_28 : decode cX6_changeReading 28 = .ok (.aaload, 1) := by decide +kernel
theorem dX6_changeReading_29 : decode cX6_changeReading 29 = .ok (.astore_n 2, 1) := by decide +kernel
theorem dX6_changeReading_30 : decode cX6_changeReading 30 = .ok (.aload_n 2, 1) := by decide +kernel
theorem dX6_changeReading_31 : decode cX6_changeReading 31 = .ok (.aload_n 0, 1) := by decide +kernel
theorem dX6_changeReading_32 : decode cX6_changeReading 32 = .ok (.getfield 49, 3) := by decide +kernel
theorem dX6_changeReading_35 : decode cX6_changeReading 35 = .ok (.putfield 73, 3) := by decide +kernel
theorem dX6_changeReading_38 : decode cX6_changeReading 38 = .ok (.aload_n 2, 1) := by decide +kernel
theorem dX6_changeReading_39 : decode cX6_changeReading 39 = .ok (.getfield 72, 3) := by decide +kernel
theorem dX6_changeReading_42 : decode cX6_changeReading 42 = .ok (.aload_n 1, 1) := by decide +kernel
theorem dX6_changeReading_43 : decode cX6_changeReading 43 = .ok (.getfield 124, 3) := by decide +kernel
theorem dX6_changeReading_46 : decode cX6_changeReading 46 = .ok (.if_icmp .eq 22, 3) := by decide +kernel
theorem dX6_changeReading_49 : decode cX6_changeReading 49 = .ok (.aload_n 2, 1) := by decide +kernel
theorem dX6_changeReading_50 : decode cX6_changeReading 50 = .ok (.aload_n 1, 1) := by decide +kernel
theorem dX6_changeReading_51 : decode cX6_changeReading 51 = .ok (.getfield 124, 3) := by decide +kernel
theorem dX6_changeReading_54 : decode cX6_changeReading 54 = .ok (.putfield 72, 3) := by decide +kernel
theorem dX6_changeReading_57 : decode cX6_changeReading 57 = .ok (.aload_n 0, 1) := by decide +kernel
theorem dX6_changeReading_58 : decode cX6_changeReading 58 = .ok (.bipush 12, 2) := by decide +kernel
theorem dX6_changeReading_60 : decode cX6_changeReading 60 = .ok (.aload_n 1, 1) := by decide +kernel
theorem dX6_changeReading_61 : decode cX6_changeReading 61 = .ok (.getfield 104, 3) := by decide +kernel
theorem dX6_changeReading_64 : decode cX6_changeReading 64 = .ok (.iadd, 1) := by decide +kernel
theorem dX6_changeReading_65 : decode cX6_changeReading 65 = .ok (.invokevirtual 127, 3) := by decide +kernel
theorem dX6_changeReading_68 : decode cX6_changeReading 68 = .ok (.return_, 1) := by decide +kernel
theorem dX6_changeCell_0 : decode cX6_changeCell 0 = .ok (.aload_n 1, 1) := by decide +kernel
theorem dX6_changeCell_1 : decode cX6_changeCell 1 = .ok (.getfield 104, 3) := by decide +kernel
theorem dX6_changeCell_4 : decode cX6_changeCell 4 = .ok (.ifCond .lt 15, 3) := by decide +kernel
theorem dX6_changeCell_7 : decode cX6_changeCell 7 = .ok (.aload_n 1, 1) := by decide +kernel
theorem dX6_changeCell_8 : decode cX6_changeCell 8 = .ok (.getfield 104, 3) := by decide +kernel
theorem dX6_changeCell_11 : decode cX6_changeCell 11 = .ok (.aload_n 0, 1) := by decide +kernel
theorem dX6_changeCell_12 : decode cX6_changeCell 12 = .ok (.getfield 22, 3) := by decide +kernel
theorem dX6_changeCell_15 : decode cX6_changeCell 15 = .ok (.arraylength, 1) := by decide +kernel
theorem dX6_changeCell_16 : decode cX6_changeCell 16 = .ok (.if_icmp .lt 4, 3) := by decide +kernel
theorem dX6_changeCell_19 : decode cX6_changeCell 19 = .ok (.return_, 1) := by decide +kernel
theorem dX6_changeCell_20 : decode cX6_changeCell 20 = .ok (.aload_n 0, 1) := by decide +kernel
theorem dX6_changeCell_21 : decode cX6_changeCell 21 = .ok (.getfield 22, 3) := by decide +kernel
theorem dX6_changeCell_24 : decode cX6_changeCell 24 = .ok (.aload_n 1, 1) := by decide +kernel
theorem dX6_changeCell_25 : decode cX6_changeCell 25 = .ok (.getfield 104, 3) := by decide +kernel
theorem dX6_changeCell_28 : decode cX6_changeCell 28 = .ok (.aaload, 1) := by decide +kernel
theorem dX6_changeCell_29 : decode cX6_changeCell 29 = .ok (.astore_n 2, 1) := by decide +kernel
theorem dX6_changeCell_30 : decode cX6_changeCell 30 = .ok (.aload_n 1, 1) := by decide +kernel
theorem dX6_changeCell_31 : decode cX6_changeCell 31 = .ok (.getfield 91, 3) := by decide +kernel
theorem dX6_changeCell_34 : decode cX6_changeCell 34 = .ok (.iconst 1, 1) := by decide +kernel
theorem dX6_changeCell_35 : decode cX6_changeCell 35 = .ok (.if_icmp .ne 36, 3) := by decide +kernel
theorem dX6_changeCell_38 : decode cX6_changeCell 38 = .ok (.aload_n 2, 1) := by decide +kernel
theorem dX6_changeCell_39 : decode cX6_changeCell 39 = .ok (.iconst 1, 1) := by decide +kernel
theorem dX6_changeCell_40 : decode cX6_changeCell 40 = .ok (.putfield 68, 3) := by decide +kernel
theorem dX6_changeCell_43 : decode cX6_changeCell 43 = .ok (.aload_n 0, 1) := by decide +kernel
theorem dX6_changeCell_44 : decode cX6_changeCell 44 = .ok (.dup, 1) := by decide +kernel
theorem dX6_changeCell_45 : decode cX6_changeCell 45 = .ok (.getfield 45, 3) := by decide +kernel
theorem dX6_changeCell_48 : decode cX6_changeCell 48 = .ok (.aload_n 2, 1) := by decide +kernel
theorem dX6_changeCell_49 : decode cX6_changeCell 49 = .ok (.getfield 130, 3) := by decide +kernel
theorem dX6_changeCell_52 : decode cX6_changeCell 52 = .ok (.invokestatic 83, 3) := by decide +kernel
theorem dX6_changeCell_55 : decode cX6_changeCell 55 = .ok (.iconst (-1), 1) := by decide +kernel
theorem dX6_changeCell_56 : decode cX6_changeCell 56 = .ok (.ixor, 1) := by decide +kernel
theorem dX6_changeCell_57 : decode cX6_changeCell 57 = .ok (.iand, 1) := by decide +kernel
theorem dX6_changeCell_58 : decode cX6_changeCell 58 = .ok (.putfield 45, 3) := by decide +kernel
theorem dX6_changeCell_61 : decode cX6_changeCell 61 = .ok (.aload_n 0, 1) := by decide +kernel
theorem dX6_changeCell_62 : decode cX6_changeCell 62 = .ok (.aload_n 2, 1) := by decide +kernel
theorem dX6_changeCell_63 : decode cX6_changeCell 63 = .ok (.aload_n 1, 1) := by decide +kernel
theorem dX6_changeCell_64 : decode cX6_changeCell 64 = .ok (.getfield 124, 3) := by decide +kernel
theorem dX6_changeCell_67 : decode cX6_changeCell 67 = .ok (.invokevirtual 133, 3) := by decide +kernel
theorem dX6_changeCell_70 : decode cX6_changeCell 70 = .ok (.return_, 1) := by decide +kernel
theorem dX6_changeCell_71 : decode cX6_changeCell 71 = .ok (.aload_n 1, 1) := by decide +kernel
theorem dX6_changeCell_72 : decode cX6_changeCell 72 = .ok (.getfield 91, 3) := by decide +kernel
theorem dX6_changeCell_75 : decode cX6_changeCell 75 = .ok (.iconst 2, 1) := by decide +kernel
theorem dX6_changeCell_76 : decode cX6_changeCell 76 = .ok (.if_icmp .ne 11, 3) := by decide +kernel
theorem dX6_changeCell_79 : decode cX6_changeCell 79 = .ok (.aload_n 2, 1) := by decide +kernel
theorem dX6_changeCell_80 : decode cX6_changeCell 80 = .ok (.iconst 0, 1) := by decide +kernel
theorem dX6_changeCell_81 : decode cX6_changeCell 81 = .ok (.putfield 68, 3) := by decide +kernel
theorem dX6_changeCell_84 : decode cX6_changeCell 84 = .ok (.goto 22, 3) := by decide +kernel
theorem dX6_changeCell_87 : decode cX6_changeCell 87 = .ok (.aload_n 1, 1) := by decide +kernel
theorem dX6_changeCell_88 : decode cX6_changeCell 88 = .ok (.getfield 137, 3) := by decide +kernel
theorem dX6_changeCell_91 : decode cX6_changeCell 91 = .ok (.ifnull 15, 3) := by decide +kernel
theorem dX6_changeCell_94 : decode cX6_changeCell 94 = .ok (.aload_n 2, 1) := by decide +kernel
theorem dX6_changeCell_95 : decode cX6_changeCell 95 = .ok (.aload_n 1, 1) := by decide +kernel
theorem dX6_changeCell_96 : decode cX6_changeCell 96 = .ok (.getfield 137, 3) := by decide +kernel
theorem dX6_changeCell_99 : decode cX6_changeCell 99 = .ok (.putfield 62, 3) := by decide +kernel
theorem dX6_changeCell_102 : decode cX6_changeCell 102 = .ok (.aload_n 0, 1) := by decide +kernel
theorem dX6_changeCell_103 : decode cX6_changeCell 103 = .ok (.invokevirtual 79, 3) := by decide +kernel
theorem dX6_changeCell_106 : decode cX6_changeCell 106 = .ok (.aload_n 2, 1) := by decide +kernel
theorem dX6_changeCell_107 : decode cX6_changeCell 107 = .ok (.getfield 68, 3) := by decide +kernel
theorem dX6_changeCell_110 : decode cX6_changeCell 110 = .ok (.ifCond .ne 19, 3) := by decide +kernel
theorem dX6_changeCell_113 : decode cX6_changeCell 113 = .ok (.aload_n 0, 1) := by decide +kernel
theorem dX6_changeCell_114 : decode cX6_changeCell 114 = .ok (.dup, 1) := by decide +kernel
theorem dX6_changeCell_115 : decode cX6_changeCell 115 = .ok (.getfield 45, 3) := by decide +kernel
theorem dX6_changeCell_118 : decode cX6_changeCell 118 = .ok (.aload_n 2, 1) := by decide +kernel
theorem dX6_changeCell_119 : decode cX6_changeCell 119 = .ok (.getfield 130, 3) := by decide +kernel
theorem dX6_changeCell_122 : decode cX6_changeCell 122 = .ok (.invokestatic 83, 3) := by decide +kernel
theorem dX6_changeCell_125 : decode cX6_changeCell 125 = .ok (.ior, 1) := by decide +kernel
theorem dX6_changeCell_126 : decode cX6_changeCell 126 = .ok (.putfield 45, 3) := by decide +kernel
theorem dX6_changeCell_129 : decode cX6_changeCell 129 = .ok (.return_, 1) := by decide +kernel
theorem dX6_changeService_0 : decode cX6_changeService 0 = .ok (.aload_n 1, 1) := by decide +kernel
theorem dX6_changeService_1 : decode cX6_changeService 1 = .ok (.getfield 104, 3) := by decide +kernel
theorem dX6_changeService_4 : decode cX6_changeService 4 = .ok (.ifCond .lt 15, 3) := by decide +kernel
theorem dX6_changeService_7 : decode cX6_changeService 7 = .ok (.aload_n 1, 1) := by decide +kernel
theorem dX6_changeService_8 : decode cX6_changeService 8 = .ok (.getfield 104, 3) := by decide +kernel
theorem dX6_changeService_11 : decode cX6_changeService 11 = .ok (.aload_n 0, 1) := by decide +kernel
theorem dX6_changeService_12 : decode cX6_changeService 12 = .ok (.getfield 37, 3) := by decide +kernel
theorem dX6_changeService_15 : decode cX6_changeService 15 = .ok (.arraylength, 1) := by decide +kernel
theorem dX6_changeService_16 : decode cX6_changeService 16 = .ok (.if_icmp .lt 4, 3) := by decide +kernel
theorem dX6_changeService_19 : decode cX6_changeService 19 = .ok (.return_, 1) := by decide +kernel
theorem dX6_changeService_20 : decode cX6_changeService 20 = .ok (.aload_n 0, 1) := by decide +kernel
theorem dX6_changeService_21 : decode cX6_changeService 21 = .ok (.getfield 37, 3) := by decide +kernel
theorem dX6_changeService_24 : decode cX6_changeService 24 = .ok (.aload_n 1, 1) := by decide +kernel
theorem dX6_changeService_25 : decode cX6_changeService 25 = .ok (.getfield 104, 3) := by decide +kernel
theorem dX6_changeService_28 : decode cX6_changeService 28 = .ok (.aaload, 1) := by decide +kernel
theorem dX6_changeService_29 : decode cX6_changeService 29 = .ok (.astore_n 2, 1) := by decide +kernel
theorem dX6_changeService_30 : decode cX6_changeService 30 = .ok (.aload_n 1, 1) := by decide +kernel
theorem dX6_changeService_31 : decode cX6_changeService 31 = .ok (.getfield 91, 3) := by decide +kernel
theorem dX6_changeService_34 : decode cX6_changeService 34 = .ok (.tableswitch 128 4 8 #[34, 45, 56, 75, 117], 34) := by decide +kernel
theorem dX6_changeService_68 : decode cX6_changeService 68 = .ok (.aload_n 2, 1) := by decide +kernel
theorem dX6_changeService_69 : decode cX6_changeService 69 = .ok (.aload_n 1, 1) := by decide +kernel
theorem dX6_changeService_70 : decode cX6_changeService 70 = .ok (.getfield 124, 3) := by decide +kernel
theorem dX6_changeService_73 : decode cX6_changeService 73 = .ok (.putfield 138, 3) := by decide +kernel
theorem dX6_changeService_76 : decode cX6_changeService 76 = .ok (.goto 91, 3) := by decide +kernel
theorem dX6_changeService_79 : decode cX6_changeService 79 = .ok (.aload_n 2, 1) := by decide +kernel
theorem dX6_changeService_80 : decode cX6_changeService 80 = .ok (.aload_n 1, 1) := by decide +kernel
theorem dX6_changeService_81 : decode cX6_changeService 81 = .ok (.getfield 124, 3) := by decide +kernel
theorem dX6_changeService_84 : decode cX6_changeService 84 = .ok (.putfield 141, 3) := by decide +kernel
theorem dX6_changeService_87 : decode cX6_changeService 87 = .ok (.goto 80, 3) := by decide +kernel
theorem dX6_changeService_90 : decode cX6_changeService 90 = .ok (.aload_n 2, 1) := by decide +kernel
theorem dX6_changeService_91 : decode cX6_changeService 91 = .ok (.aload_n 1, 1) := by decide +kernel
theorem dX6_changeService_92 : decode cX6_changeService 92 = .ok (.getfield 124, 3) := by decide +kernel
theorem dX6_changeService_95 : decode cX6_changeService 95 = .ok (.putfield 144, 3) := by decide +kernel
theorem dX6_changeService_98 : decode cX6_changeService 98 = .ok (.aload_n 2, 1) := by decide +kernel
theorem dX6_changeService_99 : decode cX6_changeService 99 = .ok (.aload_n 1, 1) := by decide +kernel
theorem dX6_changeService_100 : decode cX6_changeService 100 = .ok (.getfield 147, 3) := by decide +kernel
theorem dX6_changeService_103 : decode cX6_changeService 103 = .ok (.putfield 150, 3) := by decide +kernel
theorem dX6_changeService_106 : decode cX6_changeService 106 = .ok (.goto 61, 3) := by decide +kernel
theorem dX6_changeService_109 : decode cX6_changeService 109 = .ok (.aload_n 2, 1) := by decide +kernel
theorem dX6_changeService_110 : decode cX6_changeService 110 = .ok (.getfield 153, 3) := by decide +kernel
theorem dX6_changeService_113 : decode cX6_changeService 113 = .ok (.aload_n 1, 1) := by decide +kernel
theorem dX6_changeService_114 : decode cX6_changeService 114 = .ok (.getfield 124, 3) := by decide +kernel
theorem dX6_changeService_117 : decode cX6_changeService 117 = .ok (.invokestatic 83, 3) := by decide +kernel
theorem dX6_changeService_120 : decode cX6_changeService 120 = .ok (.iconst (-1), 1) := by decide +kernel
theorem dX6_changeService_121 : decode cX6_changeService 121 = .ok (.ixor, 1) := by decide +kernel
theorem dX6_changeService_122 : decode cX6_changeService 122 = .ok (.iand, 1) := by decide +kernel
theorem dX6_changeService_123 : decode cX6_changeService 123 = .ok (.istore_n 3, 1) := by decide +kernel
theorem dX6_changeService_124 : decode cX6_changeService 124 = .ok (.aload_n 2, 1) := by decide +kernel
theorem dX6_changeService_125 : decode cX6_changeService 125 = .ok (.aload_n 1, 1) := by decide +kernel
theorem dX6_changeService_126 : decode cX6_changeService 126 = .ok (.getfield 147, 3) := by decide +kernel
theorem dX6_changeService_129 : decode cX6_changeService 129 = .ok (.ifCond .eq 15, 3) := by decide +kernel
theorem dX6_changeService_132 : decode cX6_changeService 132 = .ok (.iload_n 3, 1) := by decide +kernel
theorem dX6_changeService_133 : decode cX6_changeService 133 = .ok (.aload_n 1, 1) := by decide +kernel
theorem dX6_changeService_134 : decode cX6_changeService 134 = .ok (.getfield 124, 3) := by decide +kernel
theorem dX6_changeService_137 : decode cX6_changeService 137 = .ok (.invokestatic 83, 3) := by decide +kernel
theorem dX6_changeService_140 : decode cX6_changeService 140 = .ok (.ior, 1) := by decide +kernel
theorem dX6_changeService_141 : decode cX6_changeService 141 = .ok (.goto 4, 3) := by decide +kernel
theorem dX6_changeService_144 : decode cX6_changeService 144 = .ok (.iload_n 3, 1) := by decide +kernel
theorem dX6_changeService_145 : decode cX6_changeService 145 = .ok (.putfield 153, 3) := by decide +kernel
theorem dX6_changeService_148 : decode cX6_changeService 148 = .ok (.goto 19, 3) := by decide +kernel
theorem dX6_changeService_151 : decode cX6_changeService 151 = .ok (.aload_n 2, 1) := by decide +kernel
theorem dX6_changeService_152 : decode cX6_changeService 152 = .ok (.aload_n 1, 1) := by decide +kernel
theorem dX6_changeService_153 : decode cX6_changeService 153 = .ok (.getfield 124, 3) := by decide +kernel
theorem dX6_changeService_156 : decode cX6_changeService 156 = .ok (.putfield 156, 3) := by decide +kernel
theorem dX6_changeService_159 : decode cX6_changeService 159 = .ok (.goto 8, 3) := by decide +kernel
theorem dX6_changeService_162 : decode cX6_changeService 162 = .ok (.aload_n 2, 1) := by decide +kernel
theorem dX6_changeService_163 : decode cX6_changeService 163 = .ok (.iconst 0, 1) := by decide +kernel
theorem dX6_changeService_164 : decode cX6_changeService 164 = .ok (.putfield 159, 3) := by decide +kernel
theorem dX6_changeService_167 : decode cX6_changeService 167 = .ok (.return_, 1) := by decide +kernel
theorem dX6_settle_0 : decode cX6_settle 0 = .ok (.sipush 240, 3) := by decide +kernel
theorem dX6_settle_3 : decode cX6_settle 3 = .ok (.istore_n 1, 1) := by decide +kernel
theorem dX6_settle_4 : decode cX6_settle 4 = .ok (.iconst 0, 1) := by decide +kernel
theorem dX6_settle_5 : decode cX6_settle 5 = .ok (.istore_n 2, 1) := by decide +kernel
theorem dX6_settle_6 : decode cX6_settle 6 = .ok (.aload_n 0, 1) := by decide +kernel
theorem dX6_settle_7 : decode cX6_settle 7 = .ok (.invokevirtual 162, 3) := by decide +kernel
theorem dX6_settle_10 : decode cX6_settle 10 = .ok (.iconst 1, 1) := by decide +kernel
theorem dX6_settle_11 : decode cX6_settle 11 = .ok (.istore_n 3, 1) := by decide +kernel
theorem dX6_settle_12 : decode cX6_settle 12 = .ok (.iload_n 3, 1) := by decide +kernel
theorem dX6_settle_13 : decode cX6_settle 13 = .ok (.iload_n 1, 1) := by decide +kernel
theorem dX6_settle_14 : decode cX6_settle 14 = .ok (.if_icmp .gt 42, 3) := by decide +kernel
theorem dX6_settle_17 : decode cX6_settle 17 = .ok (.iinc 2 1, 3) := by decide +kernel
theorem dX6_settle_20 : decode cX6_settle 20 = .ok (.aload_n 0, 1) := by decide +kernel
theorem dX6_settle_21 : decode cX6_settle 21 = .ok (.invokevirtual 165, 3) := by decide +kernel
theorem dX6_settle_24 : decode cX6_settle 24 = .ok (.aload_n 0, 1) := by decide +kernel
theorem dX6_settle_25 : decode cX6_settle 25 = .ok (.iload_n 2, 1) := by decide +kernel
theorem dX6_settle_26 : decode cX6_settle 26 = .ok (.invokevirtual 168, 3) := by decide +kernel
theorem dX6_settle_29 : decode cX6_settle 29 = .ok (.ifCond .ne 5, 3) := by decide +kernel
theorem dX6_settle_32 : decode cX6_settle 32 = .ok (.iload_n 3, 1) := by decide +kernel
theorem dX6_settle_33 : decode cX6_settle 33 = .ok (.ireturn, 1) := by decide +kernel
theorem dX6_settle_34 : decode cX6_settle 34 = .ok (.iload_n 2, 1) := by decide +kernel
theorem dX6_settle_35 : decode cX6_settle 35 = .ok (.bipush 40, 2) := by decide +kernel
theorem dX6_settle_37 : decode cX6_settle 37 = .ok (.if_icmp .lt 13, 3) := by decide +kernel
theorem dX6_settle_40 : decode cX6_settle 40 = .ok (.aload_n 0, 1) := by decide +kernel
theorem dX6_settle_41 : decode cX6_settle 41 = .ok (.invokevirtual 171, 3) := by decide +kernel
theorem dX6_settle_44 : decode cX6_settle 44 = .ok (.aload_n 0, 1) := by decide +kernel
theorem dX6_settle_45 : decode cX6_settle 45 = .ok (.invokevirtual 162, 3) := by decide +kernel
theorem dX6_settle_48 : decode cX6_settle 48 = .ok (.iconst 0, 1) := by decide +kernel
theorem dX6_settle_49 : decode cX6_settle 49 = .ok (.istore_n 2, 1) := by decide +kernel
theorem dX6_settle_50 : decode cX6_settle 50 = .ok (.iinc 3 1, 3) := by decide +kernel
theorem dX6_settle_53 : decode cX6_settle 53 = .ok (.goto (-41), 3) := by decide +kernel
theorem dX6_settle_56 : decode cX6_settle 56 = .ok (.iload_n 1, 1) := by decide +kernel
theorem dX6_settle_57 : decode cX6_settle 57 = .ok (.ireturn, 1) := by decide +kernel
theorem dX6_forgetChanges_0 : decode cX6_forgetChanges 0 = .ok (.aload_n 0, 1) := by decide +kernel
theorem dX6_forgetChanges_1 : decode cX6_forgetChanges 1 = .ok (.getfield 37, 3) := by decide +kernel
theorem dX6_forgetChanges_4 : decode cX6_forgetChanges 4 = .ok (.astore_n 1, 1) := by decide +kernel
theorem dX6_forgetChanges_5 : decode cX6_forgetChanges 5 = .ok (.aload_n 1, 1) := by decide +kernel
theorem dX6_forgetChanges_6 : decode cX6_forgetChanges 6 = .ok (.arraylength, 1) := by decide +kernel
theorem dX6_forgetChanges_7 : decode cX6_forgetChanges 7 = .ok (.istore_n 2, 1) := by decide +kernel
theorem dX6_forgetChanges_8 : decode cX6_forgetChanges 8 = .ok (.iconst 0, 1) := by decide +kernel
theorem dX6_forgetChanges_9 : decode cX6_forgetChanges 9 = .ok (.istore_n 3, 1) := by decide +kernel
theorem dX6_forgetChanges_10 : decode cX6_forgetChanges 10 = .ok (.iload_n 3, 1) := by decide +kernel
theorem dX6_forgetChanges_11 : decode cX6_forgetChanges 11 = .ok (.iload_n 2, 1) := by decide +kernel
theorem dX6_forgetChanges_12 : decode cX6_forgetChanges 12 = .ok (.if_icmp .ge 20, 3) := by decide +kernel
theorem dX6_forgetChanges_15 : decode cX6_forgetChanges 15 = .ok (.aload_n 1, 1) := by decide +kernel
theorem dX6_forgetChanges_16 : decode cX6_forgetChanges 16 = .ok (.iload_n 3, 1) := by decide +kernel
theorem dX6_forgetChanges_17 : decode cX6_forgetChanges 17 = .ok (.aaload, 1) := by decide +kernel
theorem dX6_forgetChanges_18 : decode cX6_forgetChanges 18 = .ok (.astore 4, 2) := by decide +kernel
theorem dX6_forgetChanges_20 : decode cX6_forgetChanges 20 = .ok (.aload 4, 2) := by decide +kernel
theorem dX6_forgetChanges_22 : decode cX6_forgetChanges 22 = .ok (.iconst 0, 1) := by decide +kernel
theorem dX6_forgetChanges_23 : decode cX6_forgetChanges 23 = .ok (.putfield 174, 3) := by decide +kernel
theorem dX6_forgetChanges_26 : decode cX6_forgetChanges 26 = .ok (.iinc 3 1, 3) := by decide +kernel
theorem dX6_forgetChanges_29 : decode cX6_forgetChanges 29 = .ok (.goto (-19), 3) := by decide +kernel
theorem dX6_forgetChanges_32 : decode cX6_forgetChanges 32 = .ok (.return_, 1) := by decide +kernel
theorem dX6_cutLowestOfLateChanges_0 : decode cX6_cutLowestOfLateChanges 0 = .ok (.aload_n 0, 1) := by decide +kernel
theorem dX6_cutLowestOfLateChanges_1 : decode cX6_cutLowestOfLateChanges 1 = .ok (.getfield 37, 3) := by decide +kernel
theorem dX6_cutLowestOfLateChanges_4 : decode cX6_cutLowestOfLateChanges 4 = .ok (.astore_n 1, 1) := by decide +kernel
theorem dX6_cutLowestOfLateChanges_5 : decode cX6_cutLowestOfLateChanges 5 = .ok (.aload_n 1, 1) := by decide +kernel
theorem dX6_cutLowestOfLateChanges_6 : decode cX6_cutLowestOfLateChanges 6 = .ok (.arraylength, 1) := by decide +kernel
theorem dX6_cutLowestOfLateChanges_7 : decode cX6_cutLowestOfLateChanges 7 = .ok (.istore_n 2, 1) := by decide +kernel
theorem dX6_cutLowestOfLateChanges_8 : decode cX6_cutLowestOfLateChanges 8 = .ok (.iconst 0, 1) := by decide +kernel
theorem dX6_cutLowestOfLateChanges_9 : decode cX6_cutLowestOfLateChanges 9 = .ok (.istore_n 3, 1) := by decide +kernel
theorem dX6_cutLowestOfLateChanges_10 : decode cX6_cutLowestOfLateChanges 10 = .ok (.iload_n 3, 1) := by decide +kernel
theorem dX6_cutLowestOfLateChanges_11 : decode cX6_cutLowestOfLateChanges 11 = .ok (.iload_n 2, 1) := by decide +kernel
theorem dX6_cutLowestOfLateChanges_12 : decode cX6_cutLowestOfLateChanges 12 = .ok (.if_icmp .ge 44, 3) := by decide +kernel
theorem dX6_cutLowestOfLateChanges_15 : decode cX6_cutLowestOfLateChanges 15 = .ok (.aload_n 1, 1) := by decide +kernel
theorem dX6_cutLowestOfLateChanges_16 : decode cX6_cutLowestOfLateChanges 16 = .ok (.iload_n 3, 1) := by decide +kernel
theorem dX6_cutLowestOfLateChanges_17 : decode cX6_cutLowestOfLateChanges 17 = .ok (.aaload, 1) := by decide +kernel
theorem dX6_cutLowestOfLateChanges_18 : decode cX6_cutLowestOfLateChanges 18 = .ok (.astore 4, 2) := by decide +kernel
theorem dX6_cutLowestOfLateChanges_20 : decode cX6_cutLowestOfLateChanges 20 = .ok (.aload 4, 2) := by decide +kernel
theorem dX6_cutLowestOfLateChanges_22 : decode cX6_cutLowestOfLateChanges 22 = .ok (.getfield 174, 3) := by decide +kernel
theorem dX6_cutLowestOfLateChanges_25 : decode cX6_cutLowestOfLateChanges 25 = .ok (.bipush 28, 2) := by decide +kernel
theorem dX6_cutLowestOfLateChanges_27 : decode cX6_cutLowestOfLateChanges 27 = .ok (.if_icmp .le 23, 3) := by decide +kernel
theorem dX6_cutLowestOfLateChanges_30 : decode cX6_cutLowestOfLateChanges 30 = .ok (.aload 4, 2) := by decide +kernel
theorem dX6_cutLowestOfLateChanges_32 : decode cX6_cutLowestOfLateChanges 32 = .ok (.iconst 3, 1) := by decide +kernel
theorem dX6_cutLowestOfLateChanges_33 : decode cX6_cutLowestOfLateChanges 33 = .ok (.putfield 159, 3) := by decide +kernel
theorem dX6_cutLowestOfLateChanges_36 : decode cX6_cutLowestOfLateChanges 36 = .ok (.aload 4, 2) := by decide +kernel
theorem dX6_cutLowestOfLateChanges_38 : decode cX6_cutLowestOfLateChanges 38 = .ok (.iconst 0, 1) := by decide +kernel
theorem dX6_cutLowestOfLateChanges_39 : decode cX6_cutLowestOfLateChanges 39 = .ok (.putfield 177, 3) := by decide +kernel
theorem dX6_cutLowestOfLateChanges_42 : decode cX6_cutLowestOfLateChanges 42 = .ok (.aload_n 0, 1) := by decide +kernel
theorem dX6_cutLowestOfLateChanges_43 : decode cX6_cutLowestOfLateChanges 43 = .ok (.aload 4, 2) := by decide +kernel
theorem dX6_cutLowestOfLateChanges_45 : decode cX6_cutLowestOfLateChanges 45 = .ok (.iconst 0, 1) := by decide +kernel
theorem dX6_cutLowestOfLateChanges_46 : decode cX6_cutLowestOfLateChanges 46 = .ok (.invokevirtual 180, 3) := by decide +kernel
theorem dX6_cutLowestOfLateChanges_49 : decode cX6_cutLowestOfLateChanges 49 = .ok (.return_, 1) := by decide +kernel
theorem dX6_cutLowestOfLateChanges_50 : decode cX6_cutLowestOfLateChanges 50 = .ok (.iinc 3 1, 3) := by decide +kernel
theorem dX6_cutLowestOfLateChanges_53 : decode cX6_cutLowestOfLateChanges 53 = .ok (.goto (-43), 3) := by decide +kernel
theorem dX6_cutLowestOfLateChanges_56 : decode cX6_cutLowestOfLateChanges 56 = .ok (.return_, 1) := by decide +kernel
theorem dX6_workOutDirtyCells_0 : decode cX6_workOutDirtyCells 0 = .ok (.aload_n 0, 1) := by decide +kernel
theorem dX6_workOutDirtyCells_1 : decode cX6_workOutDirtyCells 1 = .ok (.getfield 26, 3) := by decide +kernel
theorem dX6_workOutDirtyCells_4 : decode cX6_workOutDirtyCells 4 = .ok (.astore_n 1, 1) := by decide +kernel
theorem dX6_workOutDirtyCells_5 : decode cX6_workOutDirtyCells 5 = .ok (.aload_n 1, 1) := by decide +kernel
theorem dX6_workOutDirtyCells_6 : decode cX6_workOutDirtyCells 6 = .ok (.arraylength, 1) := by decide +kernel
theorem dX6_workOutDirtyCells_7 : decode cX6_workOutDirtyCells 7 = .ok (.istore_n 2, 1) := by decide +kernel
theorem dX6_workOutDirtyCells_8 : decode cX6_workOutDirtyCells 8 = .ok (.iconst 0, 1) := by decide +kernel
theorem dX6_workOutDirtyCells_9 : decode cX6_workOutDirtyCells 9 = .ok (.istore_n 3, 1) := by decide +kernel
theorem dX6_workOutDirtyCells_10 : decode cX6_workOutDirtyCells 10 = .ok (.iload_n 3, 1) := by decide +kernel
theorem dX6_workOutDirtyCells_11 : decode cX6_workOutDirtyCells 11 = .ok (.iload_n 2, 1) := by decide +kernel
theorem dX6_workOutDirtyCells_12 : decode cX6_workOutDirtyCells 12 = .ok (.if_icmp .ge 81, 3) := by decide +kernel
theorem dX6_workOutDirtyCells_15 : decode cX6_workOutDirtyCells 15 = .ok (.aload_n 1, 1) := by decide +kernel
theorem dX6_workOutDirtyCells_16 : decode cX6_workOutDirtyCells 16 = .ok (.iload_n 3, 1) := by decide +kernel
theorem dX6_workOutDirtyCells_17 : decode cX6_workOutDirtyCells 17 = .ok (.aaload, 1) := by decide +kernel
theorem dX6_workOutDirtyCells_18 : decode cX6_workOutDirtyCells 18 = .ok (.astore 4, 2) := by decide +kernel
theorem dX6_workOutDirtyCells_20 : decode cX6_workOutDirtyCells 20 = .ok (.aload_n 0, 1) := by decide +kernel
theorem dX6_workOutDirtyCells_21 : decode cX6_workOutDirtyCells 21 = .ok (.getfield 45, 3) := by decide +kernel
theorem dX6_workOutDirtyCells_24 : decode cX6_workOutDirtyCells 24 = .ok (.ifCond .ne 4, 3) := by decide +kernel
theorem dX6_workOutDirtyCells_27 : decode cX6_workOutDirtyCells 27 = .ok (.return_, 1) := by decide +kernel
theorem dX6_workOutDirtyCells_28 : decode cX6_workOutDirtyCells 28 = .ok (.aload_n 0, 1) := by decide +kernel
theorem dX6_workOutDirtyCells_29 : decode cX6_workOutDirtyCells 29 = .ok (.getfield 45, 3) := by decide +kernel
theorem dX6_workOutDirtyCells_32 : decode cX6_workOutDirtyCells 32 = .ok (.aload 4, 2) := by decide +kernel
theorem dX6_workOutDirtyCells_34 : decode cX6_workOutDirtyCells 34 = .ok (.getfield 130, 3) := by decide +kernel
theorem dX6_workOutDirtyCells_37 : decode cX6_workOutDirtyCells 37 = .ok (.invokestatic 184, 3) := by decide +kernel
theorem dX6_workOutDirtyCells_40 : decode cX6_workOutDirtyCells 40 = .ok (.ifCond .eq 47, 3) := by decide +kernel
theorem dX6_workOutDirtyCells_43 : decode cX6_workOutDirtyCells 43 = .ok (.aload_n 0, 1) := by decide +kernel
theorem dX6_workOutDirtyCells_44 : decode cX6_workOutDirtyCells 44 = .ok (.dup, 1) := by decide +kernel
theorem dX6_workOutDirtyCells_45 : decode cX6_workOutDirtyCells 45 = .ok (.getfield 45, 3) := by decide +kernel
theorem dX6_workOutDirtyCells_48 : decode cX6_workOutDirtyCells 48 = .ok (.aload 4, 2) := by decide +kernel
theorem dX6_workOutDirtyCells_50 : decode cX6_workOutDirtyCells 50 = .ok (.getfield 130, 3) := by decide +kernel
theorem dX6_workOutDirtyCells_53 : decode cX6_workOutDirtyCells 53 = .ok (.invokestatic 83, 3) := by decide +kernel
theorem dX6_workOutDirtyCells_56 : decode cX6_workOutDirtyCells 56 = .ok (.iconst (-1), 1) := by decide +kernel
theorem dX6_workOutDirtyCells_57 : decode cX6_workOutDirtyCells 57 = .ok (.ixor, 1) := by decide +kernel
theorem dX6_workOutDirtyCells_58 : decode cX6_workOutDirtyCells 58 = .ok (.iand, 1) := by decide +kernel
theorem dX6_workOutDirtyCells_59 : decode cX6_workOutDirtyCells 59 = .ok (.putfield 45, 3) := by decide +kernel
theorem dX6_workOutDirtyCells_62 : decode cX6_workOutDirtyCells 62 = .ok (.aload_n 0, 1) := by decide +kernel
theorem dX6_workOutDirtyCells_63 : decode cX6_workOutDirtyCells 63 = .ok (.dup, 1) := by decide +kernel
theorem dX6_workOutDirtyCells_64 : decode cX6_workOutDirtyCells 64 = .ok (.getfield 52, 3) := by decide +kernel
theorem dX6_workOutDirtyCells_67 : decode cX6_workOutDirtyCells 67 = .ok (.iconst 1, 1) := by decide +kernel
theorem dX6_workOutDirtyCells_68 : decode cX6_workOutDirtyCells 68 = .ok (.iadd, 1) := by decide +kernel
theorem dX6_workOutDirtyCells_69 : decode cX6_workOutDirtyCells 69 = .ok (.putfield 52, 3) := by decide +kernel
theorem dX6_workOutDirtyCells_72 : decode cX6_workOutDirtyCells 72 = .ok (.aload_n 0, 1) := by decide +kernel
theorem dX6_workOutDirtyCells_73 : decode cX6_workOutDirtyCells 73 = .ok (.aload 4, 2) := by decide +kernel
theorem dX6_workOutDirtyCells_75 : decode cX6_workOutDirtyCells 75 = .ok (.aload_n 0, 1) := by decide +kernel
theorem dX6_workOutDirtyCells_76 : decode cX6_workOutDirtyCells 76 = .ok (.aload 4, 2) := by decide +kernel
theorem dX6_workOutDirtyCells_78 : decode cX6_workOutDirtyCells 78 = .ok (.getfield 62, 3) := by decide +kernel
theorem dX6_workOutDirtyCells_81 : decode cX6_workOutDirtyCells 81 = .ok (.invokevirtual 188, 3) := by decide +kernel
theorem dX6_workOutDirtyCells_84 : decode cX6_workOutDirtyCells 84 = .ok (.invokevirtual 133, 3) := by decide +kernel
theorem dX6_workOutDirtyCells_87 : decode cX6_workOutDirtyCells 87 = .ok (.iinc 3 1, 3) := by decide +kernel
theorem dX6_workOutDirtyCells_90 : decode cX6_workOutDirtyCells 90 = .ok (.goto (-80), 3) := by decide +kernel
theorem dX6_workOutDirtyCells_93 : decode cX6_workOutDirtyCells 93 = .ok (.return_, 1) := by decide +kernel
theorem dX6_setValue_0 : decode cX6_setValue 0 = .ok (.aload_n 1, 1) := by decide +kernel
theorem dX6_setValue_1 : decode cX6_setValue 1 = .ok (.getfield 65, 3) := by decide +kernel
theorem dX6_setValue_4 : decode cX6_setValue 4 = .ok (.iload_n 2, 1) := by decide +kernel
theorem dX6_setValue_5 : decode cX6_setValue 5 = .ok (.if_icmp .eq 16, 3) := by decide +kernel
theorem dX6_setValue_8 : decode cX6_setValue 8 = .ok (.aload_n 1, 1) := by decide +kernel
theorem dX6_setValue_9 : decode cX6_setValue 9 = .ok (.iload_n 2, 1) := by decide +kernel
theorem dX6_setValue_10 : decode cX6_setValue 10 = .ok (.putfield 65, 3) := by decide +kernel
theorem dX6_setValue_13 : decode cX6_setValue 13 = .ok (.aload_n 0, 1) := by decide +kernel
theorem dX6_setValue_14 : decode cX6_setValue 14 = .ok (.aload_n 1, 1) := by decide +kernel
theorem dX6_setValue_15 : decode cX6_setValue 15 = .ok (.getfield 130, 3) := by decide +kernel
theorem dX6_setValue_18 : decode cX6_setValue 18 = .ok (.invokevirtual 127, 3) := by decide +kernel
theorem dX6_setValue_21 : decode cX6_setValue 21 = .ok (.return_, 1) := by decide +kernel
theorem dX6_setTold_0 : decode cX6_setTold 0 = .ok (.aload_n 1, 1) := by decide +kernel
theorem dX6_setTold_1 : decode cX6_setTold 1 = .ok (.getfield 192, 3) := by decide +kernel
theorem dX6_setTold_4 : decode cX6_setTold 4 = .ok (.iload_n 2, 1) := by decide +kernel
theorem dX6_setTold_5 : decode cX6_setTold 5 = .ok (.if_icmp .eq 19, 3) := by decide +kernel
theorem dX6_setTold_8 : decode cX6_setTold 8 = .ok (.aload_n 1, 1) := by decide +kernel
theorem dX6_setTold_9 : decode cX6_setTold 9 = .ok (.iload_n 2, 1) := by decide +kernel
theorem dX6_setTold_10 : decode cX6_setTold 10 = .ok (.putfield 192, 3) := by decide +kernel
theorem dX6_setTold_13 : decode cX6_setTold 13 = .ok (.aload_n 0, 1) := by decide +kernel
theorem dX6_setTold_14 : decode cX6_setTold 14 = .ok (.bipush 17, 2) := by decide +kernel
theorem dX6_setTold_16 : decode cX6_setTold 16 = .ok (.aload_n 1, 1) := by decide +kernel
theorem dX6_setTold_17 : decode cX6_setTold 17 = .ok (.getfield 195, 3) := by decide +kernel
theorem dX6_setTold_20 : decode cX6_setTold 20 = .ok (.iadd, 1) := by decide +kernel
theorem dX6_setTold_21 : decode cX6_setTold 21 = .ok (.invokevirtual 127, 3) := by decide +kernel
theorem dX6_setTold_24 : decode cX6_setTold 24 = .ok (.return_, 1) := by decide +kernel
theorem dX6_soilReaders_0 : decode cX6_soilReaders 0 = .ok (.aload_n 0, 1) := by decide +kernel
theorem dX6_soilReaders_1 : decode cX6_soilReaders 1 = .ok (.getfield 22, 3) := by decide +kernel
theorem dX6_soilReaders_4 : decode cX6_soilReaders 4 = .ok (.astore_n 2, 1) := by decide +kernel
theorem dX6_soilReaders_5 : decode cX6_soilReaders 5 = .ok (.aload_n 2, 1) := by decide +kernel
theorem dX6_soilReaders_6 : decode cX6_soilReaders 6 = .ok (.arraylength, 1) := by decide +kernel
theorem dX6_soilReaders_7 : decode cX6_soilReaders 7 = .ok (.istore_n 3, 1) := by decide +kernel
theorem dX6_soilReaders_8 : decode cX6_soilReaders 8 = .ok (.iconst 0, 1) := by decide +kernel
theorem dX6_soilReaders_9 : decode cX6_soilReaders 9 = .ok (.istore 4, 2) := by decide +kernel
theorem dX6_soilReaders_11 : decode cX6_soilReaders 11 = .ok (.iload 4, 2) := by decide +kernel
theorem dX6_soilReaders_13 : decode cX6_soilReaders 13 = .ok (.iload_n 3, 1) := by decide +kernel
theorem dX6_soilReaders_14 : decode cX6_soilReaders 14 = .ok (.if_icmp .ge 55, 3) := by decide +kernel
theorem dX6_soilReaders_17 : decode cX6_soilReaders 17 = .ok (.aload_n 2, 1) := by decide +kernel
theorem dX6_soilReaders_18 : decode cX6_soilReaders 18 = .ok (.iload 4, 2) := by decide +kernel
theorem dX6_soilReaders_20 : decode cX6_soilReaders 20 = .ok (.aaload, 1) := by decide +kernel
theorem dX6_soilReaders_21 : decode cX6_soilReaders 21 = .ok (.astore 5, 2) := by decide +kernel
theorem dX6_soilReaders_23 : decode cX6_soilReaders 23 = .ok (.aload 5, 2) := by decide +kernel
theorem dX6_soilReaders_25 : decode cX6_soilReaders 25 = .ok (.getfield 68, 3) := by decide +kernel
theorem dX6_soilReaders_28 : decode cX6_soilReaders 28 = .ok (.ifCond .ne 35, 3) := by decide +kernel
theorem dX6_soilReaders_31 : decode cX6_soilReaders 31 = .ok (.aload 5, 2) := by decide +kernel
theorem dX6_soilReaders_33 : decode cX6_soilReaders 33 = .ok (.getfield 62, 3) := by decide +kernel
theorem dX6_soilReaders_36 : decode cX6_soilReaders 36 = .ok (.getfield 196, 3) := by decide +kernel
theorem dX6_soilReaders_39 : decode cX6_soilReaders 39 = .ok (.iload_n 1, 1) := by decide +kernel
theorem dX6_soilReaders_40 : decode cX6_soilReaders 40 = .ok (.invokestatic 184, 3) := by decide +kernel
theorem dX6_soilReaders_43 : decode cX6_soilReaders 43 = .ok (.ifCond .eq 20, 3) := by decide +kernel
theorem dX6_soilReaders_46 : decode cX6_soilReaders 46 = .ok (.aload_n 0, 1) := by decide +kernel
theorem dX6_soilReaders_47 : decode cX6_soilReaders 47 = .ok (.dup, 1) := by decide +kernel
theorem dX6_soilReaders_48 : decode cX6_soilReaders 48 = .ok (.getfield 45, 3) := by decide +kernel
theorem dX6_soilReaders_51 : decode cX6_soilReaders 51 = .ok (.aload 5, 2) := by decide +kernel
theorem dX6_soilReaders_53 : decode cX6_soilReaders 53 = .ok (.getfield 130, 3) := by decide +kernel
theorem dX6_soilReaders_56 : decode cX6_soilReaders 56 = .ok (.invokestatic 83, 3) := by decide +kernel
theorem dX6_soilReaders_59 : decode cX6_soilReaders 59 = .ok (.ior, 1) := by decide +kernel
theorem dX6_soilReaders_60 : decode cX6_soilReaders 60 = .ok (.putfield 45, 3) := by decide +kernel
theorem dX6_soilReaders_63 : decode cX6_soilReaders 63 = .ok (.iinc 4 1, 3) := by decide +kernel
theorem dX6_soilReaders_66 : decode cX6_soilReaders 66 = .ok (.goto (-55), 3) := by decide +kernel
theorem dX6_soilReaders_69 : decode cX6_soilReaders 69 = .ok (.return_, 1) := by decide +kernel
theorem dX6_lookAtServices_0 : decode cX6_lookAtServices 0 = .ok (.iconst 0, 1) := by decide +kernel
theorem dX6_lookAtServices_1 : decode cX6_lookAtServices 1 = .ok (.istore_n 2, 1) := by decide +kernel
theorem dX6_lookAtServices_2 : decode cX6_lookAtServices 2 = .ok (.aload_n 0, 1) := by decide +kernel
theorem dX6_lookAtServices_3 : decode cX6_lookAtServices 3 = .ok (.getfield 37, 3) := by decide +kernel
theorem dX6_lookAtServices_6 : decode cX6_lookAtServices 6 = .ok (.astore_n 3, 1) := by decide +kernel
theorem dX6_lookAtServices_7 : decode cX6_lookAtServices 7 = .ok (.aload_n 3, 1) := by decide +kernel
theorem dX6_lookAtServices_8 : decode cX6_lookAtServices 8 = .ok (.arraylength, 1) := by decide +kernel
theorem dX6_lookAtServices_9 : decode cX6_lookAtServices 9 = .ok (.istore 4, 2) := by decide +kernel
theorem dX6_lookAtServices_11 : decode cX6_lookAtServices 11 = .ok (.iconst 0, 1) := by decide +kernel
theorem dX6_lookAtServices_12 : decode cX6_lookAtServices 12 = .ok (.istore 5, 2) := by decide +kernel
theorem dX6_lookAtServices_14 : decode cX6_lookAtServices 14 = .ok (.iload 5, 2) := by decide +kernel
theorem dX6_lookAtServices_16 : decode cX6_lookAtServices 16 = .ok (.iload 4, 2) := by decide +kernel
theorem dX6_lookAtServices_18 : decode cX6_lookAtServices 18 = .ok (.if_icmp .ge 132, 3) := by decide +kernel
theorem dX6_lookAtServices_21 : decode cX6_lookAtServices 21 = .ok (.aload_n 3, 1) := by decide +kernel
theorem dX6_lookAtServices_22 : decode cX6_lookAtServices 22 = .ok (.iload 5, 2) := by decide +kernel
theorem dX6_lookAtServices_24 : decode cX6_lookAtServices 24 = .ok (.aaload, 1) := by decide +kernel
theorem dX6_lookAtServices_25 : decode cX6_lookAtServices 25 = .ok (.astore 6, 2) := by decide +kernel
theorem dX6_lookAtServices_27 : decode cX6_lookAtServices 27 = .ok (.aload_n 0, 1) := by decide +kernel
theorem dX6_lookAtServices_28 : decode cX6_lookAtServices 28 = .ok (.aload 6, 2) := by decide +kernel
theorem dX6_lookAtServices_30 : decode cX6_lookAtServices 30 = .ok (.invokevirtual 199, 3) := by decide +kernel
theorem dX6_lookAtServices_33 : decode cX6_lookAtServices 33 = .ok (.istore 7, 2) := by decide +kernel
theorem dX6_lookAtServices_35 : decode cX6_lookAtServices 35 = .ok (.iload 7, 2) := by decide +kernel
theorem dX6_lookAtServices_37 : decode cX6_lookAtServices 37 = .ok (.iconst 2, 1) := by decide +kernel
theorem dX6_lookAtServices_38 : decode cX6_lookAtServices 38 = .ok (.if_icmp .ne 12, 3) := by decide +kernel
theorem dX6_lookAtServices_41 : decode cX6_lookAtServices 41 = .ok (.aload_n 0, 1) := by decide +kernel
theorem dX6_lookAtServices_42 : decode cX6_lookAtServices 42 = .ok (.aload 6, 2) := by decide +kernel
theorem dX6_lookAtServices_44 : decode cX6_lookAtServices 44 = .ok (.invokevirtual 203, 3) := by decide +kernel
theorem dX6_lookAtServices_47 : decode cX6_lookAtServices 47 = .ok (.goto 4, 3) := by decide +kernel
theorem dX6_lookAtServices_50 : decode cX6_lookAtServices 50 = .ok (.iconst 0, 1) := by decide +kernel
theorem dX6_lookAtServices_51 : decode cX6_lookAtServices 51 = .ok (.istore 8, 2) := by decide +kernel
theorem dX6_lookAtServices_53 : decode cX6_lookAtServices 53 = .ok (.iload 7, 2) := by decide +kernel
theorem dX6_lookAtServices_55 : decode cX6_lookAtServices 55 = .ok (.iconst 2, 1) := by decide +kernel
theorem dX6_lookAtServices_56 : decode cX6_lookAtServices 56 = .ok (.if_icmp .ne 20, 3) := by decide +kernel
theorem dX6_lookAtServices_59 : decode cX6_lookAtServices 59 = .ok (.aload 6, 2) := by decide +kernel
theorem dX6_lookAtServices_61 : decode cX6_lookAtServices 61 = .ok (.getfield 156, 3) := by decide +kernel
theorem dX6_lookAtServices_64 : decode cX6_lookAtServices 64 = .ok (.iconst (-1), 1) := by decide +kernel
theorem dX6_lookAtServices_65 : decode cX6_lookAtServices 65 = .ok (.if_icmp .eq 11, 3) := by decide +kernel
theorem dX6_lookAtServices_68 : decode cX6_lookAtServices 68 = .ok (.aload 6, 2) := by decide +kernel
theorem dX6_lookAtServices_70 : decode cX6_lookAtServices 70 = .ok (.getfield 156, 3) := by decide +kernel
theorem dX6_lookAtServices_73 : decode cX6_lookAtServices 73 = .ok (.goto 5, 3) := by decide +kernel
theorem dX6_lookAtServices_76 : decode cX6_lookAtServices 76 = .ok (.iload 8, 2) := by decide +kernel
theorem dX6_lookAtServices_78 : decode cX6_lookAtServices 78 = .ok (.istore 9, 2) := by decide +kernel
theorem dX6_lookAtServices_80 : decode cX6_lookAtServices 80 = .ok (.iload 7, 2) := by decide +kernel
theorem dX6_lookAtServices_82 : decode cX6_lookAtServices 82 = .ok (.aload 6, 2) := by decide +kernel
theorem dX6_lookAtServices_84 : decode cX6_lookAtServices 84 = .ok (.getfield 159, 3) := by decide +kernel
theorem dX6_lookAtServices_87 : decode cX6_lookAtServices 87 = .ok (.if_icmp .ne 23, 3) := by decide +kernel
theorem dX6_lookAtServices_90 : decode cX6_lookAtServices 90 = .ok (.iload 8, 2) := by decide +kernel
theorem dX6_lookAtServices_92 : decode cX6_lookAtServices 92 = .ok (.aload 6, 2) := by decide +kernel
theorem dX6_lookAtServices_94 : decode cX6_lookAtServices 94 = .ok (.getfield 177, 3) := by decide +kernel
theorem dX6_lookAtServices_97 : decode cX6_lookAtServices 97 = .ok (.if_icmp .ne 13, 3) := by decide +kernel
theorem dX6_lookAtServices_100 : decode cX6_lookAtServices 100 = .ok (.iload 9, 2) := by decide +kernel
theorem dX6_lookAtServices_102 : decode cX6_lookAtServices 102 = .ok (.aload 6, 2) := by decide +kernel
theorem dX6_lookAtServices_104 : decode cX6_lookAtServices 104 = .ok (.getfield 192, 3) := by decide +kernel
theorem dX6_lookAtServices_107 : decode cX6_lookAtServices 107 = .ok (.if_icmp .eq 37, 3) := by decide +kernel
theorem dX6_lookAtServices_110 : decode cX6_lookAtServices 110 = .ok (.aload 6, 2) := by decide +kernel
theorem dX6_lookAtServices_112 : decode cX6_lookAtServices 112 = .ok (.iload 7, 2) := by decide +kernel
theorem dX6_lookAtServices_114 : decode cX6_lookAtServices 114 = .ok (.aload_n 0, 1) := by decide +kernel
theorem dX6_lookAtServices_115 : decode cX6_lookAtServices 115 = .ok (.getfield 49, 3) := by decide +kernel
theorem dX6_lookAtServices_118 : decode cX6_lookAtServices 118 = .ok (.invokevirtual 206, 3) := by decide +kernel
theorem dX6_lookAtServices_121 : decode cX6_lookAtServices 121 = .ok (.aload 6, 2) := by decide +kernel
theorem dX6_lookAtServices_123 : decode cX6_lookAtServices 123 = .ok (.iload 8, 2) := by decide +kernel
theorem dX6_lookAtServices_125 : decode cX6_lookAtServices 125 = .ok (.putfield 177, 3) := by decide +kernel
theorem dX6_lookAtServices_128 : decode cX6_lookAtServices 128 = .ok (.aload_n 0, 1) := by decide +kernel
theorem dX6_lookAtServices_129 : decode cX6_lookAtServices 129 = .ok (.aload 6, 2) := by decide +kernel
theorem dX6_lookAtServices_131 : decode cX6_lookAtServices 131 = .ok (.iload 9, 2) := by decide +kernel
theorem dX6_lookAtServices_133 : decode cX6_lookAtServices 133 = .ok (.invokevirtual 180, 3) := by decide +kernel
theorem dX6_lookAtServices_136 : decode cX6_lookAtServices 136 = .ok (.aload 6, 2) := by decide +kernel
theorem dX6_lookAtServices_138 : decode cX6_lookAtServices 138 = .ok (.iload_n 1, 1) := by decide +kernel
theorem dX6_lookAtServices_139 : decode cX6_lookAtServices 139 = .ok (.putfield 174, 3) := by decide +kernel
theorem dX6_lookAtServices_142 : decode cX6_lookAtServices 142 = .ok (.iconst 1, 1) := by decide +kernel
theorem dX6_lookAtServices_143 : decode cX6_lookAtServices 143 = .ok (.istore_n 2, 1) := by decide +kernel
theorem dX6_lookAtServices_144 : decode cX6_lookAtServices 144 = .ok (.iinc 5 1, 3) := by decide +kernel
theorem dX6_lookAtServices_147 : decode cX6_lookAtServices 147 = .ok (.goto (-133), 3) := by decide +kernel
theorem dX6_lookAtServices_150 : decode cX6_lookAtServices 150 = .ok (.iload_n 2, 1) := by decide +kernel
theorem dX6_lookAtServices_151 : decode cX6_lookAtServices 151 = .ok (.ireturn, 1) := by decide +kernel
theorem dX6_nextState_0 : decode cX6_nextState 0 = .ok (.aload_n 1, 1) := by decide +kernel
theorem dX6_nextState_1 : decode cX6_nextState 1 = .ok (.getfield 159, 3) := by decide +kernel
theorem dX6_nextState_4 : decode cX6_nextState 4 = .ok (.iconst 3, 1) := by decide +kernel
theorem dX6_nextState_5 : decode cX6_nextState 5 = .ok (.if_icmp .ne 5, 3) := by decide +kernel
theorem dX6_nextState_8 : decode cX6_nextState 8 = .ok (.iconst 3, 1) := by decide +kernel
theorem dX6_nextState_9 : decode cX6_nextState 9 = .ok (.ireturn, 1) := by decide +kernel
theorem dX6_nextState_10 : decode cX6_nextState 10 = .ok (.aload_n 0, 1) := by decide +kernel
theorem dX6_nextState_11 : decode cX6_nextState 11 = .ok (.aload_n 1, 1) := by decide +kernel
theorem dX6_nextState_12 : decode cX6_nextState 12 = .ok (.invokevirtual 210, 3) := by decide +kernel
theorem dX6_nextState_15 : decode cX6_nextState 15 = .ok (.ifCond .ne 5, 3) := by decide +kernel
theorem dX6_nextState_18 : decode cX6_nextState 18 = .ok (.iconst 0, 1) := by decide +kernel
theorem dX6_nextState_19 : decode cX6_nextState 19 = .ok (.ireturn, 1) := by decide +kernel
theorem dX6_nextState_20 : decode cX6_nextState 20 = .ok (.aload_n 1, 1) := by decide +kernel
theorem dX6_nextState_21 : decode cX6_nextState 21 = .ok (.getfield 159, 3) := by decide +kernel
theorem dX6_nextState_24 : decode cX6_nextState 24 = .ok (.ifCond .ne 32, 3) := by decide +kernel
theorem dX6_nextState_27 : decode cX6_nextState 27 = .ok (.aload_n 0, 1) := by decide +kernel
theorem dX6_nextState_28 : decode cX6_nextState 28 = .ok (.invokevirtual 214, 3) := by decide +kernel
theorem dX6_nextState_31 : decode cX6_nextState 31 = .ok (.aload_n 1, 1) := by decide +kernel
theorem dX6_nextState_32 : decode cX6_nextState 32 = .ok (.getfield 138, 3) := by decide +kernel
theorem dX6_nextState_35 : decode cX6_nextState 35 = .ok (.invokestatic 184, 3) := by decide +kernel
theorem dX6_nextState_38 : decode cX6_nextState 38 = .ok (.ifCond .eq 5, 3) := by decide +kernel
theorem dX6_nextState_41 : decode cX6_nextState 41 = .ok (.iconst 0, 1) := by decide +kernel
theorem dX6_nextState_42 : decode cX6_nextState 42 = .ok (.ireturn, 1) := by decide +kernel
theorem dX6_nextState_43 : decode cX6_nextState 43 = .ok (.aload_n 1, 1) := by decide +kernel
theorem dX6_nextState_44 : decode cX6_nextState 44 = .ok (.getfield 150, 3) := by decide +kernel
theorem dX6_nextState_47 : decode cX6_nextState 47 = .ok (.ifCond .ne 7, 3) := by decide +kernel
theorem dX6_nextState_50 : decode cX6_nextState 50 = .ok (.iconst 2, 1) := by decide +kernel
theorem dX6_nextState_51 : decode cX6_nextState 51 = .ok (.goto 4, 3) := by decide +kernel
theorem dX6_nextState_54 : decode cX6_nextState 54 = .ok (.iconst 1, 1) := by decide +kernel
theorem dX6_nextState_55 : decode cX6_nextState 55 = .ok (.ireturn, 1) := by decide +kernel
theorem dX6_nextState_56 : decode cX6_nextState 56 = .ok (.aload_n 1, 1) := by decide +kernel
theorem dX6_nextState_57 : decode cX6_nextState 57 = .ok (.getfield 159, 3) := by decide +kernel
theorem dX6_nextState_60 : decode cX6_nextState 60 = .ok (.iconst 1, 1) := by decide +kernel
theorem dX6_nextState_61 : decode cX6_nextState 61 = .ok (.if_icmp .ne 18, 3) := by decide +kernel
theorem dX6_nextState_64 : decode cX6_nextState 64 = .ok (.aload_n 1, 1) := by decide +kernel
theorem dX6_nextState_65 : decode cX6_nextState 65 = .ok (.aload_n 0, 1) := by decide +kernel
theorem dX6_nextState_66 : decode cX6_nextState 66 = .ok (.getfield 49, 3) := by decide +kernel
theorem dX6_nextState_69 : decode cX6_nextState 69 = .ok (.invokevirtual 120, 3) := by decide +kernel
theorem dX6_nextState_72 : decode cX6_nextState 72 = .ok (.ifCond .ne 7, 3) := by decide +kernel
theorem dX6_nextState_75 : decode cX6_nextState 75 = .ok (.iconst 1, 1) := by decide +kernel
theorem dX6_nextState_76 : decode cX6_nextState 76 = .ok (.goto 4, 3) := by decide +kernel
theorem dX6_nextState_79 : decode cX6_nextState 79 = .ok (.iconst 2, 1) := by decide +kernel
theorem dX6_nextState_80 : decode cX6_nextState 80 = .ok (.ireturn, 1) := by decide +kernel
theorem dX6_isWanted_0 : decode cX6_isWanted 0 = .ok (.aload_n 0, 1) := by decide +kernel
theorem dX6_isWanted_1 : decode cX6_isWanted 1 = .ok (.aload_n 1, 1) := by decide +kernel
theorem dX6_isWanted_2 : decode cX6_isWanted 2 = .ok (.getfield 138, 3) := by decide +kernel
theorem dX6_isWanted_5 : decode cX6_isWanted 5 = .ok (.iconst 0, 1) := by decide +kernel
theorem dX6_isWanted_6 : decode cX6_isWanted 6 = .ok (.invokevirtual 217, 3) := by decide +kernel
theorem dX6_isWanted_9 : decode cX6_isWanted 9 = .ok (.ifCond .gt 5, 3) := by decide +kernel
theorem dX6_isWanted_12 : decode cX6_isWanted 12 = .ok (.iconst 0, 1) := by decide +kernel
theorem dX6_isWanted_13 : decode cX6_isWanted 13 = .ok (.ireturn, 1) := by decide +kernel
theorem dX6_isWanted_14 : decode cX6_isWanted 14 = .ok (.aload_n 0, 1) := by decide +kernel
theorem dX6_isWanted_15 : decode cX6_isWanted 15 = .ok (.getfield 37, 3) := by decide +kernel
theorem dX6_isWanted_18 : decode cX6_isWanted 18 = .ok (.astore_n 2, 1) := by decide +kernel
theorem dX6_isWanted_19 : decode cX6_isWanted 19 = .ok (.aload_n 2, 1) := by decide +kernel
theorem dX6_isWanted_20 : decode cX6_isWanted 20 = .ok (.arraylength, 1) := by decide +kernel
theorem dX6_isWanted_21 : decode cX6_isWanted 21 = .ok (.istore_n 3, 1) := by decide +kernel
theorem dX6_isWanted_22 : decode cX6_isWanted 22 = .ok (.iconst 0, 1) := by decide +kernel
theorem dX6_isWanted_23 : decode cX6_isWanted 23 = .ok (.istore 4, 2) := by decide +kernel
theorem dX6_isWanted_25 : decode cX6_isWanted 25 = .ok (.iload 4, 2) := by decide +kernel
theorem dX6_isWanted_27 : decode cX6_isWanted 27 = .ok (.iload_n 3, 1) := by decide +kernel
theorem dX6_isWanted_28 : decode cX6_isWanted 28 = .ok (.if_icmp .ge 41, 3) := by decide +kernel
theorem dX6_isWanted_31 : decode cX6_isWanted 31 = .ok (.aload_n 2, 1) := by decide +kernel
theorem dX6_isWanted_32 : decode cX6_isWanted 32 = .ok (.iload 4, 2) := by decide +kernel
theorem dX6_isWanted_34 : decode cX6_isWanted 34 = .ok (.aaload, 1) := by decide +kernel
theorem dX6_isWanted_35 : decode cX6_isWanted 35 = .ok (.astore 5, 2) := by decide +kernel
theorem dX6_isWanted_37 : decode cX6_isWanted 37 = .ok (.aload 5, 2) := by decide +kernel
theorem dX6_isWanted_39 : decode cX6_isWanted 39 = .ok (.getfield 159, 3) := by decide +kernel
theorem dX6_isWanted_42 : decode cX6_isWanted 42 = .ok (.iconst 2, 1) := by decide +kernel
theorem dX6_isWanted_43 : decode cX6_isWanted 43 = .ok (.if_icmp .eq 20, 3) := by decide +kernel
theorem dX6_isWanted_46 : decode cX6_isWanted 46 = .ok (.aload_n 1, 1) := by decide +kernel
theorem dX6_isWanted_47 : decode cX6_isWanted 47 = .ok (.getfield 153, 3) := by decide +kernel
theorem dX6_isWanted_50 : decode cX6_isWanted 50 = .ok (.aload 5, 2) := by decide +kernel
theorem dX6_isWanted_52 : decode cX6_isWanted 52 = .ok (.getfield 195, 3) := by decide +kernel
theorem dX6_isWanted_55 : decode cX6_isWanted 55 = .ok (.invokestatic 184, 3) := by decide +kernel
theorem dX6_isWanted_58 : decode cX6_isWanted 58 = .ok (.ifCond .eq 5, 3) := by decide +kernel
theorem dX6_isWanted_61 : decode cX6_isWanted 61 = .ok (.iconst 0, 1) := by decide +kernel
theorem dX6_isWanted_62 : decode cX6_isWanted 62 = .ok (.ireturn, 1) := by decide +kernel
theorem dX6_isWanted_63 : decode cX6_isWanted 63 = .ok (.iinc 4 1, 3) := by decide +kernel
theorem dX6_isWanted_66 : decode cX6_isWanted 66 = .ok (.goto (-41), 3) := by decide +kernel
theorem dX6_isWanted_69 : decode cX6_isWanted 69 = .ok (.iconst 1, 1) := by decide +kernel
theorem dX6_isWanted_70 : decode cX6_isWanted 70 = .ok (.ireturn, 1) := by decide +kernel
theorem dX6_loadRunning_0 : decode cX6_loadRunning 0 = .ok (.aload_n 0, 1) := by decide +kernel
theorem dX6_loadRunning_1 : decode cX6_loadRunning 1 = .ok (.aload_n 1, 1) := by decide +kernel
theorem dX6_loadRunning_2 : decode cX6_loadRunning 2 = .ok (.getfield 141, 3) := by decide +kernel
theorem dX6_loadRunning_5 : decode cX6_loadRunning 5 = .ok (.aload_n 1, 1) := by decide +kernel
theorem dX6_loadRunning_6 : decode cX6_loadRunning 6 = .ok (.getfield 144, 3) := by decide +kernel
theorem dX6_loadRunning_9 : decode cX6_loadRunning 9 = .ok (.invokevirtual 217, 3) := by decide +kernel
theorem dX6_loadRunning_12 : decode cX6_loadRunning 12 = .ok (.istore_n 2, 1) := by decide +kernel
theorem dX6_loadRunning_13 : decode cX6_loadRunning 13 = .ok (.iconst 0, 1) := by decide +kernel
theorem dX6_loadRunning_14 : decode cX6_loadRunning 14 = .ok (.aload_n 1, 1) := by decide +kernel
theorem dX6_loadRunning_15 : decode cX6_loadRunning 15 = .ok (.getfield 144, 3) := by decide +kernel
theorem dX6_loadRunning_18 : decode cX6_loadRunning 18 = .ok (.iload_n 2, 1) := by decide +kernel
theorem dX6_loadRunning_19 : decode cX6_loadRunning 19 = .ok (.invokestatic 221, 3) := by decide +kernel
theorem dX6_loadRunning_22 : decode cX6_loadRunning 22 = .ok (.invokestatic 226, 3) := by decide +kernel
theorem dX6_loadRunning_25 : decode cX6_loadRunning 25 = .ok (.ireturn, 1) := by decide +kernel
theorem dX6_valueOf_0 : decode cX6_valueOf 0 = .ok (.iconst 0, 1) := by decide +kernel
theorem dX6_valueOf_1 : decode cX6_valueOf 1 = .ok (.istore_n 2, 1) := by decide +kernel
theorem dX6_valueOf_2 : decode cX6_valueOf 2 = .ok (.aload_n 1, 1) := by decide +kernel
theorem dX6_valueOf_3 : decode cX6_valueOf 3 = .ok (.getfield 229, 3) := by decide +kernel
theorem dX6_valueOf_6 : decode cX6_valueOf 6 = .ok (.astore_n 3, 1) := by decide +kernel
theorem dX6_valueOf_7 : decode cX6_valueOf 7 = .ok (.aload_n 3, 1) := by decide +kernel
theorem dX6_valueOf_8 : decode cX6_valueOf 8 = .ok (.arraylength, 1) := by decide +kernel
theorem dX6_valueOf_9 : decode cX6_valueOf 9 = .ok (.istore 4, 2) := by decide +kernel
theorem dX6_valueOf_11 : decode cX6_valueOf 11 = .ok (.iconst 0, 1) := by decide +kernel
theorem dX6_valueOf_12 : decode cX6_valueOf 12 = .ok (.istore 5, 2) := by decide +kernel
theorem dX6_valueOf_14 : decode cX6_valueOf 14 = .ok (.iload 5, 2) := by decide +kernel
theorem dX6_valueOf_16 : decode cX6_valueOf 16 = .ok (.iload 4, 2) := by decide +kernel
theorem dX6_valueOf_18 : decode cX6_valueOf 18 = .ok (.if_icmp .ge 127, 3) := by decide +kernel
theorem dX6_valueOf_21 : decode cX6_valueOf 21 = .ok (.aload_n 3, 1) := by decide +kernel
theorem dX6_valueOf_22 : decode cX6_valueOf 22 = .ok (.iload 5, 2) := by decide +kernel
theorem dX6_valueOf_24 : decode cX6_valueOf 24 = .ok (.iaload, 1) := by decide +kernel
theorem dX6_valueOf_25 : decode cX6_valueOf 25 = .ok (.istore 6, 2) := by decide +kernel
theorem dX6_valueOf_27 : decode cX6_valueOf 27 = .ok (.iload 6, 2) := by decide +kernel
theorem dX6_valueOf_29 : decode cX6_valueOf 29 = .ok (.bipush 15, 2) := by decide +kernel
theorem dX6_valueOf_31 : decode cX6_valueOf 31 = .ok (.iand, 1) := by decide +kernel
theorem dX6_valueOf_32 : decode cX6_valueOf 32 = .ok (.istore 7, 2) := by decide +kernel
theorem dX6_valueOf_34 : decode cX6_valueOf 34 = .ok (.iload 7, 2) := by decide +kernel
theorem dX6_valueOf_36 : decode cX6_valueOf 36 = .ok (.getstatic 232, 3) := by decide +kernel
theorem dX6_valueOf_39 : decode cX6_valueOf 39 = .ok (.arraylength, 1) := by decide +kernel
theorem dX6_valueOf_40 : decode cX6_valueOf 40 = .ok (.if_icmp .ge 12, 3) := by decide +kernel
theorem dX6_valueOf_43 : decode cX6_valueOf 43 = .ok (.getstatic 232, 3) := by decide +kernel
theorem dX6_valueOf_46 : decode cX6_valueOf 46 = .ok (.iload 7, 2) := by decide +kernel
theorem dX6_valueOf_48 : decode cX6_valueOf 48 = .ok (.iaload, 1) := by decide +kernel
theorem dX6_valueOf_49 : decode cX6_valueOf 49 = .ok (.goto 4, 3) := by decide +kernel
theorem dX6_valueOf_52 : decode cX6_valueOf 52 = .ok (.iconst 0, 1) := by decide +kernel
theorem dX6_valueOf_53 : decode cX6_valueOf 53 = .ok (.istore 8, 2) := by decide +kernel
theorem dX6_valueOf_55 : decode cX6_valueOf 55 = .ok (.iload_n 2, 1) := by decide +kernel
theorem dX6_valueOf_56 : decode cX6_valueOf 56 = .ok (.iload 8, 2) := by decide +kernel
theorem dX6_valueOf_58 : decode cX6_valueOf 58 = .ok (.isub, 1) := by decide +kernel
theorem dX6_valueOf_59 : decode cX6_valueOf 59 = .ok (.istore_n 2, 1) := by decide +kernel
theorem dX6_valueOf_60 : decode cX6_valueOf 60 = .ok (.iload_n 2, 1) := by decide +kernel
theorem dX6_valueOf_61 : decode cX6_valueOf 61 = .ok (.ifCond .lt 14, 3) := by decide +kernel
theorem dX6_valueOf_64 : decode cX6_valueOf 64 = .ok (.iload_n 2, 1) := by decide +kernel
theorem dX6_valueOf_65 : decode cX6_valueOf 65 = .ok (.iconst 2, 1) := by decide +kernel
theorem dX6_valueOf_66 : decode cX6_valueOf 66 = .ok (.iadd, 1) := by decide +kernel
theorem dX6_valueOf_67 : decode cX6_valueOf 67 = .ok (.aload_n 0, 1) := by decide +kernel
theorem dX6_valueOf_68 : decode cX6_valueOf 68 = .ok (.getfield 41, 3) := by decide +kernel
theorem dX6_valueOf_71 : decode cX6_valueOf 71 = .ok (.arraylength, 1) := by decide +kernel
theorem dX6_valueOf_72 : decode cX6_valueOf 72 = .ok (.if_icmp .lt 5, 3) := by decide +kernel
theorem dX6_valueOf_75 : decode cX6_valueOf 75 = .ok (.iconst 0, 1) := by decide +kernel
theorem dX6_valueOf_76 : decode cX6_valueOf 76 = .ok (.ireturn, 1) := by decide +kernel
theorem dX6_valueOf_77 : decode cX6_valueOf 77 = .ok (.iload 8, 2) := by decide +kernel
theorem dX6_valueOf_79 : decode cX6_valueOf 79 = .ok (.ifCond .ne 17, 3) := by decide +kernel
theorem dX6_valueOf_82 : decode cX6_valueOf 82 = .ok (.aload_n 0, 1) := by decide +kernel
theorem dX6_valueOf_83 : decode cX6_valueOf 83 = .ok (.iload 7, 2) := by decide +kernel
theorem dX6_valueOf_85 : decode cX6_valueOf 85 = .ok (.iload 6, 2) := by decide +kernel
theorem dX6_valueOf_87 : decode cX6_valueOf 87 = .ok (.iconst 4, 1) := by decide +kernel
theorem dX6_valueOf_88 : decode cX6_valueOf 88 = .ok (.ishr, 1) := by decide +kernel
theorem dX6_valueOf_89 : decode cX6_valueOf 89 = .ok (.invokevirtual 235, 3) := by decide +kernel
theorem dX6_valueOf_92 : decode cX6_valueOf 92 = .ok (.i2l, 1) := by decide +kernel
theorem dX6_valueOf_93 : decode cX6_valueOf 93 = .ok (.goto 30, 3) := by decide +kernel
theorem dX6_valueOf_96 : decode cX6_valueOf 96 = .ok (.iload 7, 2) := by decide +kernel
theorem dX6_valueOf_98 : decode cX6_valueOf 98 = .ok (.aload_n 0, 1) := by decide +kernel
theorem dX6_valueOf_99 : decode cX6_valueOf 99 = .ok (.getfield 41, 3) := by decide +kernel
theorem dX6_valueOf_102 : decode cX6_valueOf 102 = .ok (.iload_n 2, 1) := by decide +kernel
theorem dX6_valueOf_103 : decode cX6_valueOf 103 = .ok (.iaload, 1) := by decide +kernel
theorem dX6_valueOf_104 : decode cX6_valueOf 104 = .ok (.aload_n 0, 1) := by decide +kernel
theorem dX6_valueOf_105 : decode cX6_valueOf 105 = .ok (.getfield 41, 3) := by decide +kernel
theorem dX6_valueOf_108 : decode cX6_valueOf 108 = .ok (.iload_n 2, 1) := by decide +kernel
theorem dX6_valueOf_109 : decode cX6_valueOf 109 = .ok (.iconst 1, 1) := by decide +kernel
theorem dX6_valueOf_110 : decode cX6_valueOf 110 = .ok (.iadd, 1) := by decide +kernel
theorem dX6_valueOf_111 : decode cX6_valueOf 111 = .ok (.iaload, 1) := by decide +kernel
theorem dX6_valueOf_112 : decode cX6_valueOf 112 = .ok (.aload_n 0, 1) := by decide +kernel
theorem dX6_valueOf_113 : decode cX6_valueOf 113 = .ok (.getfield 41, 3) := by decide +kernel
theorem dX6_valueOf_116 : decode cX6_valueOf 116 = .ok (.iload_n 2, 1) := by decide +kernel
theorem dX6_valueOf_117 : decode cX6_valueOf 117 = .ok (.iconst 2, 1) := by decide +kernel
theorem dX6_valueOf_118 : decode cX6_valueOf 118 = .ok (.iadd, 1) := by decide +kernel
theorem dX6_valueOf_119 : decode cX6_valueOf 119 = .ok (.iaload, 1) := by decide +kernel
theorem dX6_valueOf_120 : decode cX6_valueOf 120 = .ok (.invokestatic 238, 3) := by decide +kernel
theorem dX6_valueOf_123 : decode cX6_valueOf 123 = .ok (.lstore 9, 2) := by decide +kernel
theorem dX6_valueOf_125 : decode cX6_valueOf 125 = .ok (.aload_n 0, 1) := by decide +kernel
theorem dX6_valueOf_126 : decode cX6_valueOf 126 = .ok (.getfield 41, 3) := by decide +kernel
theorem dX6_valueOf_129 : decode cX6_valueOf 129 = .ok (.iload_n 2, 1) := by decide +kernel
theorem dX6_valueOf_130 : decode cX6_valueOf 130 = .ok (.lload 9, 2) := by decide +kernel
theorem dX6_valueOf_132 : decode cX6_valueOf 132 = .ok (.invokestatic 242, 3) := by decide +kernel
theorem dX6_valueOf_135 : decode cX6_valueOf 135 = .ok (.iastore, 1) := by decide +kernel
theorem dX6_valueOf_136 : decode cX6_valueOf 136 = .ok (.iinc 2 1, 3) := by decide +kernel
theorem dX6_valueOf_139 : decode cX6_valueOf 139 = .ok (.iinc 5 1, 3) := by decide +kernel
theorem dX6_valueOf_142 : decode cX6_valueOf 142 = .ok (.goto (-128), 3) := by decide +kernel
theorem dX6_valueOf_145 : decode cX6_valueOf 145 = .ok (.aload_n 0, 1) := by decide +kernel
theorem dX6_valueOf_146 : decode cX6_valueOf 146 = .ok (.getfield 41, 3) := by decide +kernel
theorem dX6_valueOf_149 : decode cX6_valueOf 149 = .ok (.iconst 0, 1) := by decide +kernel
theorem dX6_valueOf_150 : decode cX6_valueOf 150 = .ok (.iaload, 1) := by decide +kernel
theorem dX6_valueOf_151 : decode cX6_valueOf 151 = .ok (.ireturn, 1) := by decide +kernel
theorem dX6_valueNamed_0 : decode cX6_valueNamed 0 = .ok (.iload_n 1, 1) := by decide +kernel
theorem dX6_valueNamed_1 : decode cX6_valueNamed 1 = .ok (.tableswitch 88 1 3 #[27, 34, 61], 27) := by decide +kernel
theorem dX6_valueNamed_28 : decode cX6_valueNamed 28 = .ok (.aload_n 0, 1) := by decide +kernel
theorem dX6_valueNamed_29 : decode cX6_valueNamed 29 = .ok (.iload_n 2, 1) := by decide +kernel
theorem dX6_valueNamed_30 : decode cX6_valueNamed 30 = .ok (.iconst 0, 1) := by decide +kernel
theorem dX6_valueNamed_31 : decode cX6_valueNamed 31 = .ok (.invokevirtual 217, 3) := by decide +kernel
theorem dX6_valueNamed_34 : decode cX6_valueNamed 34 = .ok (.ireturn, 1) := by decide +kernel
theorem dX6_valueNamed_35 : decode cX6_valueNamed 35 = .ok (.iload_n 2, 1) := by decide +kernel
theorem dX6_valueNamed_36 : decode cX6_valueNamed 36 = .ok (.ifCond .lt 24, 3) := by decide +kernel
theorem dX6_valueNamed_39 : decode cX6_valueNamed 39 = .ok (.iload_n 2, 1) := by decide +kernel
theorem dX6_valueNamed_40 : decode cX6_valueNamed 40 = .ok (.aload_n 0, 1) := by decide +kernel
theorem dX6_valueNamed_41 : decode cX6_valueNamed 41 = .ok (.getfield 31, 3) := by decide +kernel
theorem dX6_valueNamed_44 : decode cX6_valueNamed 44 = .ok (.arraylength, 1) := by decide +kernel
theorem dX6_valueNamed_45 : decode cX6_valueNamed 45 = .ok (.if_icmp .ge 15, 3) := by decide +kernel
theorem dX6_valueNamed_48 : decode cX6_valueNamed 48 = .ok (.aload_n 0, 1) := by decide +kernel
theorem dX6_valueNamed_49 : decode cX6_valueNamed 49 = .ok (.getfield 31, 3) := by decide +kernel
theorem dX6_valueNamed_52 : decode cX6_valueNamed 52 = .ok (.iload_n 2, 1) := by decide +kernel
theorem dX6_valueNamed_53 : decode cX6_valueNamed 53 = .ok (.aaload, 1) := by decide +kernel
theorem dX6_valueNamed_54 : decode cX6_valueNamed 54 = .ok (.getfield 72, 3) := by decide +kernel
theorem dX6_valueNamed_57 : decode cX6_valueNamed 57 = .ok (.goto 4, 3) := by decide +kernel
theorem dX6_valueNamed_60 : decode cX6_valueNamed 60 = .ok (.iconst 0, 1) := by decide +kernel
theorem dX6_valueNamed_61 : decode cX6_valueNamed 61 = .ok (.ireturn, 1) := by decide +kernel
theorem dX6_valueNamed_62 : decode cX6_valueNamed 62 = .ok (.iload_n 2, 1) := by decide +kernel
theorem dX6_valueNamed_63 : decode cX6_valueNamed 63 = .ok (.ifCond .lt 24, 3) := by decide +kernel
theorem dX6_valueNamed_66 : decode cX6_valueNamed 66 = .ok (.iload_n 2, 1) := by decide +kernel
theorem dX6_valueNamed_67 : decode cX6_valueNamed 67 = .ok (.aload_n 0, 1) := by decide +kernel
theorem dX6_valueNamed_68 : decode cX6_valueNamed 68 = .ok (.getfield 37, 3) := by decide +kernel
theorem dX6_valueNamed_71 : decode cX6_valueNamed 71 = .ok (.arraylength, 1) := by decide +kernel
theorem dX6_valueNamed_72 : decode cX6_valueNamed 72 = .ok (.if_icmp .ge 15, 3) := by decide +kernel
theorem dX6_valueNamed_75 : decode cX6_valueNamed 75 = .ok (.aload_n 0, 1) := by decide +kernel
theorem dX6_valueNamed_76 : decode cX6_valueNamed 76 = .ok (.getfield 37, 3) := by decide +kernel
theorem dX6_valueNamed_79 : decode cX6_valueNamed 79 = .ok (.iload_n 2, 1) := by decide +kernel
theorem dX6_valueNamed_80 : decode cX6_valueNamed 80 = .ok (.aaload, 1) := by decide +kernel
theorem dX6_valueNamed_81 : decode cX6_valueNamed 81 = .ok (.getfield 192, 3) := by decide +kernel
theorem dX6_valueNamed_84 : decode cX6_valueNamed 84 = .ok (.goto 4, 3) := by decide +kernel
theorem dX6_valueNamed_87 : decode cX6_valueNamed 87 = .ok (.iconst 0, 1) := by decide +kernel
theorem dX6_valueNamed_88 : decode cX6_valueNamed 88 = .ok (.ireturn, 1) := by decide +kernel
theorem dX6_valueNamed_89 : decode cX6_valueNamed 89 = .ok (.iload_n 2, 1) := by decide +kernel
theorem dX6_valueNamed_90 : decode cX6_valueNamed 90 = .ok (.ireturn, 1) := by decide +kernel
theorem dX6_cellValue_0 : decode cX6_cellValue 0 = .ok (.iload_n 1, 1) := by decide +kernel
theorem dX6_cellValue_1 : decode cX6_cellValue 1 = .ok (.ifCond .lt 24, 3) := by decide +kernel
theorem dX6_cellValue_4 : decode cX6_cellValue 4 = .ok (.iload_n 1, 1) := by decide +kernel
theorem dX6_cellValue_5 : decode cX6_cellValue 5 = .ok (.aload_n 0, 1) := by decide +kernel
theorem dX6_cellValue_6 : decode cX6_cellValue 6 = .ok (.getfield 22, 3) := by decide +kernel
theorem dX6_cellValue_9 : decode cX6_cellValue 9 = .ok (.arraylength, 1) := by decide +kernel
theorem dX6_cellValue_10 : decode cX6_cellValue 10 = .ok (.if_icmp .ge 15, 3) := by decide +kernel
theorem dX6_cellValue_13 : decode cX6_cellValue 13 = .ok (.aload_n 0, 1) := by decide +kernel
theorem dX6_cellValue_14 : decode cX6_cellValue 14 = .ok (.getfield 22, 3) := by decide +kernel
theorem dX6_cellValue_17 : decode cX6_cellValue 17 = .ok (.iload_n 1, 1) := by decide +kernel
theorem dX6_cellValue_18 : decode cX6_cellValue 18 = .ok (.aaload, 1) := by decide +kernel
theorem dX6_cellValue_19 : decode cX6_cellValue 19 = .ok (.getfield 65, 3) := by decide +kernel
theorem dX6_cellValue_22 : decode cX6_cellValue 22 = .ok (.goto 4, 3) := by decide +kernel
theorem dX6_cellValue_25 : decode cX6_cellValue 25 = .ok (.iload_n 2, 1) := by decide +kernel
theorem dX6_cellValue_26 : decode cX6_cellValue 26 = .ok (.ireturn, 1) := by decide +kernel
theorem dX6_combine_0 : decode cX6_combine 0 = .ok (.iload_n 0, 1) := by decide +kernel
theorem dX6_combine_1 : decode cX6_combine 1 = .ok (.tableswitch 118 4 12 #[51, 55, 60, 65, 71, 82, 93, 104, 111], 51) := by decide +kernel
theorem dX6_combine_52 : decode cX6_combine 52 = .ok (.iload_n 1, 1) := by decide +kernel
theorem dX6_combine_53 : decode cX6_combine 53 = .ok (.ineg, 1) := by decide +kernel
theorem dX6_combine_54 : decode cX6_combine 54 = .ok (.i2l, 1) := by decide +kernel
theorem dX6_combine_55 : decode cX6_combine 55 = .ok (.lreturn, 1) := by decide +kernel
theorem dX6_combine_56 : decode cX6_combine 56 = .ok (.iload_n 1, 1) := by decide +kernel
theorem dX6_combine_57 : decode cX6_combine 57 = .ok (.iload_n 2, 1) := by decide +kernel
theorem dX6_combine_58 : decode cX6_combine 58 = .ok (.iadd, 1) := by decide +kernel
theorem dX6_combine_59 : decode cX6_combine 59 = .ok (.i2l, 1) := by decide +kernel
theorem dX6_combine_60 : decode cX6_combine 60 = .ok (.lreturn, 1) := by decide +kernel
theorem dX6_combine_61 : decode cX6_combine 61 = .ok (.iload_n 1, 1) := by decide +kernel
theorem dX6_combine_62 : decode cX6_combine 62 = .ok (.iload_n 2, 1) := by decide +kernel
theorem dX6_combine_63 : decode cX6_combine 63 = .ok (.isub, 1) := by decide +kernel
theorem dX6_combine_64 : decode cX6_combine 64 = .ok (.i2l, 1) := by decide +kernel
theorem dX6_combine_65 : decode cX6_combine 65 = .ok (.lreturn, 1) := by decide +kernel
theorem dX6_combine_66 : decode cX6_combine 66 = .ok (.iload_n 1, 1) := by decide +kernel
theorem dX6_combine_67 : decode cX6_combine 67 = .ok (.i2l, 1) := by decide +kernel
theorem dX6_combine_68 : decode cX6_combine 68 = .ok (.iload_n 2, 1) := by decide +kernel
theorem dX6_combine_69 : decode cX6_combine 69 = .ok (.i2l, 1) := by decide +kernel
theorem dX6_combine_70 : decode cX6_combine 70 = .ok (.lmul, 1) := by decide +kernel
theorem dX6_combine_71 : decode cX6_combine 71 = .ok (.lreturn, 1) := by decide +kernel
theorem dX6_combine_72 : decode cX6_combine 72 = .ok (.iload_n 1, 1) := by decide +kernel
theorem dX6_combine_73 : decode cX6_combine 73 = .ok (.iload_n 2, 1) := by decide +kernel
theorem dX6_combine_74 : decode cX6_combine 74 = .ok (.if_icmp .ge 7, 3) := by decide +kernel
theorem dX6_combine_77 : decode cX6_combine 77 = .ok (.lconst 1, 1) := by decide +kernel
theorem dX6_combine_78 : decode cX6_combine 78 = .ok (.goto 4, 3) := by decide +kernel
theorem dX6_combine_81 : decode cX6_combine 81 = .ok (.lconst 0, 1) := by decide +kernel
theorem dX6_combine_82 : decode cX6_combine 82 = .ok (.lreturn, 1) := by decide +kernel
theorem dX6_combine_83 : decode cX6_combine 83 = .ok (.iload_n 1, 1) := by decide +kernel
theorem dX6_combine_84 : decode cX6_combine 84 = .ok (.iload_n 2, 1) := by decide +kernel
theorem dX6_combine_85 : decode cX6_combine 85 = .ok (.if_icmp .le 7, 3) := by decide +kernel
theorem dX6_combine_88 : decode cX6_combine 88 = .ok (.lconst 1, 1) := by decide +kernel
theorem dX6_combine_89 : decode cX6_combine 89 = .ok (.goto 4, 3) := by decide +kernel
theorem dX6_combine_92 : decode cX6_combine 92 = .ok (.lconst 0, 1) := by decide +kernel
theorem dX6_combine_93 : decode cX6_combine 93 = .ok (.lreturn, 1) := by decide +kernel
theorem dX6_combine_94 : decode cX6_combine 94 = .ok (.iload_n 1, 1) := by decide +kernel
theorem dX6_combine_95 : decode cX6_combine 95 = .ok (.iload_n 2, 1) := by decide +kernel
theorem dX6_combine_96 : decode cX6_combine 96 = .ok (.if_icmp .ne 7, 3) := by decide +kernel
theorem dX6_combine_99 : decode cX6_combine 99 = .ok (.lconst 1, 1) := by decide +kernel
theorem dX6_combine_100 : decode cX6_combine 100 = .ok (.goto 4, 3) := by decide +kernel
theorem dX6_combine_103 : decode cX6_combine 103 = .ok (.lconst 0, 1) := by decide +kernel
theorem dX6_combine_104 : decode cX6_combine 104 = .ok (.lreturn, 1) := by decide +kernel
theorem dX6_combine_105 : decode cX6_combine 105 = .ok (.iload_n 1, 1) := by decide +kernel
theorem dX6_combine_106 : decode cX6_combine 106 = .ok (.iload_n 2, 1) := by decide +kernel
theorem dX6_combine_107 : decode cX6_combine 107 = .ok (.invokestatic 226, 3) := by decide +kernel
theorem dX6_combine_110 : decode cX6_combine 110 = .ok (.i2l, 1) := by decide +kernel
theorem dX6_combine_111 : decode cX6_combine 111 = .ok (.lreturn, 1) := by decide +kernel
theorem dX6_combine_112 : decode cX6_combine 112 = .ok (.iload_n 1, 1) := by decide +kernel
theorem dX6_combine_113 : decode cX6_combine 113 = .ok (.iload_n 2, 1) := by decide +kernel
theorem dX6_combine_114 : decode cX6_combine 114 = .ok (.invokestatic 221, 3) := by decide +kernel
theorem dX6_combine_117 : decode cX6_combine 117 = .ok (.i2l, 1) := by decide +kernel
theorem dX6_combine_118 : decode cX6_combine 118 = .ok (.lreturn, 1) := by decide +kernel
theorem dX6_combine_119 : decode cX6_combine 119 = .ok (.iload_n 1, 1) := by decide +kernel
theorem dX6_combine_120 : decode cX6_combine 120 = .ok (.ifCond .le 8, 3) := by decide +kernel
theorem dX6_combine_123 : decode cX6_combine 123 = .ok (.iload_n 2, 1) := by decide +kernel
theorem dX6_combine_124 : decode cX6_combine 124 = .ok (.i2l, 1) := by decide +kernel
theorem dX6_combine_125 : decode cX6_combine 125 = .ok (.goto 5, 3) := by decide +kernel
theorem dX6_combine_128 : decode cX6_combine 128 = .ok (.iload_n 3, 1) := by decide +kernel
theorem dX6_combine_129 : decode cX6_combine 129 = .ok (.i2l, 1) := by decide +kernel
theorem dX6_combine_130 : decode cX6_combine 130 = .ok (.lreturn, 1) := by decide +kernel
theorem dX6_arrange_0 : decode cX6_arrange 0 = .ok (.sipush (-4096), 3) := by decide +kernel
theorem dX6_arrange_3 : decode cX6_arrange 3 = .ok (.istore_n 1, 1) := by decide +kernel
theorem dX6_arrange_4 : decode cX6_arrange 4 = .ok (.iconst 0, 1) := by decide +kernel
theorem dX6_arrange_5 : decode cX6_arrange 5 = .ok (.istore_n 2, 1) := by decide +kernel
theorem dX6_arrange_6 : decode cX6_arrange 6 = .ok (.iconst 0, 1) := by decide +kernel
theorem dX6_arrange_7 : decode cX6_arrange 7 = .ok (.istore_n 3, 1) := by decide +kernel
theorem dX6_arrange_8 : decode cX6_arrange 8 = .ok (.iload_n 3, 1) := by decide +kernel
theorem dX6_arrange_9 : decode cX6_arrange 9 = .ok (.bipush 12, 2) := by decide +kernel
theorem dX6_arrange_11 : decode cX6_arrange 11 = .ok (.if_icmp .ge 138, 3) := by decide +kernel
theorem dX6_arrange_14 : decode cX6_arrange 14 = .ok (.iload_n 1, 1) := by decide +kernel
theorem dX6_arrange_15 : decode cX6_arrange 15 = .ok (.iconst (-1), 1) := by decide +kernel
theorem dX6_arrange_16 : decode cX6_arrange 16 = .ok (.if_icmp .eq 133, 3) := by decide +kernel
theorem dX6_arrange_19 : decode cX6_arrange 19 = .ok (.iconst 0, 1) := by decide +kernel
theorem dX6_arrange_20 : decode cX6_arrange 20 = .ok (.istore 4, 2) := by decide +kernel
theorem dX6_arrange_22 : decode cX6_arrange 22 = .ok (.aload_n 0, 1) := by decide +kernel
theorem dX6_arrange_23 : decode cX6_arrange 23 = .ok (.getfield 22, 3) := by decide +kernel
theorem dX6_arrange_26 : decode cX6_arrange 26 = .ok (.astore 5, 2) := by decide +kernel
theorem dX6_arrange_28 : decode cX6_arrange 28 = .ok (.aload 5, 2) := by decide +kernel
theorem dX6_arrange_30 : decode cX6_arrange 30 = .ok (.arraylength, 1) := by decide +kernel
theorem dX6_arrange_31 : decode cX6_arrange 31 = .ok (.istore 6, 2) := by decide +kernel
theorem dX6_arrange_33 : decode cX6_arrange 33 = .ok (.iconst 0, 1) := by decide +kernel
theorem dX6_arrange_34 : decode cX6_arrange 34 = .ok (.istore 7, 2) := by decide +kernel
theorem dX6_arrange_36 : decode cX6_arrange 36 = .ok (.iload 7, 2) := by decide +kernel
theorem dX6_arrange_38 : decode cX6_arrange 38 = .ok (.iload 6, 2) := by decide +kernel
theorem dX6_arrange_40 : decode cX6_arrange 40 = .ok (.if_icmp .ge 98, 3) := by decide +kernel
theorem dX6_arrange_43 : decode cX6_arrange 43 = .ok (.aload 5, 2) := by decide +kernel
theorem dX6_arrange_45 : decode cX6_arrange 45 = .ok (.iload 7, 2) := by decide +kernel
theorem dX6_arrange_47 : decode cX6_arrange 47 = .ok (.aaload, 1) := by decide +kernel
theorem dX6_arrange_48 : decode cX6_arrange 48 = .ok (.astore 8, 2) := by decide +kernel
theorem dX6_arrange_50 : decode cX6_arrange 50 = .ok (.iload_n 1, 1) := by decide +kernel
theorem dX6_arrange_51 : decode cX6_arrange 51 = .ok (.aload 8, 2) := by decide +kernel
theorem dX6_arrange_53 : decode cX6_arrange 53 = .ok (.getfield 130, 3) := by decide +kernel
theorem dX6_arrange_56 : decode cX6_arrange 56 = .ok (.invokestatic 184, 3) := by decide +kernel
theorem dX6_arrange_59 : decode cX6_arrange 59 = .ok (.ifCond .ne 22, 3) := by decide +kernel
theorem dX6_arrange_62 : decode cX6_arrange 62 = .ok (.aload 8, 2) := by decide +kernel
theorem dX6_arrange_64 : decode cX6_arrange 64 = .ok (.getfield 62, 3) := by decide +kernel
theorem dX6_arrange_67 : decode cX6_arrange 67 = .ok (.getfield 196, 3) := by decide +kernel
theorem dX6_arrange_70 : decode cX6_arrange 70 = .ok (.iload_n 1, 1) := by decide +kernel
theorem dX6_arrange_71 : decode cX6_arrange 71 = .ok (.iconst (-1), 1) := by decide +kernel
theorem dX6_arrange_72 : decode cX6_arrange 72 = .ok (.ixor, 1) := by decide +kernel
theorem dX6_arrange_73 : decode cX6_arrange 73 = .ok (.iand, 1) := by decide +kernel
theorem dX6_arrange_74 : decode cX6_arrange 74 = .ok (.ifCond .ne 7, 3) := by decide +kernel
theorem dX6_arrange_77 : decode cX6_arrange 77 = .ok (.iconst 1, 1) := by decide +kernel
theorem dX6_arrange_78 : decode cX6_arrange 78 = .ok (.goto 4, 3) := by decide +kernel
theorem dX6_arrange_81 : decode cX6_arrange 81 = .ok (.iconst 0, 1) := by decide +kernel
theorem dX6_arrange_82 : decode cX6_arrange 82 = .ok (.istore 9, 2) := by decide +kernel
theorem dX6_arrange_84 : decode cX6_arrange 84 = .ok (.iload 9, 2) := by decide +kernel
theorem dX6_arrange_86 : decode cX6_arrange 86 = .ok (.ifCond .eq 46, 3) := by decide +kernel
theorem dX6_arrange_89 : decode cX6_arrange 89 = .ok (.iload_n 2, 1) := by decide +kernel
theorem dX6_arrange_90 : decode cX6_arrange 90 = .ok (.ifCond .lt 42, 3) := by decide +kernel
theorem dX6_arrange_93 : decode cX6_arrange 93 = .ok (.iload_n 2, 1) := by decide +kernel
theorem dX6_arrange_94 : decode cX6_arrange 94 = .ok (.aload_n 0, 1) := by decide +kernel
theorem dX6_arrange_95 : decode cX6_arrange 95 = .ok (.getfield 26, 3) := by decide +kernel
theorem dX6_arrange_98 : decode cX6_arrange 98 = .ok (.arraylength, 1) := by decide +kernel
theorem dX6_arrange_99 : decode cX6_arrange 99 = .ok (.if_icmp .ge 33, 3) := by decide +kernel
theorem dX6_arrange_102 : decode cX6_arrange 102 = .ok (.aload_n 0, 1) := by decide +kernel
theorem dX6_arrange_103 : decode cX6_arrange 103 = .ok (.getfield 26, 3) := by decide +kernel
theorem dX6_arrange_106 : decode cX6_arrange 106 = .ok (.iload_n 2, 1) := by decide +kernel
theorem dX6_arrange_107 : decode cX6_arrange 107 = .ok (.aload 8, 2) := by decide +kernel
theorem dX6_arrange_109 : decode cX6_arrange 109 = .ok (.aastore, 1) := by decide +kernel
theorem dX6_arrange_110 : decode cX6_arrange 110 = .ok (.iinc 2 1, 3) := by decide +kernel
theorem dX6_arrange_113 : decode cX6_arrange 113 = .ok (.aload 8, 2) := by decide +kernel
theorem dX6_arrange_115 : decode cX6_arrange 115 = .ok (.iload_n 3, 1) := by decide +kernel
theorem dX6_arrange_116 : decode cX6_arrange 116 = .ok (.putfield 246, 3) := by decide +kernel
theorem dX6_arrange_119 : decode cX6_arrange 119 = .ok (.iload 4, 2) := by decide +kernel
theorem dX6_arrange_121 : decode cX6_arrange 121 = .ok (.aload 8, 2) := by decide +kernel
theorem dX6_arrange_123 : decode cX6_arrange 123 = .ok (.getfield 130, 3) := by decide +kernel
theorem dX6_arrange_126 : decode cX6_arrange 126 = .ok (.invokestatic 83, 3) := by decide +kernel
theorem dX6_arrange_129 : decode cX6_arrange 129 = .ok (.ior, 1) := by decide +kernel
theorem dX6_arrange_130 : decode cX6_arrange 130 = .ok (.istore 4, 2) := by decide +kernel
theorem dX6_arrange_132 : decode cX6_arrange 132 = .ok (.iinc 7 1, 3) := by decide +kernel
theorem dX6_arrange_135 : decode cX6_arrange 135 = .ok (.goto (-99), 3) := by decide +kernel
theorem dX6_arrange_138 : decode cX6_arrange 138 = .ok (.iload_n 1, 1) := by decide +kernel
theorem dX6_arrange_139 : decode cX6_arrange 139 = .ok (.iload 4, 2) := by decide +kernel
theorem dX6_arrange_141 : decode cX6_arrange 141 = .ok (.ior, 1) := by decide +kernel
theorem dX6_arrange_142 : decode cX6_arrange 142 = .ok (.istore_n 1, 1) := by decide +kernel
theorem dX6_arrange_143 : decode cX6_arrange 143 = .ok (.iinc 3 1, 3) := by decide +kernel
theorem dX6_arrange_146 : decode cX6_arrange 146 = .ok (.goto (-138), 3) := by decide +kernel
theorem dX6_arrange_149 : decode cX6_arrange 149 = .ok (.return_, 1) := by decide +kernel
theorem dX6_withAllRead_0 : decode cX6_withAllRead 0 = .ok (.iload_n 1, 1) := by decide +kernel
theorem dX6_withAllRead_1 : decode cX6_withAllRead 1 = .ok (.istore_n 2, 1) := by decide +kernel
theorem dX6_withAllRead_2 : decode cX6_withAllRead 2 = .ok (.aload_n 0, 1) := by decide +kernel
theorem dX6_withAllRead_3 : decode cX6_withAllRead 3 = .ok (.getfield 26, 3) := by decide +kernel
theorem dX6_withAllRead_6 : decode cX6_withAllRead 6 = .ok (.arraylength, 1) := by decide +kernel
theorem dX6_withAllRead_7 : decode cX6_withAllRead 7 = .ok (.iconst 1, 1) := by decide +kernel
theorem dX6_withAllRead_8 : decode cX6_withAllRead 8 = .ok (.isub, 1) := by decide +kernel
theorem dX6_withAllRead_9 : decode cX6_withAllRead 9 = .ok (.istore_n 3, 1) := by decide +kernel
theorem dX6_withAllRead_10 : decode cX6_withAllRead 10 = .ok (.iload_n 3, 1) := by decide +kernel
theorem dX6_withAllRead_11 : decode cX6_withAllRead 11 = .ok (.ifCond .lt 40, 3) := by decide +kernel
theorem dX6_withAllRead_14 : decode cX6_withAllRead 14 = .ok (.iload_n 2, 1) := by decide +kernel
theorem dX6_withAllRead_15 : decode cX6_withAllRead 15 = .ok (.aload_n 0, 1) := by decide +kernel
theorem dX6_withAllRead_16 : decode cX6_withAllRead 16 = .ok (.getfield 26, 3) := by decide +kernel
theorem dX6_withAllRead_19 : decode cX6_withAllRead 19 = .ok (.iload_n 3, 1) := by decide +kernel
theorem dX6_withAllRead_20 : decode cX6_withAllRead 20 = .ok (.aaload, 1) := by decide +kernel
theorem dX6_withAllRead_21 : decode cX6_withAllRead 21 = .ok (.getfield 130, 3) := by decide +kernel
theorem dX6_withAllRead_24 : decode cX6_withAllRead 24 = .ok (.invokestatic 184, 3) := by decide +kernel
theorem dX6_withAllRead_27 : decode cX6_withAllRead 27 = .ok (.ifCond .eq 18, 3) := by decide +kernel
theorem dX6_withAllRead_30 : decode cX6_withAllRead 30 = .ok (.iload_n 2, 1) := by decide +kernel
theorem dX6_withAllRead_31 : decode cX6_withAllRead 31 = .ok (.aload_n 0, 1) := by decide +kernel
theorem dX6_withAllRead_32 : decode cX6_withAllRead 32 = .ok (.getfield 26, 3) := by decide +kernel
theorem dX6_withAllRead_35 : decode cX6_withAllRead 35 = .ok (.iload_n 3, 1) := by decide +kernel
theorem dX6_withAllRead_36 : decode cX6_withAllRead 36 = .ok (.aaload, 1) := by decide +kernel
theorem dX6_withAllRead_37 : decode cX6_withAllRead 37 = .ok (.getfield 62, 3) := by decide +kernel
theorem dX6_withAllRead_40 : decode cX6_withAllRead 40 = .ok (.getfield 196, 3) := by decide +kernel
theorem dX6_withAllRead_43 : decode cX6_withAllRead 43 = .ok (.ior, 1) := by decide +kernel
theorem dX6_withAllRead_44 : decode cX6_withAllRead 44 = .ok (.istore_n 2, 1) := by decide +kernel
theorem dX6_withAllRead_45 : decode cX6_withAllRead 45 = .ok (.iinc 3 (-1), 3) := by decide +kernel
theorem dX6_withAllRead_48 : decode cX6_withAllRead 48 = .ok (.goto (-38), 3) := by decide +kernel
theorem dX6_withAllRead_51 : decode cX6_withAllRead 51 = .ok (.iload_n 2, 1) := by decide +kernel
theorem dX6_withAllRead_52 : decode cX6_withAllRead 52 = .ok (.ireturn, 1) := by decide +kernel
theorem dX6_findStale_0 : decode cX6_findStale 0 = .ok (.iconst 0, 1) := by decide +kernel
theorem dX6_findStale_1 : decode cX6_findStale 1 = .ok (.istore_n 1, 1) := by decide +kernel
theorem dX6_findStale_2 : decode cX6_findStale 2 = .ok (.iconst 0, 1) := by decide +kernel
theorem dX6_findStale_3 : decode cX6_findStale 3 = .ok (.istore_n 2, 1) := by decide +kernel
theorem dX6_findStale_4 : decode cX6_findStale 4 = .ok (.iload_n 2, 1) := by decide +kernel
theorem dX6_findStale_5 : decode cX6_findStale 5 = .ok (.aload_n 0, 1) := by decide +kernel
theorem dX6_findStale_6 : decode cX6_findStale 6 = .ok (.getfield 31, 3) := by decide +kernel
theorem dX6_findStale_9 : decode cX6_findStale 9 = .ok (.arraylength, 1) := by decide +kernel
theorem dX6_findStale_10 : decode cX6_findStale 10 = .ok (.if_icmp .ge 39, 3) := by decide +kernel
theorem dX6_findStale_13 : decode cX6_findStale 13 = .ok (.iload_n 1, 1) := by decide +kernel
theorem dX6_findStale_14 : decode cX6_findStale 14 = .ok (.aload_n 0, 1) := by decide +kernel
theorem dX6_findStale_15 : decode cX6_findStale 15 = .ok (.getfield 31, 3) := by decide +kernel
theorem dX6_findStale_18 : decode cX6_findStale 18 = .ok (.iload_n 2, 1) := by decide +kernel
theorem dX6_findStale_19 : decode cX6_findStale 19 = .ok (.aaload, 1) := by decide +kernel
theorem dX6_findStale_20 : decode cX6_findStale 20 = .ok (.aload_n 0, 1) := by decide +kernel
theorem dX6_findStale_21 : decode cX6_findStale 21 = .ok (.getfield 49, 3) := by decide +kernel
theorem dX6_findStale_24 : decode cX6_findStale 24 = .ok (.invokevirtual 249, 3) := by decide +kernel
theorem dX6_findStale_27 : decode cX6_findStale 27 = .ok (.ifCond .eq 7, 3) := by decide +kernel
theorem dX6_findStale_30 : decode cX6_findStale 30 = .ok (.iconst 0, 1) := by decide +kernel
theorem dX6_findStale_31 : decode cX6_findStale 31 = .ok (.goto 10, 3) := by decide +kernel
theorem dX6_findStale_34 : decode cX6_findStale 34 = .ok (.bipush 12, 2) := by decide +kernel
theorem dX6_findStale_36 : decode cX6_findStale 36 = .ok (.iload_n 2, 1) := by decide +kernel
theorem dX6_findStale_37 : decode cX6_findStale 37 = .ok (.iadd, 1) := by decide +kernel
theorem dX6_findStale_38 : decode cX6_findStale 38 = .ok (.invokestatic 83, 3) := by decide +kernel
theorem dX6_findStale_41 : decode cX6_findStale 41 = .ok (.ior, 1) := by decide +kernel
theorem dX6_findStale_42 : decode cX6_findStale 42 = .ok (.istore_n 1, 1) := by decide +kernel
theorem dX6_findStale_43 : decode cX6_findStale 43 = .ok (.iinc 2 1, 3) := by decide +kernel
theorem dX6_findStale_46 : decode cX6_findStale 46 = .ok (.goto (-42), 3) := by decide +kernel
theorem dX6_findStale_49 : decode cX6_findStale 49 = .ok (.aload_n 0, 1) := by decide +kernel
theorem dX6_findStale_50 : decode cX6_findStale 50 = .ok (.getfield 26, 3) := by decide +kernel
theorem dX6_findStale_53 : decode cX6_findStale 53 = .ok (.astore_n 2, 1) := by decide +kernel
theorem dX6_findStale_54 : decode cX6_findStale 54 = .ok (.aload_n 2, 1) := by decide +kernel
theorem dX6_findStale_55 : decode cX6_findStale 55 = .ok (.arraylength, 1) := by decide +kernel
theorem dX6_findStale_56 : decode cX6_findStale 56 = .ok (.istore_n 3, 1) := by decide +kernel
theorem dX6_findStale_57 : decode cX6_findStale 57 = .ok (.iconst 0, 1) := by decide +kernel
theorem dX6_findStale_58 : decode cX6_findStale 58 = .ok (.istore 4, 2) := by decide +kernel
theorem dX6_findStale_60 : decode cX6_findStale 60 = .ok (.iload 4, 2) := by decide +kernel
theorem dX6_findStale_62 : decode cX6_findStale 62 = .ok (.iload_n 3, 1) := by decide +kernel
theorem dX6_findStale_63 : decode cX6_findStale 63 = .ok (.if_icmp .ge 47, 3) := by decide +kernel
theorem dX6_findStale_66 : decode cX6_findStale 66 = .ok (.aload_n 2, 1) := by decide +kernel
theorem dX6_findStale_67 : decode cX6_findStale 67 = .ok (.iload 4, 2) := by decide +kernel
theorem dX6_findStale_69 : decode cX6_findStale 69 = .ok (.aaload, 1) := by decide +kernel
theorem dX6_findStale_70 : decode cX6_findStale 70 = .ok (.astore 5, 2) := by decide +kernel
theorem dX6_findStale_72 : decode cX6_findStale 72 = .ok (.aload 5, 2) := by decide +kernel
theorem dX6_findStale_74 : decode cX6_findStale 74 = .ok (.getfield 68, 3) := by decide +kernel
theorem dX6_findStale_77 : decode cX6_findStale 77 = .ok (.ifCond .ne 27, 3) := by decide +kernel
theorem dX6_findStale_80 : decode cX6_findStale 80 = .ok (.aload 5, 2) := by decide +kernel
theorem dX6_findStale_82 : decode cX6_findStale 82 = .ok (.getfield 62, 3) := by decide +kernel
theorem dX6_findStale_85 : decode cX6_findStale 85 = .ok (.getfield 196, 3) := by decide +kernel
theorem dX6_findStale_88 : decode cX6_findStale 88 = .ok (.iload_n 1, 1) := by decide +kernel
theorem dX6_findStale_89 : decode cX6_findStale 89 = .ok (.iand, 1) := by decide +kernel
theorem dX6_findStale_90 : decode cX6_findStale 90 = .ok (.ifCond .eq 14, 3) := by decide +kernel
theorem dX6_findStale_93 : decode cX6_findStale 93 = .ok (.iload_n 1, 1) := by decide +kernel
theorem dX6_findStale_94 : decode cX6_findStale 94 = .ok (.aload 5, 2) := by decide +kernel
theorem dX6_findStale_96 : decode cX6_findStale 96 = .ok (.getfield 130, 3) := by decide +kernel
theorem dX6_findStale_99 : decode cX6_findStale 99 = .ok (.invokestatic 83, 3) := by decide +kernel
theorem dX6_findStale_102 : decode cX6_findStale 102 = .ok (.ior, 1) := by decide +kernel
theorem dX6_findStale_103 : decode cX6_findStale 103 = .ok (.istore_n 1, 1) := by decide +kernel
theorem dX6_findStale_104 : decode cX6_findStale 104 = .ok (.iinc 4 1, 3) := by decide +kernel
theorem dX6_findStale_107 : decode cX6_findStale 107 = .ok (.goto (-47), 3) := by decide +kernel
theorem dX6_findStale_110 : decode cX6_findStale 110 = .ok (.iload_n 1, 1) := by decide +kernel
theorem dX6_findStale_111 : decode cX6_findStale 111 = .ok (.ireturn, 1) := by decide +kernel
theorem dX6_hangsOnItself_0 : decode cX6_hangsOnItself 0 = .ok (.iconst 0, 1) := by decide +kernel
theorem dX6_hangsOnItself_1 : decode cX6_hangsOnItself 1 = .ok (.istore_n 2, 1) := by decide +kernel
theorem dX6_hangsOnItself_2 : decode cX6_hangsOnItself 2 = .ok (.iload_n 1, 1) := by decide +kernel
theorem dX6_hangsOnItself_3 : decode cX6_hangsOnItself 3 = .ok (.ifCond .lt 25, 3) := by decide +kernel
theorem dX6_hangsOnItself_6 : decode cX6_hangsOnItself 6 = .ok (.iload_n 1, 1) := by decide +kernel
theorem dX6_hangsOnItself_7 : decode cX6_hangsOnItself 7 = .ok (.aload_n 0, 1) := by decide +kernel
theorem dX6_hangsOnItself_8 : decode cX6_hangsOnItself 8 = .ok (.getfield 37, 3) := by decide +kernel
theorem dX6_hangsOnItself_11 : decode cX6_hangsOnItself 11 = .ok (.arraylength, 1) := by decide +kernel
theorem dX6_hangsOnItself_12 : decode cX6_hangsOnItself 12 = .ok (.if_icmp .ge 16, 3) := by decide +kernel
theorem dX6_hangsOnItself_15 : decode cX6_hangsOnItself 15 = .ok (.aload_n 0, 1) := by decide +kernel
theorem dX6_hangsOnItself_16 : decode cX6_hangsOnItself 16 = .ok (.aload_n 0, 1) := by decide +kernel
theorem dX6_hangsOnItself_17 : decode cX6_hangsOnItself 17 = .ok (.getfield 37, 3) := by decide +kernel
theorem dX6_hangsOnItself_20 : decode cX6_hangsOnItself 20 = .ok (.iload_n 1, 1) := by decide +kernel
theorem dX6_hangsOnItself_21 : decode cX6_hangsOnItself 21 = .ok (.aaload, 1) := by decide +kernel
theorem dX6_hangsOnItself_22 : decode cX6_hangsOnItself 22 = .ok (.invokevirtual 252, 3) := by decide +kernel
theorem dX6_hangsOnItself_25 : decode cX6_hangsOnItself 25 = .ok (.goto 4, 3) := by decide +kernel
theorem dX6_hangsOnItself_28 : decode cX6_hangsOnItself 28 = .ok (.iconst 0, 1) := by decide +kernel
theorem dX6_hangsOnItself_29 : decode cX6_hangsOnItself 29 = .ok (.istore_n 3, 1) := by decide +kernel
theorem dX6_hangsOnItself_30 : decode cX6_hangsOnItself 30 = .ok (.iconst 0, 1) := by decide +kernel
theorem dX6_hangsOnItself_31 : decode cX6_hangsOnItself 31 = .ok (.istore 4, 2) := by decide +kernel
theorem dX6_hangsOnItself_33 : decode cX6_hangsOnItself 33 = .ok (.iload 4, 2) := by decide +kernel
theorem dX6_hangsOnItself_35 : decode cX6_hangsOnItself 35 = .ok (.iconst 5, 1) := by decide +kernel
theorem dX6_hangsOnItself_36 : decode cX6_hangsOnItself 36 = .ok (.if_icmp .ge 71, 3) := by decide +kernel
theorem dX6_hangsOnItself_39 : decode cX6_hangsOnItself 39 = .ok (.iload_n 3, 1) := by decide +kernel
theorem dX6_hangsOnItself_40 : decode cX6_hangsOnItself 40 = .ok (.iload_n 2, 1) := by decide +kernel
theorem dX6_hangsOnItself_41 : decode cX6_hangsOnItself 41 = .ok (.if_icmp .eq 66, 3) := by decide +kernel
theorem dX6_hangsOnItself_44 : decode cX6_hangsOnItself 44 = .ok (.iload_n 3, 1) := by decide +kernel
theorem dX6_hangsOnItself_45 : decode cX6_hangsOnItself 45 = .ok (.istore_n 2, 1) := by decide +kernel
theorem dX6_hangsOnItself_46 : decode cX6_hangsOnItself 46 = .ok (.aload_n 0, 1) := by decide +kernel
theorem dX6_hangsOnItself_47 : decode cX6_hangsOnItself 47 = .ok (.getfield 37, 3) := by decide +kernel
theorem dX6_hangsOnItself_50 : decode cX6_hangsOnItself 50 = .ok (.astore 5, 2) := by decide +kernel
theorem dX6_hangsOnItself_52 : decode cX6_hangsOnItself 52 = .ok (.aload 5, 2) := by decide +kernel
theorem dX6_hangsOnItself_54 : decode cX6_hangsOnItself 54 = .ok (.arraylength, 1) := by decide +kernel
theorem dX6_hangsOnItself_55 : decode cX6_hangsOnItself 55 = .ok (.istore 6, 2) := by decide +kernel
theorem dX6_hangsOnItself_57 : decode cX6_hangsOnItself 57 = .ok (.iconst 0, 1) := by decide +kernel
theorem dX6_hangsOnItself_58 : decode cX6_hangsOnItself 58 = .ok (.istore 7, 2) := by decide +kernel
theorem dX6_hangsOnItself_60 : decode cX6_hangsOnItself 60 = .ok (.iload 7, 2) := by decide +kernel
theorem dX6_hangsOnItself_62 : decode cX6_hangsOnItself 62 = .ok (.iload 6, 2) := by decide +kernel
theorem dX6_hangsOnItself_64 : decode cX6_hangsOnItself 64 = .ok (.if_icmp .ge 37, 3) := by decide +kernel
theorem dX6_hangsOnItself_67 : decode cX6_hangsOnItself 67 = .ok (.aload 5, 2) := by decide +kernel
theorem dX6_hangsOnItself_69 : decode cX6_hangsOnItself 69 = .ok (.iload 7, 2) := by decide +kernel
theorem dX6_hangsOnItself_71 : decode cX6_hangsOnItself 71 = .ok (.aaload, 1) := by decide +kernel
theorem dX6_hangsOnItself_72 : decode cX6_hangsOnItself 72 = .ok (.astore 8, 2) := by decide +kernel
theorem dX6_hangsOnItself_74 : decode cX6_hangsOnItself 74 = .ok (.iload_n 2, 1) := by decide +kernel
theorem dX6_hangsOnItself_75 : decode cX6_hangsOnItself 75 = .ok (.aload 8, 2) := by decide +kernel
theorem dX6_hangsOnItself_77 : decode cX6_hangsOnItself 77 = .ok (.getfield 195, 3) := by decide +kernel
theorem dX6_hangsOnItself_80 : decode cX6_hangsOnItself 80 = .ok (.invokestatic 184, 3) := by decide +kernel
theorem dX6_hangsOnItself_83 : decode cX6_hangsOnItself 83 = .ok (.ifCond .eq 12, 3) := by decide +kernel
theorem dX6_hangsOnItself_86 : decode cX6_hangsOnItself 86 = .ok (.iload_n 3, 1) := by decide +kernel
theorem dX6_hangsOnItself_87 : decode cX6_hangsOnItself 87 = .ok (.aload_n 0, 1) := by decide +kernel
theorem dX6_hangsOnItself_88 : decode cX6_hangsOnItself 88 = .ok (.aload 8, 2) := by decide +kernel
theorem dX6_hangsOnItself_90 : decode cX6_hangsOnItself 90 = .ok (.invokevirtual 252, 3) := by decide +kernel
theorem dX6_hangsOnItself_93 : decode cX6_hangsOnItself 93 = .ok (.ior, 1) := by decide +kernel
theorem dX6_hangsOnItself_94 : decode cX6_hangsOnItself 94 = .ok (.istore_n 3, 1) := by decide +kernel
theorem dX6_hangsOnItself_95 : decode cX6_hangsOnItself 95 = .ok (.iinc 7 1, 3) := by decide +kernel
theorem dX6_hangsOnItself_98 : decode cX6_hangsOnItself 98 = .ok (.goto (-38), 3) := by decide +kernel
theorem dX6_hangsOnItself_101 : decode cX6_hangsOnItself 101 = .ok (.iinc 4 1, 3) := by decide +kernel
theorem dX6_hangsOnItself_104 : decode cX6_hangsOnItself 104 = .ok (.goto (-71), 3) := by decide +kernel
theorem dX6_hangsOnItself_107 : decode cX6_hangsOnItself 107 = .ok (.iload_n 3, 1) := by decide +kernel
theorem dX6_hangsOnItself_108 : decode cX6_hangsOnItself 108 = .ok (.iload_n 1, 1) := by decide +kernel
theorem dX6_hangsOnItself_109 : decode cX6_hangsOnItself 109 = .ok (.invokestatic 184, 3) := by decide +kernel
theorem dX6_hangsOnItself_112 : decode cX6_hangsOnItself 112 = .ok (.ireturn, 1) := by decide +kernel
theorem dX6_servicesUnder_0 : decode cX6_servicesUnder 0 = .ok (.aload_n 1, 1) := by decide +kernel
theorem dX6_servicesUnder_1 : decode cX6_servicesUnder 1 = .ok (.getfield 138, 3) := by decide +kernel
theorem dX6_servicesUnder_4 : decode cX6_servicesUnder 4 = .ok (.iconst (-1), 1) := by decide +kernel
theorem dX6_servicesUnder_5 : decode cX6_servicesUnder 5 = .ok (.if_icmp .ne 7, 3) := by decide +kernel
theorem dX6_servicesUnder_8 : decode cX6_servicesUnder 8 = .ok (.iconst 0, 1) := by decide +kernel
theorem dX6_servicesUnder_9 : decode cX6_servicesUnder 9 = .ok (.goto 10, 3) := by decide +kernel
theorem dX6_servicesUnder_12 : decode cX6_servicesUnder 12 = .ok (.aload_n 1, 1) := by decide +kernel
theorem dX6_servicesUnder_13 : decode cX6_servicesUnder 13 = .ok (.getfield 138, 3) := by decide +kernel
theorem dX6_servicesUnder_16 : decode cX6_servicesUnder 16 = .ok (.invokestatic 83, 3) := by decide +kernel
theorem dX6_servicesUnder_19 : decode cX6_servicesUnder 19 = .ok (.istore_n 2, 1) := by decide +kernel
theorem dX6_servicesUnder_20 : decode cX6_servicesUnder 20 = .ok (.iload_n 2, 1) := by decide +kernel
theorem dX6_servicesUnder_21 : decode cX6_servicesUnder 21 = .ok (.aload_n 1, 1) := by decide +kernel
theorem dX6_servicesUnder_22 : decode cX6_servicesUnder 22 = .ok (.getfield 141, 3) := by decide +kernel
theorem dX6_servicesUnder_25 : decode cX6_servicesUnder 25 = .ok (.iconst (-1), 1) := by decide +kernel
theorem dX6_servicesUnder_26 : decode cX6_servicesUnder 26 = .ok (.if_icmp .ne 7, 3) := by decide +kernel
theorem dX6_servicesUnder_29 : decode cX6_servicesUnder 29 = .ok (.iconst 0, 1) := by decide +kernel
theorem dX6_servicesUnder_30 : decode cX6_servicesUnder 30 = .ok (.goto 10, 3) := by decide +kernel
theorem dX6_servicesUnder_33 : decode cX6_servicesUnder 33 = .ok (.aload_n 1, 1) := by decide +kernel
theorem dX6_servicesUnder_34 : decode cX6_servicesUnder 34 = .ok (.getfield 141, 3) := by decide +kernel
theorem dX6_servicesUnder_37 : decode cX6_servicesUnder 37 = .ok (.invokestatic 83, 3) := by decide +kernel
theorem dX6_servicesUnder_40 : decode cX6_servicesUnder 40 = .ok (.ior, 1) := by decide +kernel
theorem dX6_servicesUnder_41 : decode cX6_servicesUnder 41 = .ok (.istore_n 2, 1) := by decide +kernel
theorem dX6_servicesUnder_42 : decode cX6_servicesUnder 42 = .ok (.aload_n 1, 1) := by decide +kernel
theorem dX6_servicesUnder_43 : decode cX6_servicesUnder 43 = .ok (.getfield 153, 3) := by decide +kernel
theorem dX6_servicesUnder_46 : decode cX6_servicesUnder 46 = .ok (.aload_n 0, 1) := by decide +kernel
theorem dX6_servicesUnder_47 : decode cX6_servicesUnder 47 = .ok (.iload_n 2, 1) := by decide +kernel
theorem dX6_servicesUnder_48 : decode cX6_servicesUnder 48 = .ok (.invokevirtual 255, 3) := by decide +kernel
theorem dX6_servicesUnder_51 : decode cX6_servicesUnder 51 = .ok (.bipush 17, 2) := by decide +kernel
theorem dX6_servicesUnder_53 : decode cX6_servicesUnder 53 = .ok (.ishr, 1) := by decide +kernel
theorem dX6_servicesUnder_54 : decode cX6_servicesUnder 54 = .ok (.ior, 1) := by decide +kernel
theorem dX6_servicesUnder_55 : decode cX6_servicesUnder 55 = .ok (.ireturn, 1) := by decide +kernel
theorem dX7_init_0 : decode cX7_init 0 = .ok (.aload_n 0, 1) := by decide +kernel
theorem dX7_init_1 : decode cX7_init 1 = .ok (.invokespecial 3, 3) := by decide +kernel
theorem dX7_init_4 : decode cX7_init 4 = .ok (.aload_n 0, 1) := by decide +kernel
theorem dX7_init_5 : decode cX7_init 5 = .ok (.bipush 30, 2) := by decide +kernel
theorem dX7_init_7 : decode cX7_init 7 = .ok (.newarray .char, 2) := by decide +kernel
theorem dX7_init_9 : decode cX7_init 9 = .ok (.putfield 9, 3) := by decide +kernel
theorem dX7_init_12 : decode cX7_init 12 = .ok (.aload_n 0, 1) := by decide +kernel
theorem dX7_init_13 : decode cX7_init 13 = .ok (.iconst 0, 1) := by decide +kernel
theorem dX7_init_14 : decode cX7_init 14 = .ok (.putfield 15, 3) := by decide +kernel
theorem dX7_init_17 : decode cX7_init 17 = .ok (.return_, 1) := by decide +kernel
theorem dX7_isFull_0 : decode cX7_isFull 0 = .ok (.aload_n 0, 1) := by decide +kernel
theorem dX7_isFull_1 : decode cX7_isFull 1 = .ok (.getfield 15, 3) := by decide +kernel
theorem dX7_isFull_4 : decode cX7_isFull 4 = .ok (.aload_n 0, 1) := by decide +kernel
theorem dX7_isFull_5 : decode cX7_isFull 5 = .ok (.getfield 9, 3) := by decide +kernel
theorem dX7_isFull_8 : decode cX7_isFull 8 = .ok (.arraylength, 1) := by decide +kernel
theorem dX7_isFull_9 : decode cX7_isFull 9 = .ok (.if_icmp .lt 7, 3) := by decide +kernel
theorem dX7_isFull_12 : decode cX7_isFull 12 = .ok (.iconst 1, 1) := by decide +kernel
theorem dX7_isFull_13 : decode cX7_isFull 13 = .ok (.goto 4, 3) := by decide +kernel
theorem dX7_isFull_16 : decode cX7_isFull 16 = .ok (.iconst 0, 1) := by decide +kernel
theorem dX7_isFull_17 : decode cX7_isFull 17 = .ok (.ireturn, 1) := by decide +kernel
theorem dX7_add_0 : decode cX7_add 0 = .ok (.aload_n 0, 1) := by decide +kernel
theorem dX7_add_1 : decode cX7_add 1 = .ok (.getfield 15, 3) := by decide +kernel
theorem dX7_add_4 : decode cX7_add 4 = .ok (.ifCond .lt 35, 3) := by decide +kernel
theorem dX7_add_7 : decode cX7_add 7 = .ok (.aload_n 0, 1) := by decide +kernel
theorem dX7_add_8 : decode cX7_add 8 = .ok (.getfield 15, 3) := by decide +kernel
theorem dX7_add_11 : decode cX7_add 11 = .ok (.aload_n 0, 1) := by decide +kernel
theorem dX7_add_12 : decode cX7_add 12 = .ok (.getfield 9, 3) := by decide +kernel
theorem dX7_add_15 : decode cX7_add 15 = .ok (.arraylength, 1) := by decide +kernel
theorem dX7_add_16 : decode cX7_add 16 = .ok (.if_icmp .ge 23, 3) := by decide +kernel
theorem dX7_add_19 : decode cX7_add 19 = .ok (.aload_n 0, 1) := by decide +kernel
theorem dX7_add_20 : decode cX7_add 20 = .ok (.getfield 9, 3) := by decide +kernel
theorem dX7_add_23 : decode cX7_add 23 = .ok (.aload_n 0, 1) := by decide +kernel
theorem dX7_add_24 : decode cX7_add 24 = .ok (.getfield 15, 3) := by decide +kernel
theorem dX7_add_27 : decode cX7_add 27 = .ok (.iload_n 1, 1) := by decide +kernel
theorem dX7_add_28 : decode cX7_add 28 = .ok (.castore, 1) := by decide +kernel
theorem dX7_add_29 : decode cX7_add 29 = .ok (.aload_n 0, 1) := by decide +kernel
theorem dX7_add_30 : decode cX7_add 30 = .ok (.dup, 1) := by decide +kernel
theorem dX7_add_31 : decode cX7_add 31 = .ok (.getfield 15, 3) := by decide +kernel
theorem dX7_add_34 : decode cX7_add 34 = .ok (.iconst 1, 1) := by decide +kernel
theorem dX7_add_35 : decode cX7_add 35 = .ok (.iadd, 1) := by decide +kernel
theorem dX7_add_36 : decode cX7_add 36 = .ok (.putfield 15, 3) := by decide +kernel
theorem dX7_add_39 : decode cX7_add 39 = .ok (.return_, 1) := by decide +kernel
theorem dX7_letterAt_0 : decode cX7_letterAt 0 = .ok (.iload_n 1, 1) := by decide +kernel
theorem dX7_letterAt_1 : decode cX7_letterAt 1 = .ok (.ifCond .lt 24, 3) := by decide +kernel
theorem dX7_letterAt_4 : decode cX7_letterAt 4 = .ok (.iload_n 1, 1) := by decide +kernel
theorem dX7_letterAt_5 : decode cX7_letterAt 5 = .ok (.aload_n 0, 1) := by decide +kernel
theorem dX7_letterAt_6 : decode cX7_letterAt 6 = .ok (.getfield 15, 3) := by decide +kernel
theorem dX7_letterAt_9 : decode cX7_letterAt 9 = .ok (.if_icmp .ge 16, 3) := by decide +kernel
theorem dX7_letterAt_12 : decode cX7_letterAt 12 = .ok (.iload_n 1, 1) := by decide +kernel
theorem dX7_letterAt_13 : decode cX7_letterAt 13 = .ok (.aload_n 0, 1) := by decide +kernel
theorem dX7_letterAt_14 : decode cX7_letterAt 14 = .ok (.getfield 9, 3) := by decide +kernel
theorem dX7_letterAt_17 : decode cX7_letterAt 17 = .ok (.arraylength, 1) := by decide +kernel
theorem dX7_letterAt_18 : decode cX7_letterAt 18 = .ok (.if_icmp .ge 7, 3) := by decide +kernel
theorem dX7_letterAt_21 : decode cX7_letterAt 21 = .ok (.iconst 1, 1) := by decide +kernel
theorem dX7_letterAt_22 : decode cX7_letterAt 22 = .ok (.goto 4, 3) := by decide +kernel
theorem dX7_letterAt_25 : decode cX7_letterAt 25 = .ok (.iconst 0, 1) := by decide +kernel
theorem dX7_letterAt_26 : decode cX7_letterAt 26 = .ok (.istore_n 2, 1) := by decide +kernel
theorem dX7_letterAt_27 : decode cX7_letterAt 27 = .ok (.iload_n 2, 1) := by decide +kernel
theorem dX7_letterAt_28 : decode cX7_letterAt 28 = .ok (.ifCond .eq 12, 3) := by decide +kernel
theorem dX7_letterAt_31 : decode cX7_letterAt 31 = .ok (.aload_n 0, 1) := by decide +kernel
theorem dX7_letterAt_32 : decode cX7_letterAt 32 = .ok (.getfield 9, 3) := by decide +kernel
theorem dX7_letterAt_35 : decode cX7_letterAt 35 = .ok (.iload_n 1, 1) := by decide +kernel
theorem dX7_letterAt_36 : decode cX7_letterAt 36 = .ok (.caload, 1) := by decide +kernel
theorem dX7_letterAt_37 : decode cX7_letterAt 37 = .ok (.goto 4, 3) := by decide +kernel
theorem dX7_letterAt_40 : decode cX7_letterAt 40 = .ok (.iconst 0, 1) := by decide +kernel
theorem dX7_letterAt_41 : decode cX7_letterAt 41 = .ok (.ireturn, 1) := by decide +kernel
theorem dX8_init_0 : decode cX8_init 0 = .ok (.aload_n 0, 1) := by decide +kernel
theorem dX8_init_1 : decode cX8_init 1 = .ok (.invokespecial 3, 3) := by decide +kernel
theorem dX8_init_4 : decode cX8_init 4 = .ok (.aload_n 0, 1) := by decide +kernel
theorem dX8_init_5 : decode cX8_init 5 = .ok (.new 9, 3) := by decide +kernel
theorem dX8_init_8 : decode cX8_init 8 = .ok (.dup, 1) := by decide +kernel
theorem dX8_init_9 : decode cX8_init 9 = .ok (.invokespecial 11, 3) := by decide +kernel
theorem dX8_init_12 : decode cX8_init 12 = .ok (.putfield 12, 3) := by decide +kernel
theorem dX8_init_15 : decode cX8_init 15 = .ok (.aload_n 0, 1) := by decide +kernel
theorem dX8_init_16 : decode cX8_init 16 = .ok (.new 16, 3) := by decide +kernel
theorem dX8_init_19 : decode cX8_init 19 = .ok (.dup, 1) := by decide +kernel
theorem dX8_init_20 : decode cX8_init 20 = .ok (.aload_n 0, 1) := by decide +kernel
theorem dX8_init_21 : decode cX8_init 21 = .ok (.getfield 12, 3) := by decide +kernel
theorem dX8_init_24 : decode cX8_init 24 = .ok (.invokespecial 18, 3) := by decide +kernel
theorem dX8_init_27 : decode cX8_init 27 = .ok (.putfield 21, 3) := by decide +kernel
theorem dX8_init_30 : decode cX8_init 30 = .ok (.aload_n 0, 1) := by decide +kernel
theorem dX8_init_31 : decode cX8_init 31 = .ok (.new 25, 3) := by decide +kernel
theorem dX8_init_34 : decode cX8_init 34 = .ok (.dup, 1) := by decide +kernel
theorem dX8_init_35 : decode cX8_init 35 = .ok (.invokespecial 27, 3) := by decide +kernel
theorem dX8_init_38 : decode cX8_init 38 = .ok (.putfield 28, 3) := by decide +kernel
theorem dX8_init_41 : decode cX8_init 41 = .ok (.aload_n 0, 1) := by decide +kernel
theorem dX8_init_42 : decode cX8_init 42 = .ok (.new 25, 3) := by decide +kernel
theorem dX8_init_45 : decode cX8_init 45 = .ok (.dup, 1) := by decide +kernel
theorem dX8_init_46 : decode cX8_init 46 = .ok (.invokespecial 27, 3) := by decide +kernel
theorem dX8_init_49 : decode cX8_init 49 = .ok (.putfield 32, 3) := by decide +kernel
theorem dX8_init_52 : decode cX8_init 52 = .ok (.aload_n 0, 1) := by decide +kernel
theorem dX8_init_53 : decode cX8_init 53 = .ok (.bipush 40, 2) := by decide +kernel
theorem dX8_init_55 : decode cX8_init 55 = .ok (.anewarray 35, 3) := by decide +kernel
theorem dX8_init_58 : decode cX8_init 58 = .ok (.putfield 37, 3) := by decide +kernel
theorem dX8_init_61 : decode cX8_init 61 = .ok (.aload_n 0, 1) := by decide +kernel
theorem dX8_init_62 : decode cX8_init 62 = .ok (.iconst 0, 1) := by decide +kernel
theorem dX8_init_63 : decode cX8_init 63 = .ok (.putfield 41, 3) := by decide +kernel
theorem dX8_init_66 : decode cX8_init 66 = .ok (.aload_n 0, 1) := by decide +kernel
theorem dX8_init_67 : decode cX8_init 67 = .ok (.new 35, 3) := by decide +kernel
theorem dX8_init_70 : decode cX8_init 70 = .ok (.dup, 1) := by decide +kernel
theorem dX8_init_71 : decode cX8_init 71 = .ok (.bipush 10, 2) := by decide +kernel
theorem dX8_init_73 : decode cX8_init 73 = .ok (.iconst 1, 1) := by decide +kernel
theorem dX8_init_74 : decode cX8_init 74 = .ok (.iconst 0, 1) := by decide +kernel
theorem dX8_init_75 : decode cX8_init 75 = .ok (.iconst 0, 1) := by decide +kernel
theorem dX8_init_76 : decode cX8_init 76 = .ok (.aconst_null, 1) := by decide +kernel
theorem dX8_init_77 : decode cX8_init 77 = .ok (.iconst (-1), 1) := by decide +kernel
theorem dX8_init_78 : decode cX8_init 78 = .ok (.invokespecial 45, 3) := by decide +kernel
theorem dX8_init_81 : decode cX8_init 81 = .ok (.putfield 48, 3) := by decide +kernel
theorem dX8_init_84 : decode cX8_init 84 = .ok (.return_, 1) := by decide +kernel
theorem dX8_type_0 : decode cX8_type 0 = .ok (.iload_n 1, 1) := by decide +kernel
theorem dX8_type_1 : decode cX8_type 1 = .ok (.invokestatic 52, 3) := by decide +kernel
theorem dX8_type_4 : decode cX8_type 4 = .ok (.ifCond .ne 22, 3) := by decide +kernel
theorem dX8_type_7 : decode cX8_type 7 = .ok (.ldc 56, 2) := by decide +kernel
theorem dX8_type_9 : decode cX8_type 9 = .ok (.iload_n 1, 1) := by decide +kernel
theorem dX8_type_10 : decode cX8_type 10 = .ok (.invokevirtual 58, 3) := by decide +kernel
theorem dX8_type_13 : decode cX8_type 13 = .ok (.ifCond .ge 13, 3) := by decide +kernel
theorem dX8_type_16 : decode cX8_type 16 = .ok (.new 64, 3) := by decide +kernel
theorem dX8_type_19 : decode cX8_type 19 = .ok (.dup, 1) := by decide +kernel
theorem dX8_type_20 : decode cX8_type 20 = .ok (.ldc 66, 2) := by decide +kernel
theorem dX8_type_22 : decode cX8_type 22 = .ok (.invokespecial 68, 3) := by decide +kernel
theorem dX8_type_25 : decode cX8_type 25 = .ok (.athrow, 1) := by decide +kernel
theorem dX8_type_26 : decode cX8_type 26 = .ok (.aload_n 0, 1) := by decide +kernel
theorem dX8_type_27 : decode cX8_type 27 = .ok (.getfield 12, 3) := by decide +kernel
theorem dX8_type_30 : decode cX8_type 30 = .ok (.invokevirtual 71, 3) := by decide +kernel
theorem dX8_type_33 : decode cX8_type 33 = .ok (.ifCond .eq 13, 3) := by decide +kernel
theorem dX8_type_36 : decode cX8_type 36 = .ok (.new 75, 3) := by decide +kernel
theorem dX8_type_39 : decode cX8_type 39 = .ok (.dup, 1) := by decide +kernel
theorem dX8_type_40 : decode cX8_type 40 = .ok (.ldc 77, 2) := by decide +kernel
theorem dX8_type_42 : decode cX8_type 42 = .ok (.invokespecial 79, 3) := by decide +kernel
theorem dX8_type_45 : decode cX8_type 45 = .ok (.athrow, 1) := by decide +kernel
theorem dX8_type_46 : decode cX8_type 46 = .ok (.aload_n 0, 1) := by decide +kernel
theorem dX8_type_47 : decode cX8_type 47 = .ok (.getfield 12, 3) := by decide +kernel
theorem dX8_type_50 : decode cX8_type 50 = .ok (.iload_n 1, 1) := by decide +kernel
theorem dX8_type_51 : decode cX8_type 51 = .ok (.invokevirtual 80, 3) := by decide +kernel
theorem dX8_type_54 : decode cX8_type 54 = .ok (.aload_n 0, 1) := by decide +kernel
theorem dX8_type_55 : decode cX8_type 55 = .ok (.getfield 12, 3) := by decide +kernel
theorem dX8_type_58 : decode cX8_type 58 = .ok (.getfield 84, 3) := by decide +kernel
theorem dX8_type_61 : decode cX8_type 61 = .ok (.ireturn, 1) := by decide +kernel
theorem dX8_wipe_0 : decode cX8_wipe 0 = .ok (.aload_n 0, 1) := by decide +kernel
theorem dX8_wipe_1 : decode cX8_wipe 1 = .ok (.getfield 12, 3) := by decide +kernel
theorem dX8_wipe_4 : decode cX8_wipe 4 = .ok (.getfield 84, 3) := by decide +kernel
theorem dX8_wipe_7 : decode cX8_wipe 7 = .ok (.istore_n 1, 1) := by decide +kernel
theorem dX8_wipe_8 : decode cX8_wipe 8 = .ok (.aload_n 0, 1) := by decide +kernel
theorem dX8_wipe_9 : decode cX8_wipe 9 = .ok (.getfield 12, 3) := by decide +kernel
theorem dX8_wipe_12 : decode cX8_wipe 12 = .ok (.iconst 0, 1) := by decide +kernel
theorem dX8_wipe_13 : decode cX8_wipe 13 = .ok (.putfield 84, 3) := by decide +kernel
theorem dX8_wipe_16 : decode cX8_wipe 16 = .ok (.iload_n 1, 1) := by decide +kernel
theorem dX8_wipe_17 : decode cX8_wipe 17 = .ok (.ireturn, 1) := by decide +kernel
theorem dX8_fault_0 : decode cX8_fault 0 = .ok (.aload_n 0, 1) := by decide +kernel
theorem dX8_fault_1 : decode cX8_fault 1 = .ok (.getfield 21, 3) := by decide +kernel
theorem dX8_fault_4 : decode cX8_fault 4 = .ok (.invokevirtual 87, 3) := by decide +kernel
theorem dX8_fault_7 : decode cX8_fault 7 = .ok (.ireturn, 1) := by decide +kernel
theorem dX8_formula_0 : decode cX8_formula 0 = .ok (.iload_n 1, 1) := by decide +kernel
theorem dX8_formula_1 : decode cX8_formula 1 = .ok (.invokestatic 91, 3) := by decide +kernel
theorem dX8_formula_4 : decode cX8_formula 4 = .ok (.aload_n 0, 1) := by decide +kernel
theorem dX8_formula_5 : decode cX8_formula 5 = .ok (.getfield 21, 3) := by decide +kernel
theorem dX8_formula_8 : decode cX8_formula 8 = .ok (.invokevirtual 87, 3) := by decide +kernel
theorem dX8_formula_11 : decode cX8_formula 11 = .ok (.iconst (-1), 1) := by decide +kernel
theorem dX8_formula_12 : decode cX8_formula 12 = .ok (.if_icmp .eq 13, 3) := by decide +kernel
theorem dX8_formula_15 : decode cX8_formula 15 = .ok (.new 64, 3) := by decide +kernel
theorem dX8_formula_18 : decode cX8_formula 18 = .ok (.dup, 1) := by decide +kernel
theorem dX8_formula_19 : decode cX8_formula 19 = .ok (.ldc 95, 2) := by decide +kernel
theorem dX8_formula_21 : decode cX8_formula 21 = .ok (.invokespecial 68, 3) := by decide +kernel
theorem dX8_formula_24 : decode cX8_formula 24 = .ok (.athrow, 1) := by decide +kernel
theorem dX8_formula_25 : decode cX8_formula 25 = .ok (.aload_n 0, 1) := by decide +kernel
theorem dX8_formula_26 : decode cX8_formula 26 = .ok (.getfield 21, 3) := by decide +kernel
theorem dX8_formula_29 : decode cX8_formula 29 = .ok (.invokevirtual 97, 3) := by decide +kernel
theorem dX8_formula_32 : decode cX8_formula 32 = .ok (.astore_n 2, 1) := by decide +kernel
theorem dX8_formula_33 : decode cX8_formula 33 = .ok (.aload_n 0, 1) := by decide +kernel
theorem dX8_formula_34 : decode cX8_formula 34 = .ok (.getfield 28, 3) := by decide +kernel
theorem dX8_formula_37 : decode cX8_formula 37 = .ok (.aload_n 2, 1) := by decide +kernel
theorem dX8_formula_38 : decode cX8_formula 38 = .ok (.getfield 101, 3) := by decide +kernel
theorem dX8_formula_41 : decode cX8_formula 41 = .ok (.invokevirtual 106, 3) := by decide +kernel
theorem dX8_formula_44 : decode cX8_formula 44 = .ok (.iload_n 1, 1) := by decide +kernel
theorem dX8_formula_45 : decode cX8_formula 45 = .ok (.invokestatic 109, 3) := by decide +kernel
theorem dX8_formula_48 : decode cX8_formula 48 = .ok (.ifCond .eq 13, 3) := by decide +kernel
theorem dX8_formula_51 : decode cX8_formula 51 = .ok (.new 75, 3) := by decide +kernel
theorem dX8_formula_54 : decode cX8_formula 54 = .ok (.dup, 1) := by decide +kernel
theorem dX8_formula_55 : decode cX8_formula 55 = .ok (.ldc 113, 2) := by decide +kernel
theorem dX8_formula_57 : decode cX8_formula 57 = .ok (.invokespecial 79, 3) := by decide +kernel
theorem dX8_formula_60 : decode cX8_formula 60 = .ok (.athrow, 1) := by decide +kernel
theorem dX8_formula_61 : decode cX8_formula 61 = .ok (.aload_n 0, 1) := by decide +kernel
theorem dX8_formula_62 : decode cX8_formula 62 = .ok (.iconst 0, 1) := by decide +kernel
theorem dX8_formula_63 : decode cX8_formula 63 = .ok (.iload_n 1, 1) := by decide +kernel
theorem dX8_formula_64 : decode cX8_formula 64 = .ok (.iconst 0, 1) := by decide +kernel
theorem dX8_formula_65 : decode cX8_formula 65 = .ok (.iconst 0, 1) := by decide +kernel
theorem dX8_formula_66 : decode cX8_formula 66 = .ok (.aload_n 2, 1) := by decide +kernel
theorem dX8_formula_67 : decode cX8_formula 67 = .ok (.invokevirtual 115, 3) := by decide +kernel
theorem dX8_formula_70 : decode cX8_formula 70 = .ok (.ireturn, 1) := by decide +kernel
theorem dX8_hold_0 : decode cX8_hold 0 = .ok (.iload_n 1, 1) := by decide +kernel
theorem dX8_hold_1 : decode cX8_hold 1 = .ok (.invokestatic 91, 3) := by decide +kernel
theorem dX8_hold_4 : decode cX8_hold 4 = .ok (.iload_n 2, 1) := by decide +kernel
theorem dX8_hold_5 : decode cX8_hold 5 = .ok (.sipush (-1000), 3) := by decide +kernel
theorem dX8_hold_8 : decode cX8_hold 8 = .ok (.sipush 1000, 3) := by decide +kernel
theorem dX8_hold_11 : decode cX8_hold 11 = .ok (.invokestatic 119, 3) := by decide +kernel
theorem dX8_hold_14 : decode cX8_hold 14 = .ok (.aload_n 0, 1) := by decide +kernel
theorem dX8_hold_15 : decode cX8_hold 15 = .ok (.iconst 1, 1) := by decide +kernel
theorem dX8_hold_16 : decode cX8_hold 16 = .ok (.iload_n 1, 1) := by decide +kernel
theorem dX8_hold_17 : decode cX8_hold 17 = .ok (.iload_n 2, 1) := by decide +kernel
theorem dX8_hold_18 : decode cX8_hold 18 = .ok (.iconst 0, 1) := by decide +kernel
theorem dX8_hold_19 : decode cX8_hold 19 = .ok (.aconst_null, 1) := by decide +kernel
theorem dX8_hold_20 : decode cX8_hold 20 = .ok (.invokevirtual 115, 3) := by decide +kernel
theorem dX8_hold_23 : decode cX8_hold 23 = .ok (.ireturn, 1) := by decide +kernel
theorem dX8_release_0 : decode cX8_release 0 = .ok (.iload_n 1, 1) := by decide +kernel
theorem dX8_release_1 : decode cX8_release 1 = .ok (.invokestatic 91, 3) := by decide +kernel
theorem dX8_release_4 : decode cX8_release 4 = .ok (.aload_n 0, 1) := by decide +kernel
theorem dX8_release_5 : decode cX8_release 5 = .ok (.getfield 28, 3) := by decide +kernel
theorem dX8_release_8 : decode cX8_release 8 = .ok (.getfield 123, 3) := by decide +kernel
theorem dX8_release_11 : decode cX8_release 11 = .ok (.iload_n 1, 1) := by decide +kernel
theorem dX8_release_12 : decode cX8_release 12 = .ok (.aaload, 1) := by decide +kernel
theorem dX8_release_13 : decode cX8_release 13 = .ok (.getfield 127, 3) := by decide +kernel
theorem dX8_release_16 : decode cX8_release 16 = .ok (.ifCond .ne 13, 3) := by decide +kernel
theorem dX8_release_19 : decode cX8_release 19 = .ok (.new 75, 3) := by decide +kernel
theorem dX8_release_22 : decode cX8_release 22 = .ok (.dup, 1) := by decide +kernel
theorem dX8_release_23 : decode cX8_release 23 = .ok (.ldc 133, 2) := by decide +kernel
theorem dX8_release_25 : decode cX8_release 25 = .ok (.invokespecial 79, 3) := by decide +kernel
theorem dX8_release_28 : decode cX8_release 28 = .ok (.athrow, 1) := by decide +kernel
theorem dX8_release_29 : decode cX8_release 29 = .ok (.aload_n 0, 1) := by decide +kernel
theorem dX8_release_30 : decode cX8_release 30 = .ok (.iconst 2, 1) := by decide +kernel
theorem dX8_release_31 : decode cX8_release 31 = .ok (.iload_n 1, 1) := by decide +kernel
theorem dX8_release_32 : decode cX8_release 32 = .ok (.iconst 0, 1) := by decide +kernel
theorem dX8_release_33 : decode cX8_release 33 = .ok (.iconst 0, 1) := by decide +kernel
theorem dX8_release_34 : decode cX8_release 34 = .ok (.aconst_null, 1) := by decide +kernel
theorem dX8_release_35 : decode cX8_release 35 = .ok (.invokevirtual 115, 3) := by decide +kernel
theorem dX8_release_38 : decode cX8_release 38 = .ok (.ireturn, 1) := by decide +kernel
theorem dX8_read_0 : decode cX8_read 0 = .ok (.iload_n 1, 1) := by decide +kernel
theorem dX8_read_1 : decode cX8_read 1 = .ok (.iconst 5, 1) := by decide +kernel
theorem dX8_read_2 : decode cX8_read 2 = .ok (.invokestatic 135, 3) := by decide +kernel
theorem dX8_read_5 : decode cX8_read 5 = .ok (.iload_n 2, 1) := by decide +kernel
theorem dX8_read_6 : decode cX8_read 6 = .ok (.sipush (-1000), 3) := by decide +kernel
theorem dX8_read_9 : decode cX8_read 9 = .ok (.sipush 1000, 3) := by decide +kernel
theorem dX8_read_12 : decode cX8_read 12 = .ok (.invokestatic 119, 3) := by decide +kernel
theorem dX8_read_15 : decode cX8_read 15 = .ok (.aload_n 0, 1) := by decide +kernel
theorem dX8_read_16 : decode cX8_read 16 = .ok (.iconst 3, 1) := by decide +kernel
theorem dX8_read_17 : decode cX8_read 17 = .ok (.iload_n 1, 1) := by decide +kernel
theorem dX8_read_18 : decode cX8_read 18 = .ok (.iload_n 2, 1) := by decide +kernel
theorem dX8_read_19 : decode cX8_read 19 = .ok (.iconst 0, 1) := by decide +kernel
theorem dX8_read_20 : decode cX8_read 20 = .ok (.aconst_null, 1) := by decide +kernel
theorem dX8_read_21 : decode cX8_read 21 = .ok (.invokevirtual 115, 3) := by decide +kernel
theorem dX8_read_24 : decode cX8_read 24 = .ok (.ireturn, 1) := by decide +kernel
theorem dX8_control_0 : decode cX8_control 0 = .ok (.iload_n 1, 1) := by decide +kernel
theorem dX8_control_1 : decode cX8_control 1 = .ok (.invokestatic 139, 3) := by decide +kernel
theorem dX8_control_4 : decode cX8_control 4 = .ok (.iload_n 2, 1) := by decide +kernel
theorem dX8_control_5 : decode cX8_control 5 = .ok (.invokestatic 142, 3) := by decide +kernel
theorem dX8_control_8 : decode cX8_control 8 = .ok (.aload_n 0, 1) := by decide +kernel
theorem dX8_control_9 : decode cX8_control 9 = .ok (.iconst 4, 1) := by decide +kernel
theorem dX8_control_10 : decode cX8_control 10 = .ok (.iload_n 1, 1) := by decide +kernel
theorem dX8_control_11 : decode cX8_control 11 = .ok (.iload_n 2, 1) := by decide +kernel
theorem dX8_control_12 : decode cX8_control 12 = .ok (.iconst 0, 1) := by decide +kernel
theorem dX8_control_13 : decode cX8_control 13 = .ok (.aconst_null, 1) := by decide +kernel
theorem dX8_control_14 : decode cX8_control 14 = .ok (.invokevirtual 115, 3) := by decide +kernel
theorem dX8_control_17 : decode cX8_control 17 = .ok (.ireturn, 1) := by decide +kernel
theorem dX8_limit_0 : decode cX8_limit 0 = .ok (.iload_n 1, 1) := by decide +kernel
theorem dX8_limit_1 : decode cX8_limit 1 = .ok (.invokestatic 139, 3) := by decide +kernel
theorem dX8_limit_4 : decode cX8_limit 4 = .ok (.iload_n 2, 1) := by decide +kernel
theorem dX8_limit_5 : decode cX8_limit 5 = .ok (.invokestatic 142, 3) := by decide +kernel
theorem dX8_limit_8 : decode cX8_limit 8 = .ok (.aload_n 0, 1) := by decide +kernel
theorem dX8_limit_9 : decode cX8_limit 9 = .ok (.iconst 5, 1) := by decide +kernel
theorem dX8_limit_10 : decode cX8_limit 10 = .ok (.iload_n 1, 1) := by decide +kernel
theorem dX8_limit_11 : decode cX8_limit 11 = .ok (.iload_n 2, 1) := by decide +kernel
theorem dX8_limit_12 : decode cX8_limit 12 = .ok (.iconst 0, 1) := by decide +kernel
theorem dX8_limit_13 : decode cX8_limit 13 = .ok (.aconst_null, 1) := by decide +kernel
theorem dX8_limit_14 : decode cX8_limit 14 = .ok (.invokevirtual 115, 3) := by decide +kernel
theorem dX8_limit_17 : decode cX8_limit 17 = .ok (.ireturn, 1) := by decide +kernel
theorem dX8_demand_0 : decode cX8_demand 0 = .ok (.iload_n 1, 1) := by decide +kernel
theorem dX8_demand_1 : decode cX8_demand 1 = .ok (.invokestatic 139, 3) := by decide +kernel
theorem dX8_demand_4 : decode cX8_demand 4 = .ok (.iload_n 2, 1) := by decide +kernel
theorem dX8_demand_5 : decode cX8_demand 5 = .ok (.iconst 0, 1) := by decide +kernel
theorem dX8_demand_6 : decode cX8_demand 6 = .ok (.sipush 1000, 3) := by decide +kernel
theorem dX8_demand_9 : decode cX8_demand 9 = .ok (.invokestatic 119, 3) := by decide +kernel
theorem dX8_demand_12 : decode cX8_demand 12 = .ok (.iload_n 3, 1) := by decide +kernel
theorem dX8_demand_13 : decode cX8_demand 13 = .ok (.iconst 0, 1) := by decide +kernel
theorem dX8_demand_14 : decode cX8_demand 14 = .ok (.bipush 10, 2) := by decide +kernel
theorem dX8_demand_16 : decode cX8_demand 16 = .ok (.invokestatic 119, 3) := by decide +kernel
theorem dX8_demand_19 : decode cX8_demand 19 = .ok (.aload_n 0, 1) := by decide +kernel
theorem dX8_demand_20 : decode cX8_demand 20 = .ok (.bipush 6, 2) := by decide +kernel
theorem dX8_demand_22 : decode cX8_demand 22 = .ok (.iload_n 1, 1) := by decide +kernel
theorem dX8_demand_23 : decode cX8_demand 23 = .ok (.iload_n 2, 1) := by decide +kernel
theorem dX8_demand_24 : decode cX8_demand 24 = .ok (.iload_n 3, 1) := by decide +kernel
theorem dX8_demand_25 : decode cX8_demand 25 = .ok (.aconst_null, 1) := by decide +kernel
theorem dX8_demand_26 : decode cX8_demand 26 = .ok (.invokevirtual 115, 3) := by decide +kernel
theorem dX8_demand_29 : decode cX8_demand 29 = .ok (.ireturn, 1) := by decide +kernel
theorem dX8_need_0 : decode cX8_need 0 = .ok (.iload_n 1, 1) := by decide +kernel
theorem dX8_need_1 : decode cX8_need 1 = .ok (.invokestatic 139, 3) := by decide +kernel
theorem dX8_need_4 : decode cX8_need 4 = .ok (.iload_n 2, 1) := by decide +kernel
theorem dX8_need_5 : decode cX8_need 5 = .ok (.invokestatic 139, 3) := by decide +kernel
theorem dX8_need_8 : decode cX8_need 8 = .ok (.iload_n 1, 1) := by decide +kernel
theorem dX8_need_9 : decode cX8_need 9 = .ok (.iload_n 2, 1) := by decide +kernel
theorem dX8_need_10 : decode cX8_need 10 = .ok (.if_icmp .ne 13, 3) := by decide +kernel
theorem dX8_need_13 : decode cX8_need 13 = .ok (.new 64, 3) := by decide +kernel
theorem dX8_need_16 : decode cX8_need 16 = .ok (.dup, 1) := by decide +kernel
theorem dX8_need_17 : decode cX8_need 17 = .ok (.ldc 145, 2) := by decide +kernel
theorem dX8_need_19 : decode cX8_need 19 = .ok (.invokespecial 68, 3) := by decide +kernel
theorem dX8_need_22 : decode cX8_need 22 = .ok (.athrow, 1) := by decide +kernel
theorem dX8_need_23 : decode cX8_need 23 = .ok (.aload_n 0, 1) := by decide +kernel
theorem dX8_need_24 : decode cX8_need 24 = .ok (.bipush 7, 2) := by decide +kernel
theorem dX8_need_26 : decode cX8_need 26 = .ok (.iload_n 1, 1) := by decide +kernel
theorem dX8_need_27 : decode cX8_need 27 = .ok (.iload_n 2, 1) := by decide +kernel
theorem dX8_need_28 : decode cX8_need 28 = .ok (.iload_n 3, 1) := by decide +kernel
theorem dX8_need_29 : decode cX8_need 29 = .ok (.ifCond .eq 7, 3) := by decide +kernel
theorem dX8_need_32 : decode cX8_need 32 = .ok (.iconst 1, 1) := by decide +kernel
theorem dX8_need_33 : decode cX8_need 33 = .ok (.goto 4, 3) := by decide +kernel
theorem dX8_need_36 : decode cX8_need 36 = .ok (.iconst 0, 1) := by decide +kernel
theorem dX8_need_37 : decode cX8_need 37 = .ok (.aconst_null, 1) := by decide +kernel
theorem dX8_need_38 : decode cX8_need 38 = .ok (.invokevirtual 115, 3) := by decide +kernel
theorem dX8_need_41 : decode cX8_need 41 = .ok (.ireturn, 1) := by decide +kernel
theorem dX8_lie_0 : decode cX8_lie 0 = .ok (.iload_n 1, 1) := by decide +kernel
theorem dX8_lie_1 : decode cX8_lie 1 = .ok (.invokestatic 139, 3) := by decide +kernel
theorem dX8_lie_4 : decode cX8_lie 4 = .ok (.iload_n 2, 1) := by decide +kernel
theorem dX8_lie_5 : decode cX8_lie 5 = .ok (.iconst (-1), 1) := by decide +kernel
theorem dX8_lie_6 : decode cX8_lie 6 = .ok (.if_icmp .eq 11, 3) := by decide +kernel
theorem dX8_lie_9 : decode cX8_lie 9 = .ok (.iload_n 2, 1) := by decide +kernel
theorem dX8_lie_10 : decode cX8_lie 10 = .ok (.iconst 0, 1) := by decide +kernel
theorem dX8_lie_11 : decode cX8_lie 11 = .ok (.sipush 1000, 3) := by decide +kernel
theorem dX8_lie_14 : decode cX8_lie 14 = .ok (.invokestatic 119, 3) := by decide +kernel
theorem dX8_lie_17 : decode cX8_lie 17 = .ok (.aload_n 0, 1) := by decide +kernel
theorem dX8_lie_18 : decode cX8_lie 18 = .ok (.bipush 8, 2) := by decide +kernel
theorem dX8_lie_20 : decode cX8_lie 20 = .ok (.iload_n 1, 1) := by decide +kernel
theorem dX8_lie_21 : decode cX8_lie 21 = .ok (.iload_n 2, 1) := by decide +kernel
theorem dX8_lie_22 : decode cX8_lie 22 = .ok (.iconst 0, 1) := by decide +kernel
theorem dX8_lie_23 : decode cX8_lie 23 = .ok (.aconst_null, 1) := by decide +kernel
theorem dX8_lie_24 : decode cX8_lie 24 = .ok (.invokevirtual 115, 3) := by decide +kernel
theorem dX8_lie_27 : decode cX8_lie 27 = .ok (.ireturn, 1) := by decide +kernel
theorem dX8_mend_0 : decode cX8_mend 0 = .ok (.iload_n 1, 1) := by decide +kernel
theorem dX8_mend_1 : decode cX8_mend 1 = .ok (.invokestatic 139, 3) := by decide +kernel
theorem dX8_mend_4 : decode cX8_mend 4 = .ok (.aload_n 0, 1) := by decide +kernel
theorem dX8_mend_5 : decode cX8_mend 5 = .ok (.getfield 28, 3) := by decide +kernel
theorem dX8_mend_8 : decode cX8_mend 8 = .ok (.getfield 147, 3) := by decide +kernel
theorem dX8_mend_11 : decode cX8_mend 11 = .ok (.iload_n 1, 1) := by decide +kernel
theorem dX8_mend_12 : decode cX8_mend 12 = .ok (.aaload, 1) := by decide +kernel
theorem dX8_mend_13 : decode cX8_mend 13 = .ok (.getfield 151, 3) := by decide +kernel
theorem dX8_mend_16 : decode cX8_mend 16 = .ok (.iconst 3, 1) := by decide +kernel
theorem dX8_mend_17 : decode cX8_mend 17 = .ok (.if_icmp .eq 13, 3) := by decide +kernel
theorem dX8_mend_20 : decode cX8_mend 20 = .ok (.new 75, 3) := by decide +kernel
theorem dX8_mend_23 : decode cX8_mend 23 = .ok (.dup, 1) := by decide +kernel
theorem dX8_mend_24 : decode cX8_mend 24 = .ok (.ldc 156, 2) := by decide +kernel
theorem dX8_mend_26 : decode cX8_mend 26 = .ok (.invokespecial 79, 3) := by decide +kernel
theorem dX8_mend_29 : decode cX8_mend 29 = .ok (.athrow, 1) := by decide +kernel
theorem dX8_mend_30 : decode cX8_mend 30 = .ok (.aload_n 0, 1) := by decide +kernel
theorem dX8_mend_31 : decode cX8_mend 31 = .ok (.bipush 9, 2) := by decide +kernel
theorem dX8_mend_33 : decode cX8_mend 33 = .ok (.iload_n 1, 1) := by decide +kernel
theorem dX8_mend_34 : decode cX8_mend 34 = .ok (.iconst 0, 1) := by decide +kernel
theorem dX8_mend_35 : decode cX8_mend 35 = .ok (.iconst 0, 1) := by decide +kernel
theorem dX8_mend_36 : decode cX8_mend 36 = .ok (.aconst_null, 1) := by decide +kernel
theorem dX8_mend_37 : decode cX8_mend 37 = .ok (.invokevirtual 115, 3) := by decide +kernel
theorem dX8_mend_40 : decode cX8_mend 40 = .ok (.ireturn, 1) := by decide +kernel
theorem dX8_tick_0 : decode cX8_tick 0 = .ok (.iload_n 1, 1) := by decide +kernel
theorem dX8_tick_1 : decode cX8_tick 1 = .ok (.iconst 1, 1) := by decide +kernel
theorem dX8_tick_2 : decode cX8_tick 2 = .ok (.bipush 50, 2) := by decide +kernel
theorem dX8_tick_4 : decode cX8_tick 4 = .ok (.invokestatic 119, 3) := by decide +kernel
theorem dX8_tick_7 : decode cX8_tick 7 = .ok (.aload_n 0, 1) := by decide +kernel
theorem dX8_tick_8 : decode cX8_tick 8 = .ok (.getfield 28, 3) := by decide +kernel
theorem dX8_tick_11 : decode cX8_tick 11 = .ok (.getfield 158, 3) := by decide +kernel
theorem dX8_tick_14 : decode cX8_tick 14 = .ok (.iload_n 1, 1) := by decide +kernel
theorem dX8_tick_15 : decode cX8_tick 15 = .ok (.iadd, 1) := by decide +kernel
theorem dX8_tick_16 : decode cX8_tick 16 = .ok (.sipush 2000, 3) := by decide +kernel
theorem dX8_tick_19 : decode cX8_tick 19 = .ok (.if_icmp .le 13, 3) := by decide +kernel
theorem dX8_tick_22 : decode cX8_tick 22 = .ok (.new 75, 3) := by decide +kernel
theorem dX8_tick_25 : decode cX8_tick 25 = .ok (.dup, 1) := by decide +kernel
theorem dX8_tick_26 : decode cX8_tick 26 = .ok (.ldc 161, 2) := by decide +kernel
theorem dX8_tick_28 : decode cX8_tick 28 = .ok (.invokespecial 79, 3) := by decide +kernel
theorem dX8_tick_31 : decode cX8_tick 31 = .ok (.athrow, 1) := by decide +kernel
theorem dX8_tick_32 : decode cX8_tick 32 = .ok (.aload_n 0, 1) := by decide +kernel
theorem dX8_tick_33 : decode cX8_tick 33 = .ok (.bipush 10, 2) := by decide +kernel
theorem dX8_tick_35 : decode cX8_tick 35 = .ok (.iload_n 1, 1) := by decide +kernel
theorem dX8_tick_36 : decode cX8_tick 36 = .ok (.iconst 0, 1) := by decide +kernel
theorem dX8_tick_37 : decode cX8_tick 37 = .ok (.iconst 0, 1) := by decide +kernel
theorem dX8_tick_38 : decode cX8_tick 38 = .ok (.aconst_null, 1) := by decide +kernel
theorem dX8_tick_39 : decode cX8_tick 39 = .ok (.invokevirtual 115, 3) := by decide +kernel
theorem dX8_tick_42 : decode cX8_tick 42 = .ok (.ireturn, 1) := by decide +kernel
theorem dX8_undo_0 : decode cX8_undo 0 = .ok (.aload_n 0, 1) := by decide +kernel
theorem dX8_undo_1 : decode cX8_undo 1 = .ok (.getfield 41, 3) := by decide +kernel
theorem dX8_undo_4 : decode cX8_undo 4 = .ok (.ifCond .gt 13, 3) := by decide +kernel
theorem dX8_undo_7 : decode cX8_undo 7 = .ok (.new 75, 3) := by decide +kernel
theorem dX8_undo_10 : decode cX8_undo 10 = .ok (.dup, 1) := by decide +kernel
theorem dX8_undo_11 : decode cX8_undo 11 = .ok (.ldc 163, 2) := by decide +kernel
theorem dX8_undo_13 : decode cX8_undo 13 = .ok (.invokespecial 79, 3) := by decide +kernel
theorem dX8_undo_16 : decode cX8_undo 16 = .ok (.athrow, 1) := by decide +kernel
theorem dX8_undo_17 : decode cX8_undo 17 = .ok (.aload_n 0, 1) := by decide +kernel
theorem dX8_undo_18 : decode cX8_undo 18 = .ok (.dup, 1) := by decide +kernel
theorem dX8_undo_19 : decode cX8_undo 19 = .ok (.getfield 41, 3) := by decide +kernel
theorem dX8_undo_22 : decode cX8_undo 22 = .ok (.iconst 1, 1) := by decide +kernel
theorem dX8_undo_23 : decode cX8_undo 23 = .ok (.isub, 1) := by decide +kernel
theorem dX8_undo_24 : decode cX8_undo 24 = .ok (.putfield 41, 3) := by decide +kernel
theorem dX8_undo_27 : decode cX8_undo 27 = .ok (.aload_n 0, 1) := by decide +kernel
theorem dX8_undo_28 : decode cX8_undo 28 = .ok (.aload_n 0, 1) := by decide +kernel
theorem dX8_undo_29 : decode cX8_undo 29 = .ok (.getfield 28, 3) := by decide +kernel
theorem dX8_undo_32 : decode cX8_undo 32 = .ok (.invokevirtual 165, 3) := by decide +kernel
theorem dX8_undo_35 : decode cX8_undo 35 = .ok (.aload_n 0, 1) := by decide +kernel
theorem dX8_undo_36 : decode cX8_undo 36 = .ok (.getfield 41, 3) := by decide +kernel
theorem dX8_undo_39 : decode cX8_undo 39 = .ok (.ireturn, 1) := by decide +kernel
theorem dX8_steps_0 : decode cX8_steps 0 = .ok (.aload_n 0, 1) := by decide +kernel
theorem dX8_steps_1 : decode cX8_steps 1 = .ok (.getfield 41, 3) := by decide +kernel
theorem dX8_steps_4 : decode cX8_steps 4 = .ok (.ireturn, 1) := by decide +kernel
theorem dX8_now_0 : decode cX8_now 0 = .ok (.aload_n 0, 1) := by decide +kernel
theorem dX8_now_1 : decode cX8_now 1 = .ok (.getfield 28, 3) := by decide +kernel
theorem dX8_now_4 : decode cX8_now 4 = .ok (.getfield 158, 3) := by decide +kernel
theorem dX8_now_7 : decode cX8_now 7 = .ok (.ireturn, 1) := by decide +kernel
theorem dX8_value_0 : decode cX8_value 0 = .ok (.iload_n 1, 1) := by decide +kernel
theorem dX8_value_1 : decode cX8_value 1 = .ok (.invokestatic 91, 3) := by decide +kernel
theorem dX8_value_4 : decode cX8_value 4 = .ok (.aload_n 0, 1) := by decide +kernel
theorem dX8_value_5 : decode cX8_value 5 = .ok (.getfield 28, 3) := by decide +kernel
theorem dX8_value_8 : decode cX8_value 8 = .ok (.getfield 123, 3) := by decide +kernel
theorem dX8_value_11 : decode cX8_value 11 = .ok (.iload_n 1, 1) := by decide +kernel
theorem dX8_value_12 : decode cX8_value 12 = .ok (.aaload, 1) := by decide +kernel
theorem dX8_value_13 : decode cX8_value 13 = .ok (.getfield 169, 3) := by decide +kernel
theorem dX8_value_16 : decode cX8_value 16 = .ok (.ireturn, 1) := by decide +kernel
theorem dX8_valueAnew_0 : decode cX8_valueAnew 0 = .ok (.iload_n 1, 1) := by decide +kernel
theorem dX8_valueAnew_1 : decode cX8_valueAnew 1 = .ok (.invokestatic 91, 3) := by decide +kernel
theorem dX8_valueAnew_4 : decode cX8_valueAnew 4 = .ok (.aload_n 0, 1) := by decide +kernel
theorem dX8_valueAnew_5 : decode cX8_valueAnew 5 = .ok (.aload_n 0, 1) := by decide +kernel
theorem dX8_valueAnew_6 : decode cX8_valueAnew 6 = .ok (.getfield 32, 3) := by decide +kernel
theorem dX8_valueAnew_9 : decode cX8_valueAnew 9 = .ok (.invokevirtual 165, 3) := by decide +kernel
theorem dX8_valueAnew_12 : decode cX8_valueAnew 12 = .ok (.aload_n 0, 1) := by decide +kernel
theorem dX8_valueAnew_13 : decode cX8_valueAnew 13 = .ok (.getfield 32, 3) := by decide +kernel
theorem dX8_valueAnew_16 : decode cX8_valueAnew 16 = .ok (.getfield 123, 3) := by decide +kernel
theorem dX8_valueAnew_19 : decode cX8_valueAnew 19 = .ok (.iload_n 1, 1) := by decide +kernel
theorem dX8_valueAnew_20 : decode cX8_valueAnew 20 = .ok (.aaload, 1) := by decide +kernel
theorem dX8_valueAnew_21 : decode cX8_valueAnew 21 = .ok (.getfield 169, 3) := by decide +kernel
theorem dX8_valueAnew_24 : decode cX8_valueAnew 24 = .ok (.ireturn, 1) := by decide +kernel
theorem dX8_worth_0 : decode cX8_worth 0 = .ok (.iload_n 1, 1) := by decide +kernel
theorem dX8_worth_1 : decode cX8_worth 1 = .ok (.invokestatic 91, 3) := by decide +kernel
theorem dX8_worth_4 : decode cX8_worth 4 = .ok (.aload_n 0, 1) := by decide +kernel
theorem dX8_worth_5 : decode cX8_worth 5 = .ok (.getfield 28, 3) := by decide +kernel
theorem dX8_worth_8 : decode cX8_worth 8 = .ok (.aload_n 0, 1) := by decide +kernel
theorem dX8_worth_9 : decode cX8_worth 9 = .ok (.getfield 28, 3) := by decide +kernel
theorem dX8_worth_12 : decode cX8_worth 12 = .ok (.getfield 123, 3) := by decide +kernel
theorem dX8_worth_15 : decode cX8_worth 15 = .ok (.iload_n 1, 1) := by decide +kernel
theorem dX8_worth_16 : decode cX8_worth 16 = .ok (.aaload, 1) := by decide +kernel
theorem dX8_worth_17 : decode cX8_worth 17 = .ok (.getfield 172, 3) := by decide +kernel
theorem dX8_worth_20 : decode cX8_worth 20 = .ok (.invokevirtual 176, 3) := by decide +kernel
theorem dX8_worth_23 : decode cX8_worth 23 = .ok (.ireturn, 1) := by decide +kernel
theorem dX8_depth_0 : decode cX8_depth 0 = .ok (.iload_n 1, 1) := by decide +kernel
theorem dX8_depth_1 : decode cX8_depth 1 = .ok (.invokestatic 91, 3) := by decide +kernel
theorem dX8_depth_4 : decode cX8_depth 4 = .ok (.aload_n 0, 1) := by decide +kernel
theorem dX8_depth_5 : decode cX8_depth 5 = .ok (.getfield 28, 3) := by decide +kernel
theorem dX8_depth_8 : decode cX8_depth 8 = .ok (.getfield 123, 3) := by decide +kernel
theorem dX8_depth_11 : decode cX8_depth 11 = .ok (.iload_n 1, 1) := by decide +kernel
theorem dX8_depth_12 : decode cX8_depth 12 = .ok (.aaload, 1) := by decide +kernel
theorem dX8_depth_13 : decode cX8_depth 13 = .ok (.getfield 180, 3) := by decide +kernel
theorem dX8_depth_16 : decode cX8_depth 16 = .ok (.ireturn, 1) := by decide +kernel
theorem dX8_isStale_0 : decode cX8_isStale 0 = .ok (.iload_n 1, 1) := by decide +kernel
theorem dX8_isStale_1 : decode cX8_isStale 1 = .ok (.invokestatic 91, 3) := by decide +kernel
theorem dX8_isStale_4 : decode cX8_isStale 4 = .ok (.aload_n 0, 1) := by decide +kernel
theorem dX8_isStale_5 : decode cX8_isStale 5 = .ok (.getfield 28, 3) := by decide +kernel
theorem dX8_isStale_8 : decode cX8_isStale 8 = .ok (.invokevirtual 183, 3) := by decide +kernel
theorem dX8_isStale_11 : decode cX8_isStale 11 = .ok (.iload_n 1, 1) := by decide +kernel
theorem dX8_isStale_12 : decode cX8_isStale 12 = .ok (.invokestatic 109, 3) := by decide +kernel
theorem dX8_isStale_15 : decode cX8_isStale 15 = .ok (.ireturn, 1) := by decide +kernel
theorem dX8_work_0 : decode cX8_work 0 = .ok (.aload_n 0, 1) := by decide +kernel
theorem dX8_work_1 : decode cX8_work 1 = .ok (.getfield 28, 3) := by decide +kernel
theorem dX8_work_4 : decode cX8_work 4 = .ok (.getfield 186, 3) := by decide +kernel
theorem dX8_work_7 : decode cX8_work 7 = .ok (.ireturn, 1) := by decide +kernel
theorem dX8_state_0 : decode cX8_state 0 = .ok (.iload_n 1, 1) := by decide +kernel
theorem dX8_state_1 : decode cX8_state 1 = .ok (.invokestatic 139, 3) := by decide +kernel
theorem dX8_state_4 : decode cX8_state 4 = .ok (.aload_n 0, 1) := by decide +kernel
theorem dX8_state_5 : decode cX8_state 5 = .ok (.getfield 28, 3) := by decide +kernel
theorem dX8_state_8 : decode cX8_state 8 = .ok (.getfield 147, 3) := by decide +kernel
theorem dX8_state_11 : decode cX8_state 11 = .ok (.iload_n 1, 1) := by decide +kernel
theorem dX8_state_12 : decode cX8_state 12 = .ok (.aaload, 1) := by decide +kernel
theorem dX8_state_13 : decode cX8_state 13 = .ok (.getfield 151, 3) := by decide +kernel
theorem dX8_state_16 : decode cX8_state 16 = .ok (.ireturn, 1) := by decide +kernel
theorem dX8_load_0 : decode cX8_load 0 = .ok (.iload_n 1, 1) := by decide +kernel
theorem dX8_load_1 : decode cX8_load 1 = .ok (.invokestatic 139, 3) := by decide +kernel
theorem dX8_load_4 : decode cX8_load 4 = .ok (.aload_n 0, 1) := by decide +kernel
theorem dX8_load_5 : decode cX8_load 5 = .ok (.getfield 28, 3) := by decide +kernel
theorem dX8_load_8 : decode cX8_load 8 = .ok (.getfield 147, 3) := by decide +kernel
theorem dX8_load_11 : decode cX8_load 11 = .ok (.iload_n 1, 1) := by decide +kernel
theorem dX8_load_12 : decode cX8_load 12 = .ok (.aaload, 1) := by decide +kernel
theorem dX8_load_13 : decode cX8_load 13 = .ok (.getfield 189, 3) := by decide +kernel
theorem dX8_load_16 : decode cX8_load 16 = .ok (.ireturn, 1) := by decide +kernel
theorem dX8_told_0 : decode cX8_told 0 = .ok (.iload_n 1, 1) := by decide +kernel
theorem dX8_told_1 : decode cX8_told 1 = .ok (.invokestatic 139, 3) := by decide +kernel
theorem dX8_told_4 : decode cX8_told 4 = .ok (.aload_n 0, 1) := by decide +kernel
theorem dX8_told_5 : decode cX8_told 5 = .ok (.getfield 28, 3) := by decide +kernel
theorem dX8_told_8 : decode cX8_told 8 = .ok (.getfield 147, 3) := by decide +kernel
theorem dX8_told_11 : decode cX8_told 11 = .ok (.iload_n 1, 1) := by decide +kernel
theorem dX8_told_12 : decode cX8_told 12 = .ok (.aaload, 1) := by decide +kernel
theorem dX8_told_13 : decode cX8_told 13 = .ok (.getfield 192, 3) := by decide +kernel
theorem dX8_told_16 : decode cX8_told 16 = .ok (.ireturn, 1) := by decide +kernel
theorem dX8_starts_0 : decode cX8_starts 0 = .ok (.iload_n 1, 1) := by decide +kernel
theorem dX8_starts_1 : decode cX8_starts 1 = .ok (.invokestatic 139, 3) := by decide +kernel
theorem dX8_starts_4 : decode cX8_starts 4 = .ok (.aload_n 0, 1) := by decide +kernel
theorem dX8_starts_5 : decode cX8_starts 5 = .ok (.getfield 28, 3) := by decide +kernel
theorem dX8_starts_8 : decode cX8_starts 8 = .ok (.getfield 147, 3) := by decide +kernel
theorem dX8_starts_11 : decode cX8_starts 11 = .ok (.iload_n 1, 1) := by decide +kernel
theorem dX8_starts_12 : decode cX8_starts 12 = .ok (.aaload, 1) := by decide +kernel
theorem dX8_starts_13 : decode cX8_starts 13 = .ok (.getfield 195, 3) := by decide +kernel
theorem dX8_starts_16 : decode cX8_starts 16 = .ok (.ireturn, 1) := by decide +kernel
theorem dX8_trial_0 : decode cX8_trial 0 = .ok (.iload_n 1, 1) := by decide +kernel
theorem dX8_trial_1 : decode cX8_trial 1 = .ok (.invokestatic 139, 3) := by decide +kernel
theorem dX8_trial_4 : decode cX8_trial 4 = .ok (.aload_n 0, 1) := by decide +kernel
theorem dX8_trial_5 : decode cX8_trial 5 = .ok (.getfield 32, 3) := by decide +kernel
theorem dX8_trial_8 : decode cX8_trial 8 = .ok (.aload_n 0, 1) := by decide +kernel
theorem dX8_trial_9 : decode cX8_trial 9 = .ok (.getfield 28, 3) := by decide +kernel
theorem dX8_trial_12 : decode cX8_trial 12 = .ok (.iconst 0, 1) := by decide +kernel
theorem dX8_trial_13 : decode cX8_trial 13 = .ok (.aload_n 0, 1) := by decide +kernel
theorem dX8_trial_14 : decode cX8_trial 14 = .ok (.getfield 28, 3) := by decide +kernel
theorem dX8_trial_17 : decode cX8_trial 17 = .ok (.getfield 158, 3) := by decide +kernel
theorem dX8_trial_20 : decode cX8_trial 20 = .ok (.bipush 23, 2) := by decide +kernel
theorem dX8_trial_22 : decode cX8_trial 22 = .ok (.isub, 1) := by decide +kernel
theorem dX8_trial_23 : decode cX8_trial 23 = .ok (.invokestatic 198, 3) := by decide +kernel
theorem dX8_trial_26 : decode cX8_trial 26 = .ok (.invokevirtual 204, 3) := by decide +kernel
theorem dX8_trial_29 : decode cX8_trial 29 = .ok (.aload_n 0, 1) := by decide +kernel
theorem dX8_trial_30 : decode cX8_trial 30 = .ok (.getfield 32, 3) := by decide +kernel
theorem dX8_trial_33 : decode cX8_trial 33 = .ok (.invokevirtual 208, 3) := by decide +kernel
theorem dX8_trial_36 : decode cX8_trial 36 = .ok (.pop, 1) := by decide +kernel
theorem dX8_trial_37 : decode cX8_trial 37 = .ok (.iconst 0, 1) := by decide +kernel
theorem dX8_trial_38 : decode cX8_trial 38 = .ok (.istore_n 2, 1) := by decide +kernel
theorem dX8_trial_39 : decode cX8_trial 39 = .ok (.iload_n 2, 1) := by decide +kernel
theorem dX8_trial_40 : decode cX8_trial 40 = .ok (.bipush 24, 2) := by decide +kernel
theorem dX8_trial_42 : decode cX8_trial 42 = .ok (.if_icmp .ge 46, 3) := by decide +kernel
theorem dX8_trial_45 : decode cX8_trial 45 = .ok (.aload_n 0, 1) := by decide +kernel
theorem dX8_trial_46 : decode cX8_trial 46 = .ok (.getfield 32, 3) := by decide +kernel
theorem dX8_trial_49 : decode cX8_trial 49 = .ok (.getfield 158, 3) := by decide +kernel
theorem dX8_trial_52 : decode cX8_trial 52 = .ok (.aload_n 0, 1) := by decide +kernel
theorem dX8_trial_53 : decode cX8_trial 53 = .ok (.getfield 28, 3) := by decide +kernel
theorem dX8_trial_56 : decode cX8_trial 56 = .ok (.getfield 158, 3) := by decide +kernel
theorem dX8_trial_59 : decode cX8_trial 59 = .ok (.if_icmp .ge 29, 3) := by decide +kernel
theorem dX8_trial_62 : decode cX8_trial 62 = .ok (.aload_n 0, 1) := by decide +kernel
theorem dX8_trial_63 : decode cX8_trial 63 = .ok (.aload_n 0, 1) := by decide +kernel
theorem dX8_trial_64 : decode cX8_trial 64 = .ok (.getfield 32, 3) := by decide +kernel
theorem dX8_trial_67 : decode cX8_trial 67 = .ok (.invokevirtual 211, 3) := by decide +kernel
theorem dX8_trial_70 : decode cX8_trial 70 = .ok (.aload_n 0, 1) := by decide +kernel
theorem dX8_trial_71 : decode cX8_trial 71 = .ok (.getfield 32, 3) := by decide +kernel
theorem dX8_trial_74 : decode cX8_trial 74 = .ok (.aload_n 0, 1) := by decide +kernel
theorem dX8_trial_75 : decode cX8_trial 75 = .ok (.getfield 48, 3) := by decide +kernel
theorem dX8_trial_78 : decode cX8_trial 78 = .ok (.invokevirtual 214, 3) := by decide +kernel
theorem dX8_trial_81 : decode cX8_trial 81 = .ok (.pop, 1) := by decide +kernel
theorem dX8_trial_82 : decode cX8_trial 82 = .ok (.iinc 2 1, 3) := by decide +kernel
theorem dX8_trial_85 : decode cX8_trial 85 = .ok (.goto (-46), 3) := by decide +kernel
theorem dX8_trial_88 : decode cX8_trial 88 = .ok (.aload_n 0, 1) := by decide +kernel
theorem dX8_trial_89 : decode cX8_trial 89 = .ok (.aload_n 0, 1) := by decide +kernel
theorem dX8_trial_90 : decode cX8_trial 90 = .ok (.getfield 32, 3) := by decide +kernel
theorem dX8_trial_93 : decode cX8_trial 93 = .ok (.invokevirtual 211, 3) := by decide +kernel
theorem dX8_trial_96 : decode cX8_trial 96 = .ok (.aload_n 0, 1) := by decide +kernel
theorem dX8_trial_97 : decode cX8_trial 97 = .ok (.getfield 32, 3) := by decide +kernel
theorem dX8_trial_100 : decode cX8_trial 100 = .ok (.getfield 147, 3) := by decide +kernel
theorem dX8_trial_103 : decode cX8_trial 103 = .ok (.iload_n 1, 1) := by decide +kernel
theorem dX8_trial_104 : decode cX8_trial 104 = .ok (.aaload, 1) := by decide +kernel
theorem dX8_trial_105 : decode cX8_trial 105 = .ok (.getfield 195, 3) := by decide +kernel
theorem dX8_trial_108 : decode cX8_trial 108 = .ok (.ireturn, 1) := by decide +kernel
theorem dX8_isLoop_0 : decode cX8_isLoop 0 = .ok (.iload_n 1, 1) := by decide +kernel
theorem dX8_isLoop_1 : decode cX8_isLoop 1 = .ok (.invokestatic 139, 3) := by decide +kernel
theorem dX8_isLoop_4 : decode cX8_isLoop 4 = .ok (.aload_n 0, 1) := by decide +kernel
theorem dX8_isLoop_5 : decode cX8_isLoop 5 = .ok (.getfield 28, 3) := by decide +kernel
theorem dX8_isLoop_8 : decode cX8_isLoop 8 = .ok (.iload_n 1, 1) := by decide +kernel
theorem dX8_isLoop_9 : decode cX8_isLoop 9 = .ok (.invokevirtual 218, 3) := by decide +kernel
theorem dX8_isLoop_12 : decode cX8_isLoop 12 = .ok (.ireturn, 1) := by decide +kernel
theorem dX8_keep_0 : decode cX8_keep 0 = .ok (.aload_n 0, 1) := by decide +kernel
theorem dX8_keep_1 : decode cX8_keep 1 = .ok (.getfield 41, 3) := by decide +kernel
theorem dX8_keep_4 : decode cX8_keep 4 = .ok (.ifCond .lt 15, 3) := by decide +kernel
theorem dX8_keep_7 : decode cX8_keep 7 = .ok (.aload_n 0, 1) := by decide +kernel
theorem dX8_keep_8 : decode cX8_keep 8 = .ok (.getfield 41, 3) := by decide +kernel
theorem dX8_keep_11 : decode cX8_keep 11 = .ok (.aload_n 0, 1) := by decide +kernel
theorem dX8_keep_12 : decode cX8_keep 12 = .ok (.getfield 37, 3) := by decide +kernel
theorem dX8_keep_15 : decode cX8_keep 15 = .ok (.arraylength, 1) := by decide +kernel
theorem dX8_keep_16 : decode cX8_keep 16 = .ok (.if_icmp .lt 13, 3) := by decide +kernel
theorem dX8_keep_19 : decode cX8_keep 19 = .ok (.new 75, 3) := by decide +kernel
theorem dX8_keep_22 : decode cX8_keep 22 = .ok (.dup, 1) := by decide +kernel
theorem dX8_keep_23 : decode cX8_keep 23 = .ok (.ldc 222, 2) := by decide +kernel
theorem dX8_keep_25 : decode cX8_keep 25 = .ok (.invokespecial 79, 3) := by decide +kernel
theorem dX8_keep_28 : decode cX8_keep 28 = .ok (.athrow, 1) := by decide +kernel
theorem dX8_keep_29 : decode cX8_keep 29 = .ok (.new 35, 3) := by decide +kernel
theorem dX8_keep_32 : decode cX8_keep 32 = .ok (.dup, 1) := by decide +kernel
theorem dX8_keep_33 : decode cX8_keep 33 = .ok (.iload_n 1, 1) := by decide +kernel
theorem dX8_keep_34 : decode cX8_keep 34 = .ok (.iload_n 2, 1) := by decide +kernel
theorem dX8_keep_35 : decode cX8_keep 35 = .ok (.iload_n 3, 1) := by decide +kernel
theorem dX8_keep_36 : decode cX8_keep 36 = .ok (.iload 4, 2) := by decide +kernel
theorem dX8_keep_38 : decode cX8_keep 38 = .ok (.aload 5, 2) := by decide +kernel
theorem dX8_keep_40 : decode cX8_keep 40 = .ok (.aload_n 0, 1) := by decide +kernel
theorem dX8_keep_41 : decode cX8_keep 41 = .ok (.getfield 28, 3) := by decide +kernel
theorem dX8_keep_44 : decode cX8_keep 44 = .ok (.getfield 158, 3) := by decide +kernel
theorem dX8_keep_47 : decode cX8_keep 47 = .ok (.invokespecial 45, 3) := by decide +kernel
theorem dX8_keep_50 : decode cX8_keep 50 = .ok (.astore 6, 2) := by decide +kernel
theorem dX8_keep_52 : decode cX8_keep 52 = .ok (.aload_n 0, 1) := by decide +kernel
theorem dX8_keep_53 : decode cX8_keep 53 = .ok (.getfield 37, 3) := by decide +kernel
theorem dX8_keep_56 : decode cX8_keep 56 = .ok (.aload_n 0, 1) := by decide +kernel
theorem dX8_keep_57 : decode cX8_keep 57 = .ok (.getfield 41, 3) := by decide +kernel
theorem dX8_keep_60 : decode cX8_keep 60 = .ok (.aload 6, 2) := by decide +kernel
theorem dX8_keep_62 : decode cX8_keep 62 = .ok (.aastore, 1) := by decide +kernel
theorem dX8_keep_63 : decode cX8_keep 63 = .ok (.aload_n 0, 1) := by decide +kernel
theorem dX8_keep_64 : decode cX8_keep 64 = .ok (.dup, 1) := by decide +kernel
theorem dX8_keep_65 : decode cX8_keep 65 = .ok (.getfield 41, 3) := by decide +kernel
theorem dX8_keep_68 : decode cX8_keep 68 = .ok (.iconst 1, 1) := by decide +kernel
theorem dX8_keep_69 : decode cX8_keep 69 = .ok (.iadd, 1) := by decide +kernel
theorem dX8_keep_70 : decode cX8_keep 70 = .ok (.putfield 41, 3) := by decide +kernel
theorem dX8_keep_73 : decode cX8_keep 73 = .ok (.aload_n 0, 1) := by decide +kernel
theorem dX8_keep_74 : decode cX8_keep 74 = .ok (.getfield 28, 3) := by decide +kernel
theorem dX8_keep_77 : decode cX8_keep 77 = .ok (.aload 6, 2) := by decide +kernel
theorem dX8_keep_79 : decode cX8_keep 79 = .ok (.invokevirtual 214, 3) := by decide +kernel
theorem dX8_keep_82 : decode cX8_keep 82 = .ok (.ireturn, 1) := by decide +kernel
theorem dX8_tellAnew_0 : decode cX8_tellAnew 0 = .ok (.aload_n 1, 1) := by decide +kernel
theorem dX8_tellAnew_1 : decode cX8_tellAnew 1 = .ok (.invokevirtual 224, 3) := by decide +kernel
theorem dX8_tellAnew_4 : decode cX8_tellAnew 4 = .ok (.iconst 0, 1) := by decide +kernel
theorem dX8_tellAnew_5 : decode cX8_tellAnew 5 = .ok (.istore_n 2, 1) := by decide +kernel
theorem dX8_tellAnew_6 : decode cX8_tellAnew 6 = .ok (.iload_n 2, 1) := by decide +kernel
theorem dX8_tellAnew_7 : decode cX8_tellAnew 7 = .ok (.aload_n 0, 1) := by decide +kernel
theorem dX8_tellAnew_8 : decode cX8_tellAnew 8 = .ok (.getfield 41, 3) := by decide +kernel
theorem dX8_tellAnew_11 : decode cX8_tellAnew 11 = .ok (.if_icmp .ge 35, 3) := by decide +kernel
theorem dX8_tellAnew_14 : decode cX8_tellAnew 14 = .ok (.iload_n 2, 1) := by decide +kernel
theorem dX8_tellAnew_15 : decode cX8_tellAnew 15 = .ok (.aload_n 0, 1) := by decide +kernel
theorem dX8_tellAnew_16 : decode cX8_tellAnew 16 = .ok (.getfield 37, 3) := by decide +kernel
theorem dX8_tellAnew_19 : decode cX8_tellAnew 19 = .ok (.arraylength, 1) := by decide +kernel
theorem dX8_tellAnew_20 : decode cX8_tellAnew 20 = .ok (.if_icmp .ge 26, 3) := by decide +kernel
theorem dX8_tellAnew_23 : decode cX8_tellAnew 23 = .ok (.aload_n 0, 1) := by decide +kernel
theorem dX8_tellAnew_24 : decode cX8_tellAnew 24 = .ok (.getfield 37, 3) := by decide +kernel
theorem dX8_tellAnew_27 : decode cX8_tellAnew 27 = .ok (.iload_n 2, 1) := by decide +kernel
theorem dX8_tellAnew_28 : decode cX8_tellAnew 28 = .ok (.aaload, 1) := by decide +kernel
theorem dX8_tellAnew_29 : decode cX8_tellAnew 29 = .ok (.astore_n 3, 1) := by decide +kernel
theorem dX8_tellAnew_30 : decode cX8_tellAnew 30 = .ok (.aload_n 3, 1) := by decide +kernel
theorem dX8_tellAnew_31 : decode cX8_tellAnew 31 = .ok (.ifnull 9, 3) := by decide +kernel
theorem dX8_tellAnew_34 : decode cX8_tellAnew 34 = .ok (.aload_n 1, 1) := by decide +kernel
theorem dX8_tellAnew_35 : decode cX8_tellAnew 35 = .ok (.aload_n 3, 1) := by decide +kernel
theorem dX8_tellAnew_36 : decode cX8_tellAnew 36 = .ok (.invokevirtual 214, 3) := by decide +kernel
theorem dX8_tellAnew_39 : decode cX8_tellAnew 39 = .ok (.pop, 1) := by decide +kernel
theorem dX8_tellAnew_40 : decode cX8_tellAnew 40 = .ok (.iinc 2 1, 3) := by decide +kernel
theorem dX8_tellAnew_43 : decode cX8_tellAnew 43 = .ok (.goto (-37), 3) := by decide +kernel
theorem dX8_tellAnew_46 : decode cX8_tellAnew 46 = .ok (.return_, 1) := by decide +kernel
theorem dX8_tellReadingsOfTick_0 : decode cX8_tellReadingsOfTick 0 = .ok (.iconst 0, 1) := by decide +kernel
theorem dX8_tellReadingsOfTick_1 : decode cX8_tellReadingsOfTick 1 = .ok (.istore_n 2, 1) := by decide +kernel
theorem dX8_tellReadingsOfTick_2 : decode cX8_tellReadingsOfTick 2 = .ok (.iload_n 2, 1) := by decide +kernel
theorem dX8_tellReadingsOfTick_3 : decode cX8_tellReadingsOfTick 3 = .ok (.aload_n 0, 1) := by decide +kernel
theorem dX8_tellReadingsOfTick_4 : decode cX8_tellReadingsOfTick 4 = .ok (.getfield 41, 3) := by decide +kernel
theorem dX8_tellReadingsOfTick_7 : decode cX8_tellReadingsOfTick 7 = .ok (.if_icmp .ge 54, 3) := by decide +kernel
theorem dX8_tellReadingsOfTick_10 : decode cX8_tellReadingsOfTick 10 = .ok (.iload_n 2, 1) := by decide +kernel
theorem dX8_tellReadingsOfTick_11 : decode cX8_tellReadingsOfTick 11 = .ok (.aload_n 0, 1) := by decide +kernel
theorem dX8_tellReadingsOfTick_12 : decode cX8_tellReadingsOfTick 12 = .ok (.getfield 37, 3) := by decide +kernel
theorem dX8_tellReadingsOfTick_15 : decode cX8_tellReadingsOfTick 15 = .ok (.arraylength, 1) := by decide +kernel
theorem dX8_tellReadingsOfTick_16 : decode cX8_tellReadingsOfTick 16 = .ok (.if_icmp .ge 45, 3) := by decide +kernel
theorem dX8_tellReadingsOfTick_19 : decode cX8_tellReadingsOfTick 19 = .ok (.aload_n 0, 1) := by decide +kernel
theorem dX8_tellReadingsOfTick_20 : decode cX8_tellReadingsOfTick 20 = .ok (.getfield 37, 3) := by decide +kernel
theorem dX8_tellReadingsOfTick_23 : decode cX8_tellReadingsOfTick 23 = .ok (.iload_n 2, 1) := by decide +kernel
theorem dX8_tellReadingsOfTick_24 : decode cX8_tellReadingsOfTick 24 = .ok (.aaload, 1) := by decide +kernel
theorem dX8_tellReadingsOfTick_25 : decode cX8_tellReadingsOfTick 25 = .ok (.astore_n 3, 1) := by decide +kernel
theorem dX8_tellReadingsOfTick_26 : decode cX8_tellReadingsOfTick 26 = .ok (.aload_n 3, 1) := by decide +kernel
theorem dX8_tellReadingsOfTick_27 : decode cX8_tellReadingsOfTick 27 = .ok (.ifnull 28, 3) := by decide +kernel
theorem dX8_tellReadingsOfTick_30 : decode cX8_tellReadingsOfTick 30 = .ok (.aload_n 3, 1) := by decide +kernel
theorem dX8_tellReadingsOfTick_31 : decode cX8_tellReadingsOfTick 31 = .ok (.getfield 227, 3) := by decide +kernel
theorem dX8_tellReadingsOfTick_34 : decode cX8_tellReadingsOfTick 34 = .ok (.iconst 3, 1) := by decide +kernel
theorem dX8_tellReadingsOfTick_35 : decode cX8_tellReadingsOfTick 35 = .ok (.if_icmp .ne 20, 3) := by decide +kernel
theorem dX8_tellReadingsOfTick_38 : decode cX8_tellReadingsOfTick 38 = .ok (.aload_n 3, 1) := by decide +kernel
theorem dX8_tellReadingsOfTick_39 : decode cX8_tellReadingsOfTick 39 = .ok (.getfield 230, 3) := by decide +kernel
theorem dX8_tellReadingsOfTick_42 : decode cX8_tellReadingsOfTick 42 = .ok (.aload_n 1, 1) := by decide +kernel
theorem dX8_tellReadingsOfTick_43 : decode cX8_tellReadingsOfTick 43 = .ok (.getfield 158, 3) := by decide +kernel
theorem dX8_tellReadingsOfTick_46 : decode cX8_tellReadingsOfTick 46 = .ok (.if_icmp .ne 9, 3) := by decide +kernel
theorem dX8_tellReadingsOfTick_49 : decode cX8_tellReadingsOfTick 49 = .ok (.aload_n 1, 1) := by decide +kernel
theorem dX8_tellReadingsOfTick_50 : decode cX8_tellReadingsOfTick 50 = .ok (.aload_n 3, 1) := by decide +kernel
theorem dX8_tellReadingsOfTick_51 : decode cX8_tellReadingsOfTick 51 = .ok (.invokevirtual 214, 3) := by decide +kernel
theorem dX8_tellReadingsOfTick_54 : decode cX8_tellReadingsOfTick 54 = .ok (.pop, 1) := by decide +kernel
theorem dX8_tellReadingsOfTick_55 : decode cX8_tellReadingsOfTick 55 = .ok (.iinc 2 1, 3) := by decide +kernel
theorem dX8_tellReadingsOfTick_58 : decode cX8_tellReadingsOfTick 58 = .ok (.goto (-56), 3) := by decide +kernel
theorem dX8_tellReadingsOfTick_61 : decode cX8_tellReadingsOfTick 61 = .ok (.return_, 1) := by decide +kernel
theorem dX8_checkPlace_0 : decode cX8_checkPlace 0 = .ok (.iload_n 0, 1) := by decide +kernel
theorem dX8_checkPlace_1 : decode cX8_checkPlace 1 = .ok (.ifCond .lt 8, 3) := by decide +kernel
theorem dX8_checkPlace_4 : decode cX8_checkPlace 4 = .ok (.iload_n 0, 1) := by decide +kernel
theorem dX8_checkPlace_5 : decode cX8_checkPlace 5 = .ok (.iload_n 1, 1) := by decide +kernel
theorem dX8_checkPlace_6 : decode cX8_checkPlace 6 = .ok (.if_icmp .lt 13, 3) := by decide +kernel
theorem dX8_checkPlace_9 : decode cX8_checkPlace 9 = .ok (.new 233, 3) := by decide +kernel
theorem dX8_checkPlace_12 : decode cX8_checkPlace 12 = .ok (.dup, 1) := by decide +kernel
theorem dX8_checkPlace_13 : decode cX8_checkPlace 13 = .ok (.ldc 235, 2) := by decide +kernel
theorem dX8_checkPlace_15 : decode cX8_checkPlace 15 = .ok (.invokespecial 237, 3) := by decide +kernel
theorem dX8_checkPlace_18 : decode cX8_checkPlace 18 = .ok (.athrow, 1) := by decide +kernel
theorem dX8_checkPlace_19 : decode cX8_checkPlace 19 = .ok (.return_, 1) := by decide +kernel
theorem dX8_checkCell_0 : decode cX8_checkCell 0 = .ok (.iload_n 0, 1) := by decide +kernel
theorem dX8_checkCell_1 : decode cX8_checkCell 1 = .ok (.bipush 12, 2) := by decide +kernel
theorem dX8_checkCell_3 : decode cX8_checkCell 3 = .ok (.invokestatic 135, 3) := by decide +kernel
theorem dX8_checkCell_6 : decode cX8_checkCell 6 = .ok (.return_, 1) := by decide +kernel
theorem dX8_checkCellOrNone_0 : decode cX8_checkCellOrNone 0 = .ok (.iload_n 0, 1) := by decide +kernel
theorem dX8_checkCellOrNone_1 : decode cX8_checkCellOrNone 1 = .ok (.iconst (-1), 1) := by decide +kernel
theorem dX8_checkCellOrNone_2 : decode cX8_checkCellOrNone 2 = .ok (.if_icmp .eq 7, 3) := by decide +kernel
theorem dX8_checkCellOrNone_5 : decode cX8_checkCellOrNone 5 = .ok (.iload_n 0, 1) := by decide +kernel
theorem dX8_checkCellOrNone_6 : decode cX8_checkCellOrNone 6 = .ok (.invokestatic 91, 3) := by decide +kernel
theorem dX8_checkCellOrNone_9 : decode cX8_checkCellOrNone 9 = .ok (.return_, 1) := by decide +kernel
theorem dX8_checkService_0 : decode cX8_checkService 0 = .ok (.iload_n 0, 1) := by decide +kernel
theorem dX8_checkService_1 : decode cX8_checkService 1 = .ok (.iconst 5, 1) := by decide +kernel
theorem dX8_checkService_2 : decode cX8_checkService 2 = .ok (.invokestatic 135, 3) := by decide +kernel
theorem dX8_checkService_5 : decode cX8_checkService 5 = .ok (.return_, 1) := by decide +kernel
theorem dX8_checkNumber_0 : decode cX8_checkNumber 0 = .ok (.iload_n 0, 1) := by decide +kernel
theorem dX8_checkNumber_1 : decode cX8_checkNumber 1 = .ok (.iload_n 1, 1) := by decide +kernel
theorem dX8_checkNumber_2 : decode cX8_checkNumber 2 = .ok (.if_icmp .lt 8, 3) := by decide +kernel
theorem dX8_checkNumber_5 : decode cX8_checkNumber 5 = .ok (.iload_n 0, 1) := by decide +kernel
theorem dX8_checkNumber_6 : decode cX8_checkNumber 6 = .ok (.iload_n 2, 1) := by decide +kernel
theorem dX8_checkNumber_7 : decode cX8_checkNumber 7 = .ok (.if_icmp .le 13, 3) := by decide +kernel
theorem dX8_checkNumber_10 : decode cX8_checkNumber 10 = .ok (.new 64, 3) := by decide +kernel
theorem dX8_checkNumber_13 : decode cX8_checkNumber 13 = .ok (.dup, 1) := by decide +kernel
theorem dX8_checkNumber_14 : decode cX8_checkNumber 14 = .ok (.ldc 238, 2) := by decide +kernel
theorem dX8_checkNumber_16 : decode cX8_checkNumber 16 = .ok (.invokespecial 68, 3) := by decide +kernel
theorem dX8_checkNumber_19 : decode cX8_checkNumber 19 = .ok (.athrow, 1) := by decide +kernel
theorem dX8_checkNumber_20 : decode cX8_checkNumber 20 = .ok (.return_, 1) := by decide +kernel
theorem dX8_isFigure_0 : decode cX8_isFigure 0 = .ok (.iload_n 0, 1) := by decide +kernel
theorem dX8_isFigure_1 : decode cX8_isFigure 1 = .ok (.bipush 48, 2) := by decide +kernel
theorem dX8_isFigure_3 : decode cX8_isFigure 3 = .ok (.if_icmp .lt 13, 3) := by decide +kernel
theorem dX8_isFigure_6 : decode cX8_isFigure 6 = .ok (.iload_n 0, 1) := by decide +kernel
theorem dX8_isFigure_7 : decode cX8_isFigure 7 = .ok (.bipush 57, 2) := by decide +kernel
theorem dX8_isFigure_9 : decode cX8_isFigure 9 = .ok (.if_icmp .gt 7, 3) := by decide +kernel
theorem dX8_isFigure_12 : decode cX8_isFigure 12 = .ok (.iconst 1, 1) := by decide +kernel
theorem dX8_isFigure_13 : decode cX8_isFigure 13 = .ok (.goto 4, 3) := by decide +kernel
theorem dX8_isFigure_16 : decode cX8_isFigure 16 = .ok (.iconst 0, 1) := by decide +kernel
theorem dX8_isFigure_17 : decode cX8_isFigure 17 = .ok (.ireturn, 1) := by decide +kernel
theorem dX8_bit_0 : decode cX8_bit 0 = .ok (.iconst 1, 1) := by decide +kernel
theorem dX8_bit_1 : decode cX8_bit 1 = .ok (.iload_n 0, 1) := by decide +kernel
theorem dX8_bit_2 : decode cX8_bit 2 = .ok (.ishl, 1) := by decide +kernel
theorem dX8_bit_3 : decode cX8_bit 3 = .ok (.ireturn, 1) := by decide +kernel
theorem dX8_has_0 : decode cX8_has 0 = .ok (.iload_n 0, 1) := by decide +kernel
theorem dX8_has_1 : decode cX8_has 1 = .ok (.iload_n 1, 1) := by decide +kernel
theorem dX8_has_2 : decode cX8_has 2 = .ok (.ishr, 1) := by decide +kernel
theorem dX8_has_3 : decode cX8_has 3 = .ok (.iconst 1, 1) := by decide +kernel
theorem dX8_has_4 : decode cX8_has 4 = .ok (.iand, 1) := by decide +kernel
theorem dX8_has_5 : decode cX8_has 5 = .ok (.ifCond .eq 7, 3) := by decide +kernel
theorem dX8_has_8 : decode cX8_has 8 = .ok (.iconst 1, 1) := by decide +kernel
theorem dX8_has_9 : decode cX8_has 9 = .ok (.goto 4, 3) := by decide +kernel
theorem dX8_has_12 : decode cX8_has 12 = .ok (.iconst 0, 1) := by decide +kernel
theorem dX8_has_13 : decode cX8_has 13 = .ok (.ireturn, 1) := by decide +kernel
theorem dX8_within_0 : decode cX8_within 0 = .ok (.ldc2_w 240, 3) := by decide +kernel
theorem dX8_within_3 : decode cX8_within 3 = .ok (.ldc2_w 242, 3) := by decide +kernel
theorem dX8_within_6 : decode cX8_within 6 = .ok (.lload_n 0, 1) := by decide +kernel
theorem dX8_within_7 : decode cX8_within 7 = .ok (.invokestatic 244, 3) := by decide +kernel
theorem dX8_within_10 : decode cX8_within 10 = .ok (.invokestatic 248, 3) := by decide +kernel
theorem dX8_within_13 : decode cX8_within 13 = .ok (.l2i, 1) := by decide +kernel
theorem dX8_within_14 : decode cX8_within 14 = .ok (.ireturn, 1) := by decide +kernel

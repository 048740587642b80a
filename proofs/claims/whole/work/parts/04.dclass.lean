theorem d_Cod_commonBeginning_0 : decode b_Cod_commonBeginning 0 = .ok (.aload_n 0, 1) := by decide +kernel
theorem d_Cod_commonBeginning_1 : decode b_Cod_commonBeginning 1 = .ok (.getfield 19, 3) := by decide +kernel
theorem d_Cod_commonBeginning_4 : decode b_Cod_commonBeginning 4 = .ok (.aload_n 1, 1) := by decide +kernel
theorem d_Cod_commonBeginning_5 : decode b_Cod_commonBeginning 5 = .ok (.getfield 19, 3) := by decide +kernel
theorem d_Cod_commonBeginning_8 : decode b_Cod_commonBeginning 8 = .ok (.invokestatic 41, 3) := by decide +kernel
theorem d_Cod_commonBeginning_11 : decode b_Cod_commonBeginning 11 = .ok (.istore_n 2, 1) := by decide +kernel
theorem d_Cod_commonBeginning_12 : decode b_Cod_commonBeginning 12 = .ok (.iconst 0, 1) := by decide +kernel
theorem d_Cod_commonBeginning_13 : decode b_Cod_commonBeginning 13 = .ok (.istore_n 3, 1) := by decide +kernel
theorem d_Cod_commonBeginning_14 : decode b_Cod_commonBeginning 14 = .ok (.iload_n 3, 1) := by decide +kernel
theorem d_Cod_commonBeginning_15 : decode b_Cod_commonBeginning 15 = .ok (.iload_n 2, 1) := by decide +kernel
theorem d_Cod_commonBeginning_16 : decode b_Cod_commonBeginning 16 = .ok (.if_icmp .ge 22, 3) := by decide +kernel
theorem d_Cod_commonBeginning_19 : decode b_Cod_commonBeginning 19 = .ok (.aload_n 0, 1) := by decide +kernel
theorem d_Cod_commonBeginning_20 : decode b_Cod_commonBeginning 20 = .ok (.iload_n 3, 1) := by decide +kernel
theorem d_Cod_commonBeginning_21 : decode b_Cod_commonBeginning 21 = .ok (.invokevirtual 27, 3) := by decide +kernel
theorem d_Cod_commonBeginning_24 : decode b_Cod_commonBeginning 24 = .ok (.aload_n 1, 1) := by decide +kernel
theorem d_Cod_commonBeginning_25 : decode b_Cod_commonBeginning 25 = .ok (.iload_n 3, 1) := by decide +kernel
theorem d_Cod_commonBeginning_26 : decode b_Cod_commonBeginning 26 = .ok (.invokevirtual 27, 3) := by decide +kernel
theorem d_Cod_commonBeginning_29 : decode b_Cod_commonBeginning 29 = .ok (.if_icmp .ne 9, 3) := by decide +kernel
theorem d_Cod_commonBeginning_32 : decode b_Cod_commonBeginning 32 = .ok (.iinc 3 1, 3) := by decide +kernel
theorem d_Cod_commonBeginning_35 : decode b_Cod_commonBeginning 35 = .ok (.goto (-21), 3) := by decide +kernel
theorem d_Cod_commonBeginning_38 : decode b_Cod_commonBeginning 38 = .ok (.iload_n 3, 1) := by decide +kernel
theorem d_Cod_commonBeginning_39 : decode b_Cod_commonBeginning 39 = .ok (.ireturn, 1) := by decide +kernel
theorem d_Cod_commonEnd_0 : decode b_Cod_commonEnd 0 = .ok (.aload_n 0, 1) := by decide +kernel
theorem d_Cod_commonEnd_1 : decode b_Cod_commonEnd 1 = .ok (.getfield 19, 3) := by decide +kernel
theorem d_Cod_commonEnd_4 : decode b_Cod_commonEnd 4 = .ok (.aload_n 1, 1) := by decide +kernel
theorem d_Cod_commonEnd_5 : decode b_Cod_commonEnd 5 = .ok (.getfield 19, 3) := by decide +kernel
theorem d_Cod_commonEnd_8 : decode b_Cod_commonEnd 8 = .ok (.invokestatic 41, 3) := by decide +kernel
theorem d_Cod_commonEnd_11 : decode b_Cod_commonEnd 11 = .ok (.iload_n 2, 1) := by decide +kernel
theorem d_Cod_commonEnd_12 : decode b_Cod_commonEnd 12 = .ok (.isub, 1) := by decide +kernel
theorem d_Cod_commonEnd_13 : decode b_Cod_commonEnd 13 = .ok (.istore_n 3, 1) := by decide +kernel
theorem d_Cod_commonEnd_14 : decode b_Cod_commonEnd 14 = .ok (.iconst 0, 1) := by decide +kernel
theorem d_Cod_commonEnd_15 : decode b_Cod_commonEnd 15 = .ok (.istore 4, 2) := by decide +kernel
theorem d_Cod_commonEnd_17 : decode b_Cod_commonEnd 17 = .ok (.iload 4, 2) := by decide +kernel
theorem d_Cod_commonEnd_19 : decode b_Cod_commonEnd 19 = .ok (.iload_n 3, 1) := by decide +kernel
theorem d_Cod_commonEnd_20 : decode b_Cod_commonEnd 20 = .ok (.if_icmp .ge 38, 3) := by decide +kernel
theorem d_Cod_commonEnd_23 : decode b_Cod_commonEnd 23 = .ok (.aload_n 0, 1) := by decide +kernel
theorem d_Cod_commonEnd_24 : decode b_Cod_commonEnd 24 = .ok (.aload_n 0, 1) := by decide +kernel
theorem d_Cod_commonEnd_25 : decode b_Cod_commonEnd 25 = .ok (.getfield 19, 3) := by decide +kernel
theorem d_Cod_commonEnd_28 : decode b_Cod_commonEnd 28 = .ok (.iconst 1, 1) := by decide +kernel
theorem d_Cod_commonEnd_29 : decode b_Cod_commonEnd 29 = .ok (.isub, 1) := by decide +kernel
theorem d_Cod_commonEnd_30 : decode b_Cod_commonEnd 30 = .ok (.iload 4, 2) := by decide +kernel
theorem d_Cod_commonEnd_32 : decode b_Cod_commonEnd 32 = .ok (.isub, 1) := by decide +kernel
theorem d_Cod_commonEnd_33 : decode b_Cod_commonEnd 33 = .ok (.invokevirtual 27, 3) := by decide +kernel
theorem d_Cod_commonEnd_36 : decode b_Cod_commonEnd 36 = .ok (.aload_n 1, 1) := by decide +kernel
theorem d_Cod_commonEnd_37 : decode b_Cod_commonEnd 37 = .ok (.aload_n 1, 1) := by decide +kernel
theorem d_Cod_commonEnd_38 : decode b_Cod_commonEnd 38 = .ok (.getfield 19, 3) := by decide +kernel
theorem d_Cod_commonEnd_41 : decode b_Cod_commonEnd 41 = .ok (.iconst 1, 1) := by decide +kernel
theorem d_Cod_commonEnd_42 : decode b_Cod_commonEnd 42 = .ok (.isub, 1) := by decide +kernel
theorem d_Cod_commonEnd_43 : decode b_Cod_commonEnd 43 = .ok (.iload 4, 2) := by decide +kernel
theorem d_Cod_commonEnd_45 : decode b_Cod_commonEnd 45 = .ok (.isub, 1) := by decide +kernel
theorem d_Cod_commonEnd_46 : decode b_Cod_commonEnd 46 = .ok (.invokevirtual 27, 3) := by decide +kernel
theorem d_Cod_commonEnd_49 : decode b_Cod_commonEnd 49 = .ok (.if_icmp .ne 9, 3) := by decide +kernel
theorem d_Cod_commonEnd_52 : decode b_Cod_commonEnd 52 = .ok (.iinc 4 1, 3) := by decide +kernel
theorem d_Cod_commonEnd_55 : decode b_Cod_commonEnd 55 = .ok (.goto (-38), 3) := by decide +kernel
theorem d_Cod_commonEnd_58 : decode b_Cod_commonEnd 58 = .ok (.iload 4, 2) := by decide +kernel
theorem d_Cod_commonEnd_60 : decode b_Cod_commonEnd 60 = .ok (.ireturn, 1) := by decide +kernel
theorem d_Cod_readDifference_0 : decode b_Cod_readDifference 0 = .ok (.iload_n 2, 1) := by decide +kernel
theorem d_Cod_readDifference_1 : decode b_Cod_readDifference 1 = .ok (.iconst 4, 1) := by decide +kernel
theorem d_Cod_readDifference_2 : decode b_Cod_readDifference 2 = .ok (.if_icmp .lt 13, 3) := by decide +kernel
theorem d_Cod_readDifference_5 : decode b_Cod_readDifference 5 = .ok (.aload_n 0, 1) := by decide +kernel
theorem d_Cod_readDifference_6 : decode b_Cod_readDifference 6 = .ok (.iload_n 1, 1) := by decide +kernel
theorem d_Cod_readDifference_7 : decode b_Cod_readDifference 7 = .ok (.invokevirtual 27, 3) := by decide +kernel
theorem d_Cod_readDifference_10 : decode b_Cod_readDifference 10 = .ok (.bipush 100, 2) := by decide +kernel
theorem d_Cod_readDifference_12 : decode b_Cod_readDifference 12 = .ok (.if_icmp .eq 5, 3) := by decide +kernel
theorem d_Cod_readDifference_15 : decode b_Cod_readDifference 15 = .ok (.iconst 0, 1) := by decide +kernel
theorem d_Cod_readDifference_16 : decode b_Cod_readDifference 16 = .ok (.ireturn, 1) := by decide +kernel
theorem d_Cod_readDifference_17 : decode b_Cod_readDifference 17 = .ok (.aload_n 0, 1) := by decide +kernel
theorem d_Cod_readDifference_18 : decode b_Cod_readDifference 18 = .ok (.iload_n 1, 1) := by decide +kernel
theorem d_Cod_readDifference_19 : decode b_Cod_readDifference 19 = .ok (.iconst 1, 1) := by decide +kernel
theorem d_Cod_readDifference_20 : decode b_Cod_readDifference 20 = .ok (.iadd, 1) := by decide +kernel
theorem d_Cod_readDifference_21 : decode b_Cod_readDifference 21 = .ok (.invokevirtual 27, 3) := by decide +kernel
theorem d_Cod_readDifference_24 : decode b_Cod_readDifference 24 = .ok (.istore 4, 2) := by decide +kernel
theorem d_Cod_readDifference_26 : decode b_Cod_readDifference 26 = .ok (.aload_n 0, 1) := by decide +kernel
theorem d_Cod_readDifference_27 : decode b_Cod_readDifference 27 = .ok (.iload_n 1, 1) := by decide +kernel
theorem d_Cod_readDifference_28 : decode b_Cod_readDifference 28 = .ok (.iconst 2, 1) := by decide +kernel
theorem d_Cod_readDifference_29 : decode b_Cod_readDifference 29 = .ok (.iadd, 1) := by decide +kernel
theorem d_Cod_readDifference_30 : decode b_Cod_readDifference 30 = .ok (.invokevirtual 27, 3) := by decide +kernel
theorem d_Cod_readDifference_33 : decode b_Cod_readDifference 33 = .ok (.istore 5, 2) := by decide +kernel
theorem d_Cod_readDifference_35 : decode b_Cod_readDifference 35 = .ok (.aload_n 0, 1) := by decide +kernel
theorem d_Cod_readDifference_36 : decode b_Cod_readDifference 36 = .ok (.iload_n 1, 1) := by decide +kernel
theorem d_Cod_readDifference_37 : decode b_Cod_readDifference 37 = .ok (.iconst 3, 1) := by decide +kernel
theorem d_Cod_readDifference_38 : decode b_Cod_readDifference 38 = .ok (.iadd, 1) := by decide +kernel
theorem d_Cod_readDifference_39 : decode b_Cod_readDifference 39 = .ok (.invokevirtual 27, 3) := by decide +kernel
theorem d_Cod_readDifference_42 : decode b_Cod_readDifference 42 = .ok (.istore 6, 2) := by decide +kernel
theorem d_Cod_readDifference_44 : decode b_Cod_readDifference 44 = .ok (.iload 6, 2) := by decide +kernel
theorem d_Cod_readDifference_46 : decode b_Cod_readDifference 46 = .ok (.iload_n 2, 1) := by decide +kernel
theorem d_Cod_readDifference_47 : decode b_Cod_readDifference 47 = .ok (.iconst 4, 1) := by decide +kernel
theorem d_Cod_readDifference_48 : decode b_Cod_readDifference 48 = .ok (.isub, 1) := by decide +kernel
theorem d_Cod_readDifference_49 : decode b_Cod_readDifference 49 = .ok (.if_icmp .eq 5, 3) := by decide +kernel
theorem d_Cod_readDifference_52 : decode b_Cod_readDifference 52 = .ok (.iconst 0, 1) := by decide +kernel
theorem d_Cod_readDifference_53 : decode b_Cod_readDifference 53 = .ok (.ireturn, 1) := by decide +kernel
theorem d_Cod_readDifference_54 : decode b_Cod_readDifference 54 = .ok (.aload_n 3, 1) := by decide +kernel
theorem d_Cod_readDifference_55 : decode b_Cod_readDifference 55 = .ok (.iload 4, 2) := by decide +kernel
theorem d_Cod_readDifference_57 : decode b_Cod_readDifference 57 = .ok (.iload 5, 2) := by decide +kernel
theorem d_Cod_readDifference_59 : decode b_Cod_readDifference 59 = .ok (.aload_n 0, 1) := by decide +kernel
theorem d_Cod_readDifference_60 : decode b_Cod_readDifference 60 = .ok (.iload_n 1, 1) := by decide +kernel
theorem d_Cod_readDifference_61 : decode b_Cod_readDifference 61 = .ok (.iconst 4, 1) := by decide +kernel
theorem d_Cod_readDifference_62 : decode b_Cod_readDifference 62 = .ok (.iadd, 1) := by decide +kernel
theorem d_Cod_readDifference_63 : decode b_Cod_readDifference 63 = .ok (.iload 6, 2) := by decide +kernel
theorem d_Cod_readDifference_65 : decode b_Cod_readDifference 65 = .ok (.invokevirtual 51, 3) := by decide +kernel
theorem d_Cod_readDifference_68 : decode b_Cod_readDifference 68 = .ok (.ireturn, 1) := by decide +kernel
theorem d_Cod_readSnapshot_0 : decode b_Cod_readSnapshot 0 = .ok (.aload_n 0, 1) := by decide +kernel
theorem d_Cod_readSnapshot_1 : decode b_Cod_readSnapshot 1 = .ok (.iload_n 1, 1) := by decide +kernel
theorem d_Cod_readSnapshot_2 : decode b_Cod_readSnapshot 2 = .ok (.invokevirtual 27, 3) := by decide +kernel
theorem d_Cod_readSnapshot_5 : decode b_Cod_readSnapshot 5 = .ok (.istore 4, 2) := by decide +kernel
theorem d_Cod_readSnapshot_7 : decode b_Cod_readSnapshot 7 = .ok (.iload 4, 2) := by decide +kernel
theorem d_Cod_readSnapshot_9 : decode b_Cod_readSnapshot 9 = .ok (.bipush 117, 2) := by decide +kernel
theorem d_Cod_readSnapshot_11 : decode b_Cod_readSnapshot 11 = .ok (.if_icmp .ne 15, 3) := by decide +kernel
theorem d_Cod_readSnapshot_14 : decode b_Cod_readSnapshot 14 = .ok (.aload_n 3, 1) := by decide +kernel
theorem d_Cod_readSnapshot_15 : decode b_Cod_readSnapshot 15 = .ok (.aload_n 0, 1) := by decide +kernel
theorem d_Cod_readSnapshot_16 : decode b_Cod_readSnapshot 16 = .ok (.iload_n 1, 1) := by decide +kernel
theorem d_Cod_readSnapshot_17 : decode b_Cod_readSnapshot 17 = .ok (.iconst 1, 1) := by decide +kernel
theorem d_Cod_readSnapshot_18 : decode b_Cod_readSnapshot 18 = .ok (.iadd, 1) := by decide +kernel
theorem d_Cod_readSnapshot_19 : decode b_Cod_readSnapshot 19 = .ok (.iload_n 2, 1) := by decide +kernel
theorem d_Cod_readSnapshot_20 : decode b_Cod_readSnapshot 20 = .ok (.iconst 1, 1) := by decide +kernel
theorem d_Cod_readSnapshot_21 : decode b_Cod_readSnapshot 21 = .ok (.isub, 1) := by decide +kernel
theorem d_Cod_readSnapshot_22 : decode b_Cod_readSnapshot 22 = .ok (.invokevirtual 23, 3) := by decide +kernel
theorem d_Cod_readSnapshot_25 : decode b_Cod_readSnapshot 25 = .ok (.ireturn, 1) := by decide +kernel
theorem d_Cod_readSnapshot_26 : decode b_Cod_readSnapshot 26 = .ok (.iload 4, 2) := by decide +kernel
theorem d_Cod_readSnapshot_28 : decode b_Cod_readSnapshot 28 = .ok (.bipush 120, 2) := by decide +kernel
theorem d_Cod_readSnapshot_30 : decode b_Cod_readSnapshot 30 = .ok (.if_icmp .ne 9, 3) := by decide +kernel
theorem d_Cod_readSnapshot_33 : decode b_Cod_readSnapshot 33 = .ok (.iload_n 2, 1) := by decide +kernel
theorem d_Cod_readSnapshot_34 : decode b_Cod_readSnapshot 34 = .ok (.iconst 2, 1) := by decide +kernel
theorem d_Cod_readSnapshot_35 : decode b_Cod_readSnapshot 35 = .ok (.irem, 1) := by decide +kernel
theorem d_Cod_readSnapshot_36 : decode b_Cod_readSnapshot 36 = .ok (.ifCond .ne 5, 3) := by decide +kernel
theorem d_Cod_readSnapshot_39 : decode b_Cod_readSnapshot 39 = .ok (.iconst 0, 1) := by decide +kernel
theorem d_Cod_readSnapshot_40 : decode b_Cod_readSnapshot 40 = .ok (.ireturn, 1) := by decide +kernel
theorem d_Cod_readSnapshot_41 : decode b_Cod_readSnapshot 41 = .ok (.iload_n 1, 1) := by decide +kernel
theorem d_Cod_readSnapshot_42 : decode b_Cod_readSnapshot 42 = .ok (.iconst 1, 1) := by decide +kernel
theorem d_Cod_readSnapshot_43 : decode b_Cod_readSnapshot 43 = .ok (.iadd, 1) := by decide +kernel
theorem d_Cod_readSnapshot_44 : decode b_Cod_readSnapshot 44 = .ok (.istore 5, 2) := by decide +kernel
theorem d_Cod_readSnapshot_46 : decode b_Cod_readSnapshot 46 = .ok (.iload 5, 2) := by decide +kernel
theorem d_Cod_readSnapshot_48 : decode b_Cod_readSnapshot 48 = .ok (.iload_n 1, 1) := by decide +kernel
theorem d_Cod_readSnapshot_49 : decode b_Cod_readSnapshot 49 = .ok (.iload_n 2, 1) := by decide +kernel
theorem d_Cod_readSnapshot_50 : decode b_Cod_readSnapshot 50 = .ok (.iadd, 1) := by decide +kernel
theorem d_Cod_readSnapshot_51 : decode b_Cod_readSnapshot 51 = .ok (.if_icmp .ge 41, 3) := by decide +kernel
theorem d_Cod_readSnapshot_54 : decode b_Cod_readSnapshot 54 = .ok (.aload_n 0, 1) := by decide +kernel
theorem d_Cod_readSnapshot_55 : decode b_Cod_readSnapshot 55 = .ok (.iload 5, 2) := by decide +kernel
theorem d_Cod_readSnapshot_57 : decode b_Cod_readSnapshot 57 = .ok (.invokevirtual 27, 3) := by decide +kernel
theorem d_Cod_readSnapshot_60 : decode b_Cod_readSnapshot 60 = .ok (.istore 6, 2) := by decide +kernel
theorem d_Cod_readSnapshot_62 : decode b_Cod_readSnapshot 62 = .ok (.iload 6, 2) := by decide +kernel
theorem d_Cod_readSnapshot_64 : decode b_Cod_readSnapshot 64 = .ok (.ifCond .eq 20, 3) := by decide +kernel
theorem d_Cod_readSnapshot_67 : decode b_Cod_readSnapshot 67 = .ok (.aload_n 3, 1) := by decide +kernel
theorem d_Cod_readSnapshot_68 : decode b_Cod_readSnapshot 68 = .ok (.aload_n 0, 1) := by decide +kernel
theorem d_Cod_readSnapshot_69 : decode b_Cod_readSnapshot 69 = .ok (.iload 5, 2) := by decide +kernel
theorem d_Cod_readSnapshot_71 : decode b_Cod_readSnapshot 71 = .ok (.iconst 1, 1) := by decide +kernel
theorem d_Cod_readSnapshot_72 : decode b_Cod_readSnapshot 72 = .ok (.iadd, 1) := by decide +kernel
theorem d_Cod_readSnapshot_73 : decode b_Cod_readSnapshot 73 = .ok (.invokevirtual 27, 3) := by decide +kernel
theorem d_Cod_readSnapshot_76 : decode b_Cod_readSnapshot 76 = .ok (.iload 6, 2) := by decide +kernel
theorem d_Cod_readSnapshot_78 : decode b_Cod_readSnapshot 78 = .ok (.invokevirtual 47, 3) := by decide +kernel
theorem d_Cod_readSnapshot_81 : decode b_Cod_readSnapshot 81 = .ok (.ifCond .ne 5, 3) := by decide +kernel
theorem d_Cod_readSnapshot_84 : decode b_Cod_readSnapshot 84 = .ok (.iconst 0, 1) := by decide +kernel
theorem d_Cod_readSnapshot_85 : decode b_Cod_readSnapshot 85 = .ok (.ireturn, 1) := by decide +kernel
theorem d_Cod_readSnapshot_86 : decode b_Cod_readSnapshot 86 = .ok (.iinc 5 2, 3) := by decide +kernel
theorem d_Cod_readSnapshot_89 : decode b_Cod_readSnapshot 89 = .ok (.goto (-43), 3) := by decide +kernel
theorem d_Cod_readSnapshot_92 : decode b_Cod_readSnapshot 92 = .ok (.iconst 1, 1) := by decide +kernel
theorem d_Cod_readSnapshot_93 : decode b_Cod_readSnapshot 93 = .ok (.ireturn, 1) := by decide +kernel
theorem d_Cod_writeDifference_0 : decode b_Cod_writeDifference 0 = .ok (.aload_n 0, 1) := by decide +kernel
theorem d_Cod_writeDifference_1 : decode b_Cod_writeDifference 1 = .ok (.aload_n 1, 1) := by decide +kernel
theorem d_Cod_writeDifference_2 : decode b_Cod_writeDifference 2 = .ok (.invokestatic 31, 3) := by decide +kernel
theorem d_Cod_writeDifference_5 : decode b_Cod_writeDifference 5 = .ok (.istore_n 3, 1) := by decide +kernel
theorem d_Cod_writeDifference_6 : decode b_Cod_writeDifference 6 = .ok (.aload_n 0, 1) := by decide +kernel
theorem d_Cod_writeDifference_7 : decode b_Cod_writeDifference 7 = .ok (.aload_n 1, 1) := by decide +kernel
theorem d_Cod_writeDifference_8 : decode b_Cod_writeDifference 8 = .ok (.iload_n 3, 1) := by decide +kernel
theorem d_Cod_writeDifference_9 : decode b_Cod_writeDifference 9 = .ok (.invokestatic 37, 3) := by decide +kernel
theorem d_Cod_writeDifference_12 : decode b_Cod_writeDifference 12 = .ok (.istore 4, 2) := by decide +kernel
theorem d_Cod_writeDifference_14 : decode b_Cod_writeDifference 14 = .ok (.aload_n 1, 1) := by decide +kernel
theorem d_Cod_writeDifference_15 : decode b_Cod_writeDifference 15 = .ok (.getfield 19, 3) := by decide +kernel
theorem d_Cod_writeDifference_18 : decode b_Cod_writeDifference 18 = .ok (.iload 4, 2) := by decide +kernel
theorem d_Cod_writeDifference_20 : decode b_Cod_writeDifference 20 = .ok (.isub, 1) := by decide +kernel
theorem d_Cod_writeDifference_21 : decode b_Cod_writeDifference 21 = .ok (.iload_n 3, 1) := by decide +kernel
theorem d_Cod_writeDifference_22 : decode b_Cod_writeDifference 22 = .ok (.isub, 1) := by decide +kernel
theorem d_Cod_writeDifference_23 : decode b_Cod_writeDifference 23 = .ok (.istore 5, 2) := by decide +kernel
theorem d_Cod_writeDifference_25 : decode b_Cod_writeDifference 25 = .ok (.aload_n 2, 1) := by decide +kernel
theorem d_Cod_writeDifference_26 : decode b_Cod_writeDifference 26 = .ok (.iconst 0, 1) := by decide +kernel
theorem d_Cod_writeDifference_27 : decode b_Cod_writeDifference 27 = .ok (.invokevirtual 9, 3) := by decide +kernel
theorem d_Cod_writeDifference_30 : decode b_Cod_writeDifference 30 = .ok (.aload_n 2, 1) := by decide +kernel
theorem d_Cod_writeDifference_31 : decode b_Cod_writeDifference 31 = .ok (.bipush 100, 2) := by decide +kernel
theorem d_Cod_writeDifference_33 : decode b_Cod_writeDifference 33 = .ok (.invokevirtual 15, 3) := by decide +kernel
theorem d_Cod_writeDifference_36 : decode b_Cod_writeDifference 36 = .ok (.pop, 1) := by decide +kernel
theorem d_Cod_writeDifference_37 : decode b_Cod_writeDifference 37 = .ok (.aload_n 2, 1) := by decide +kernel
theorem d_Cod_writeDifference_38 : decode b_Cod_writeDifference 38 = .ok (.iload_n 3, 1) := by decide +kernel
theorem d_Cod_writeDifference_39 : decode b_Cod_writeDifference 39 = .ok (.invokevirtual 15, 3) := by decide +kernel
theorem d_Cod_writeDifference_42 : decode b_Cod_writeDifference 42 = .ok (.pop, 1) := by decide +kernel
theorem d_Cod_writeDifference_43 : decode b_Cod_writeDifference 43 = .ok (.aload_n 2, 1) := by decide +kernel
theorem d_Cod_writeDifference_44 : decode b_Cod_writeDifference 44 = .ok (.aload_n 0, 1) := by decide +kernel
theorem d_Cod_writeDifference_45 : decode b_Cod_writeDifference 45 = .ok (.getfield 19, 3) := by decide +kernel
theorem d_Cod_writeDifference_48 : decode b_Cod_writeDifference 48 = .ok (.iload 4, 2) := by decide +kernel
theorem d_Cod_writeDifference_50 : decode b_Cod_writeDifference 50 = .ok (.isub, 1) := by decide +kernel
theorem d_Cod_writeDifference_51 : decode b_Cod_writeDifference 51 = .ok (.invokevirtual 15, 3) := by decide +kernel
theorem d_Cod_writeDifference_54 : decode b_Cod_writeDifference 54 = .ok (.pop, 1) := by decide +kernel
theorem d_Cod_writeDifference_55 : decode b_Cod_writeDifference 55 = .ok (.aload_n 2, 1) := by decide +kernel
theorem d_Cod_writeDifference_56 : decode b_Cod_writeDifference 56 = .ok (.iload 5, 2) := by decide +kernel
theorem d_Cod_writeDifference_58 : decode b_Cod_writeDifference 58 = .ok (.invokevirtual 15, 3) := by decide +kernel
theorem d_Cod_writeDifference_61 : decode b_Cod_writeDifference 61 = .ok (.pop, 1) := by decide +kernel
theorem d_Cod_writeDifference_62 : decode b_Cod_writeDifference 62 = .ok (.aload_n 2, 1) := by decide +kernel
theorem d_Cod_writeDifference_63 : decode b_Cod_writeDifference 63 = .ok (.aload_n 1, 1) := by decide +kernel
theorem d_Cod_writeDifference_64 : decode b_Cod_writeDifference 64 = .ok (.iload_n 3, 1) := by decide +kernel
theorem d_Cod_writeDifference_65 : decode b_Cod_writeDifference 65 = .ok (.iload 5, 2) := by decide +kernel
theorem d_Cod_writeDifference_67 : decode b_Cod_writeDifference 67 = .ok (.invokevirtual 23, 3) := by decide +kernel
theorem d_Cod_writeDifference_70 : decode b_Cod_writeDifference 70 = .ok (.pop, 1) := by decide +kernel
theorem d_Cod_writeDifference_71 : decode b_Cod_writeDifference 71 = .ok (.return_, 1) := by decide +kernel
theorem d_Cod_writePacked_0 : decode b_Cod_writePacked 0 = .ok (.aload_n 1, 1) := by decide +kernel
theorem d_Cod_writePacked_1 : decode b_Cod_writePacked 1 = .ok (.iconst 0, 1) := by decide +kernel
theorem d_Cod_writePacked_2 : decode b_Cod_writePacked 2 = .ok (.invokevirtual 9, 3) := by decide +kernel
theorem d_Cod_writePacked_5 : decode b_Cod_writePacked 5 = .ok (.aload_n 1, 1) := by decide +kernel
theorem d_Cod_writePacked_6 : decode b_Cod_writePacked 6 = .ok (.bipush 120, 2) := by decide +kernel
theorem d_Cod_writePacked_8 : decode b_Cod_writePacked 8 = .ok (.invokevirtual 15, 3) := by decide +kernel
theorem d_Cod_writePacked_11 : decode b_Cod_writePacked 11 = .ok (.pop, 1) := by decide +kernel
theorem d_Cod_writePacked_12 : decode b_Cod_writePacked 12 = .ok (.iconst 0, 1) := by decide +kernel
theorem d_Cod_writePacked_13 : decode b_Cod_writePacked 13 = .ok (.istore_n 2, 1) := by decide +kernel
theorem d_Cod_writePacked_14 : decode b_Cod_writePacked 14 = .ok (.iconst 0, 1) := by decide +kernel
theorem d_Cod_writePacked_15 : decode b_Cod_writePacked 15 = .ok (.istore_n 3, 1) := by decide +kernel
theorem d_Cod_writePacked_16 : decode b_Cod_writePacked 16 = .ok (.iload_n 3, 1) := by decide +kernel
theorem d_Cod_writePacked_17 : decode b_Cod_writePacked 17 = .ok (.aload_n 0, 1) := by decide +kernel
theorem d_Cod_writePacked_18 : decode b_Cod_writePacked 18 = .ok (.getfield 19, 3) := by decide +kernel
theorem d_Cod_writePacked_21 : decode b_Cod_writePacked 21 = .ok (.if_icmp .ge 55, 3) := by decide +kernel
theorem d_Cod_writePacked_24 : decode b_Cod_writePacked 24 = .ok (.iinc 2 1, 3) := by decide +kernel
theorem d_Cod_writePacked_27 : decode b_Cod_writePacked 27 = .ok (.iload_n 3, 1) := by decide +kernel
theorem d_Cod_writePacked_28 : decode b_Cod_writePacked 28 = .ok (.iconst 1, 1) := by decide +kernel
theorem d_Cod_writePacked_29 : decode b_Cod_writePacked 29 = .ok (.iadd, 1) := by decide +kernel
theorem d_Cod_writePacked_30 : decode b_Cod_writePacked 30 = .ok (.aload_n 0, 1) := by decide +kernel
theorem d_Cod_writePacked_31 : decode b_Cod_writePacked 31 = .ok (.getfield 19, 3) := by decide +kernel
theorem d_Cod_writePacked_34 : decode b_Cod_writePacked 34 = .ok (.if_icmp .eq 18, 3) := by decide +kernel
theorem d_Cod_writePacked_37 : decode b_Cod_writePacked 37 = .ok (.aload_n 0, 1) := by decide +kernel
theorem d_Cod_writePacked_38 : decode b_Cod_writePacked 38 = .ok (.iload_n 3, 1) := by decide +kernel
theorem d_Cod_writePacked_39 : decode b_Cod_writePacked 39 = .ok (.iconst 1, 1) := by decide +kernel
theorem d_Cod_writePacked_40 : decode b_Cod_writePacked 40 = .ok (.iadd, 1) := by decide +kernel
theorem d_Cod_writePacked_41 : decode b_Cod_writePacked 41 = .ok (.invokevirtual 27, 3) := by decide +kernel
theorem d_Cod_writePacked_44 : decode b_Cod_writePacked 44 = .ok (.aload_n 0, 1) := by decide +kernel
theorem d_Cod_writePacked_45 : decode b_Cod_writePacked 45 = .ok (.iload_n 3, 1) := by decide +kernel
theorem d_Cod_writePacked_46 : decode b_Cod_writePacked 46 = .ok (.invokevirtual 27, 3) := by decide +kernel
theorem d_Cod_writePacked_49 : decode b_Cod_writePacked 49 = .ok (.if_icmp .eq 21, 3) := by decide +kernel
theorem d_Cod_writePacked_52 : decode b_Cod_writePacked 52 = .ok (.aload_n 1, 1) := by decide +kernel
theorem d_Cod_writePacked_53 : decode b_Cod_writePacked 53 = .ok (.iload_n 2, 1) := by decide +kernel
theorem d_Cod_writePacked_54 : decode b_Cod_writePacked 54 = .ok (.invokevirtual 15, 3) := by decide +kernel
theorem d_Cod_writePacked_57 : decode b_Cod_writePacked 57 = .ok (.pop, 1) := by decide +kernel
theorem d_Cod_writePacked_58 : decode b_Cod_writePacked 58 = .ok (.aload_n 1, 1) := by decide +kernel
theorem d_Cod_writePacked_59 : decode b_Cod_writePacked 59 = .ok (.aload_n 0, 1) := by decide +kernel
theorem d_Cod_writePacked_60 : decode b_Cod_writePacked 60 = .ok (.iload_n 3, 1) := by decide +kernel
theorem d_Cod_writePacked_61 : decode b_Cod_writePacked 61 = .ok (.invokevirtual 27, 3) := by decide +kernel
theorem d_Cod_writePacked_64 : decode b_Cod_writePacked 64 = .ok (.invokevirtual 15, 3) := by decide +kernel
theorem d_Cod_writePacked_67 : decode b_Cod_writePacked 67 = .ok (.pop, 1) := by decide +kernel
theorem d_Cod_writePacked_68 : decode b_Cod_writePacked 68 = .ok (.iconst 0, 1) := by decide +kernel
theorem d_Cod_writePacked_69 : decode b_Cod_writePacked 69 = .ok (.istore_n 2, 1) := by decide +kernel
theorem d_Cod_writePacked_70 : decode b_Cod_writePacked 70 = .ok (.iinc 3 1, 3) := by decide +kernel
theorem d_Cod_writePacked_73 : decode b_Cod_writePacked 73 = .ok (.goto (-57), 3) := by decide +kernel
theorem d_Cod_writePacked_76 : decode b_Cod_writePacked 76 = .ok (.return_, 1) := by decide +kernel
theorem d_Cod_writeWhole_0 : decode b_Cod_writeWhole 0 = .ok (.aload_n 1, 1) := by decide +kernel
theorem d_Cod_writeWhole_1 : decode b_Cod_writeWhole 1 = .ok (.iconst 0, 1) := by decide +kernel
theorem d_Cod_writeWhole_2 : decode b_Cod_writeWhole 2 = .ok (.invokevirtual 9, 3) := by decide +kernel
theorem d_Cod_writeWhole_5 : decode b_Cod_writeWhole 5 = .ok (.aload_n 1, 1) := by decide +kernel
theorem d_Cod_writeWhole_6 : decode b_Cod_writeWhole 6 = .ok (.bipush 117, 2) := by decide +kernel
theorem d_Cod_writeWhole_8 : decode b_Cod_writeWhole 8 = .ok (.invokevirtual 15, 3) := by decide +kernel
theorem d_Cod_writeWhole_11 : decode b_Cod_writeWhole 11 = .ok (.pop, 1) := by decide +kernel
theorem d_Cod_writeWhole_12 : decode b_Cod_writeWhole 12 = .ok (.aload_n 1, 1) := by decide +kernel
theorem d_Cod_writeWhole_13 : decode b_Cod_writeWhole 13 = .ok (.aload_n 0, 1) := by decide +kernel
theorem d_Cod_writeWhole_14 : decode b_Cod_writeWhole 14 = .ok (.iconst 0, 1) := by decide +kernel
theorem d_Cod_writeWhole_15 : decode b_Cod_writeWhole 15 = .ok (.aload_n 0, 1) := by decide +kernel
theorem d_Cod_writeWhole_16 : decode b_Cod_writeWhole 16 = .ok (.getfield 19, 3) := by decide +kernel
theorem d_Cod_writeWhole_19 : decode b_Cod_writeWhole 19 = .ok (.invokevirtual 23, 3) := by decide +kernel
theorem d_Cod_writeWhole_22 : decode b_Cod_writeWhole 22 = .ok (.pop, 1) := by decide +kernel
theorem d_Cod_writeWhole_23 : decode b_Cod_writeWhole 23 = .ok (.return_, 1) := by decide +kernel
theorem d_JA_fill_0 : decode b_JA_fill 0 = .ok (.aload_n 0, 1) := by decide +kernel
theorem d_JA_fill_1 : decode b_JA_fill 1 = .ok (.arraylength, 1) := by decide +kernel
theorem d_JA_fill_2 : decode b_JA_fill 2 = .ok (.iload_n 1, 1) := by decide +kernel
theorem d_JA_fill_3 : decode b_JA_fill 3 = .ok (.iload_n 2, 1) := by decide +kernel
theorem d_JA_fill_4 : decode b_JA_fill 4 = .ok (.invokestatic 13, 3) := by decide +kernel
theorem d_JA_fill_7 : decode b_JA_fill 7 = .ok (.iload_n 1, 1) := by decide +kernel
theorem d_JA_fill_8 : decode b_JA_fill 8 = .ok (.istore 4, 2) := by decide +kernel
theorem d_JA_fill_10 : decode b_JA_fill 10 = .ok (.iload 4, 2) := by decide +kernel
theorem d_JA_fill_12 : decode b_JA_fill 12 = .ok (.iload_n 2, 1) := by decide +kernel
theorem d_JA_fill_13 : decode b_JA_fill 13 = .ok (.if_icmp .ge 14, 3) := by decide +kernel
theorem d_JA_fill_16 : decode b_JA_fill 16 = .ok (.aload_n 0, 1) := by decide +kernel
theorem d_JA_fill_17 : decode b_JA_fill 17 = .ok (.iload 4, 2) := by decide +kernel
theorem d_JA_fill_19 : decode b_JA_fill 19 = .ok (.iload_n 3, 1) := by decide +kernel
theorem d_JA_fill_20 : decode b_JA_fill 20 = .ok (.iastore, 1) := by decide +kernel
theorem d_JA_fill_21 : decode b_JA_fill 21 = .ok (.iinc 4 1, 3) := by decide +kernel
theorem d_JA_fill_24 : decode b_JA_fill 24 = .ok (.goto (-14), 3) := by decide +kernel
theorem d_JA_fill_27 : decode b_JA_fill 27 = .ok (.return_, 1) := by decide +kernel
theorem d_JA_rangeCheck_0 : decode b_JA_rangeCheck 0 = .ok (.iload_n 1, 1) := by decide +kernel
theorem d_JA_rangeCheck_1 : decode b_JA_rangeCheck 1 = .ok (.iload_n 2, 1) := by decide +kernel
theorem d_JA_rangeCheck_2 : decode b_JA_rangeCheck 2 = .ok (.if_icmp .le 44, 3) := by decide +kernel
theorem d_JA_rangeCheck_5 : decode b_JA_rangeCheck 5 = .ok (.new 43, 3) := by decide +kernel
theorem d_JA_rangeCheck_8 : decode b_JA_rangeCheck 8 = .ok (.dup, 1) := by decide +kernel
theorem d_JA_rangeCheck_9 : decode b_JA_rangeCheck 9 = .ok (.new 45, 3) := by decide +kernel
theorem d_JA_rangeCheck_12 : decode b_JA_rangeCheck 12 = .ok (.dup, 1) := by decide +kernel
theorem d_JA_rangeCheck_13 : decode b_JA_rangeCheck 13 = .ok (.invokespecial 47, 3) := by decide +kernel
theorem d_JA_rangeCheck_16 : decode b_JA_rangeCheck 16 = .ok (.ldc 48, 2) := by decide +kernel
theorem d_JA_rangeCheck_18 : decode b_JA_rangeCheck 18 = .ok (.invokevirtual 50, 3) := by decide +kernel
theorem d_JA_rangeCheck_21 : decode b_JA_rangeCheck 21 = .ok (.iload_n 1, 1) := by decide +kernel
theorem d_JA_rangeCheck_22 : decode b_JA_rangeCheck 22 = .ok (.invokevirtual 54, 3) := by decide +kernel
theorem d_JA_rangeCheck_25 : decode b_JA_rangeCheck 25 = .ok (.ldc 57, 2) := by decide +kernel
theorem d_JA_rangeCheck_27 : decode b_JA_rangeCheck 27 = .ok (.invokevirtual 50, 3) := by decide +kernel
theorem d_JA_rangeCheck_30 : decode b_JA_rangeCheck 30 = .ok (.iload_n 2, 1) := by decide +kernel
theorem d_JA_rangeCheck_31 : decode b_JA_rangeCheck 31 = .ok (.invokevirtual 54, 3) := by decide +kernel
theorem d_JA_rangeCheck_34 : decode b_JA_rangeCheck 34 = .ok (.ldc 59, 2) := by decide +kernel
theorem d_JA_rangeCheck_36 : decode b_JA_rangeCheck 36 = .ok (.invokevirtual 50, 3) := by decide +kernel
theorem d_JA_rangeCheck_39 : decode b_JA_rangeCheck 39 = .ok (.invokevirtual 61, 3) := by decide +kernel
theorem d_JA_rangeCheck_42 : decode b_JA_rangeCheck 42 = .ok (.invokespecial 65, 3) := by decide +kernel
theorem d_JA_rangeCheck_45 : decode b_JA_rangeCheck 45 = .ok (.athrow, 1) := by decide +kernel
theorem d_JA_rangeCheck_46 : decode b_JA_rangeCheck 46 = .ok (.iload_n 1, 1) := by decide +kernel
theorem d_JA_rangeCheck_47 : decode b_JA_rangeCheck 47 = .ok (.ifCond .ge 12, 3) := by decide +kernel
theorem d_JA_rangeCheck_50 : decode b_JA_rangeCheck 50 = .ok (.new 68, 3) := by decide +kernel
theorem d_JA_rangeCheck_53 : decode b_JA_rangeCheck 53 = .ok (.dup, 1) := by decide +kernel
theorem d_JA_rangeCheck_54 : decode b_JA_rangeCheck 54 = .ok (.iload_n 1, 1) := by decide +kernel
theorem d_JA_rangeCheck_55 : decode b_JA_rangeCheck 55 = .ok (.invokespecial 70, 3) := by decide +kernel
theorem d_JA_rangeCheck_58 : decode b_JA_rangeCheck 58 = .ok (.athrow, 1) := by decide +kernel
theorem d_JA_rangeCheck_59 : decode b_JA_rangeCheck 59 = .ok (.iload_n 2, 1) := by decide +kernel
theorem d_JA_rangeCheck_60 : decode b_JA_rangeCheck 60 = .ok (.iload_n 0, 1) := by decide +kernel
theorem d_JA_rangeCheck_61 : decode b_JA_rangeCheck 61 = .ok (.if_icmp .le 12, 3) := by decide +kernel
theorem d_JA_rangeCheck_64 : decode b_JA_rangeCheck 64 = .ok (.new 68, 3) := by decide +kernel
theorem d_JA_rangeCheck_67 : decode b_JA_rangeCheck 67 = .ok (.dup, 1) := by decide +kernel
theorem d_JA_rangeCheck_68 : decode b_JA_rangeCheck 68 = .ok (.iload_n 2, 1) := by decide +kernel
theorem d_JA_rangeCheck_69 : decode b_JA_rangeCheck 69 = .ok (.invokespecial 70, 3) := by decide +kernel
theorem d_JA_rangeCheck_72 : decode b_JA_rangeCheck 72 = .ok (.athrow, 1) := by decide +kernel
theorem d_JA_rangeCheck_73 : decode b_JA_rangeCheck 73 = .ok (.return_, 1) := by decide +kernel
theorem d_JI_bitCount_0 : decode b_JI_bitCount 0 = .ok (.iload_n 0, 1) := by decide +kernel
theorem d_JI_bitCount_1 : decode b_JI_bitCount 1 = .ok (.iload_n 0, 1) := by decide +kernel
theorem d_JI_bitCount_2 : decode b_JI_bitCount 2 = .ok (.iconst 1, 1) := by decide +kernel
theorem d_JI_bitCount_3 : decode b_JI_bitCount 3 = .ok (.iushr, 1) := by decide +kernel
theorem d_JI_bitCount_4 : decode b_JI_bitCount 4 = .ok (.ldc_w 265, 3) := by decide +kernel
theorem d_JI_bitCount_7 : decode b_JI_bitCount 7 = .ok (.iand, 1) := by decide +kernel
theorem d_JI_bitCount_8 : decode b_JI_bitCount 8 = .ok (.isub, 1) := by decide +kernel
theorem d_JI_bitCount_9 : decode b_JI_bitCount 9 = .ok (.istore_n 0, 1) := by decide +kernel
theorem d_JI_bitCount_10 : decode b_JI_bitCount 10 = .ok (.iload_n 0, 1) := by decide +kernel
theorem d_JI_bitCount_11 : decode b_JI_bitCount 11 = .ok (.ldc_w 266, 3) := by decide +kernel
theorem d_JI_bitCount_14 : decode b_JI_bitCount 14 = .ok (.iand, 1) := by decide +kernel
theorem d_JI_bitCount_15 : decode b_JI_bitCount 15 = .ok (.iload_n 0, 1) := by decide +kernel
theorem d_JI_bitCount_16 : decode b_JI_bitCount 16 = .ok (.iconst 2, 1) := by decide +kernel
theorem d_JI_bitCount_17 : decode b_JI_bitCount 17 = .ok (.iushr, 1) := by decide +kernel
theorem d_JI_bitCount_18 : decode b_JI_bitCount 18 = .ok (.ldc_w 266, 3) := by decide +kernel
theorem d_JI_bitCount_21 : decode b_JI_bitCount 21 = .ok (.iand, 1) := by decide +kernel
theorem d_JI_bitCount_22 : decode b_JI_bitCount 22 = .ok (.iadd, 1) := by decide +kernel
theorem d_JI_bitCount_23 : decode b_JI_bitCount 23 = .ok (.istore_n 0, 1) := by decide +kernel
theorem d_JI_bitCount_24 : decode b_JI_bitCount 24 = .ok (.iload_n 0, 1) := by decide +kernel
theorem d_JI_bitCount_25 : decode b_JI_bitCount 25 = .ok (.iload_n 0, 1) := by decide +kernel
theorem d_JI_bitCount_26 : decode b_JI_bitCount 26 = .ok (.iconst 4, 1) := by decide +kernel
theorem d_JI_bitCount_27 : decode b_JI_bitCount 27 = .ok (.iushr, 1) := by decide +kernel
theorem d_JI_bitCount_28 : decode b_JI_bitCount 28 = .ok (.iadd, 1) := by decide +kernel
theorem d_JI_bitCount_29 : decode b_JI_bitCount 29 = .ok (.ldc_w 267, 3) := by decide +kernel
theorem d_JI_bitCount_32 : decode b_JI_bitCount 32 = .ok (.iand, 1) := by decide +kernel
theorem d_JI_bitCount_33 : decode b_JI_bitCount 33 = .ok (.istore_n 0, 1) := by decide +kernel
theorem d_JI_bitCount_34 : decode b_JI_bitCount 34 = .ok (.iload_n 0, 1) := by decide +kernel
theorem d_JI_bitCount_35 : decode b_JI_bitCount 35 = .ok (.iload_n 0, 1) := by decide +kernel
theorem d_JI_bitCount_36 : decode b_JI_bitCount 36 = .ok (.bipush 8, 2) := by decide +kernel
theorem d_JI_bitCount_38 : decode b_JI_bitCount 38 = .ok (.iushr, 1) := by decide +kernel
theorem d_JI_bitCount_39 : decode b_JI_bitCount 39 = .ok (.iadd, 1) := by decide +kernel
theorem d_JI_bitCount_40 : decode b_JI_bitCount 40 = .ok (.istore_n 0, 1) := by decide +kernel
theorem d_JI_bitCount_41 : decode b_JI_bitCount 41 = .ok (.iload_n 0, 1) := by decide +kernel
theorem d_JI_bitCount_42 : decode b_JI_bitCount 42 = .ok (.iload_n 0, 1) := by decide +kernel
theorem d_JI_bitCount_43 : decode b_JI_bitCount 43 = .ok (.bipush 16, 2) := by decide +kernel
theorem d_JI_bitCount_45 : decode b_JI_bitCount 45 = .ok (.iushr, 1) := by decide +kernel
theorem d_JI_bitCount_46 : decode b_JI_bitCount 46 = .ok (.iadd, 1) := by decide +kernel
theorem d_JI_bitCount_47 : decode b_JI_bitCount 47 = .ok (.istore_n 0, 1) := by decide +kernel
theorem d_JI_bitCount_48 : decode b_JI_bitCount 48 = .ok (.iload_n 0, 1) := by decide +kernel
theorem d_JI_bitCount_49 : decode b_JI_bitCount 49 = .ok (.bipush 63, 2) := by decide +kernel
theorem d_JI_bitCount_51 : decode b_JI_bitCount 51 = .ok (.iand, 1) := by decide +kernel
theorem d_JI_bitCount_52 : decode b_JI_bitCount 52 = .ok (.ireturn, 1) := by decide +kernel
theorem d_Rec_describe_0 : decode b_Rec_describe 0 = .ok (.aload_n 0, 1) := by decide +kernel
theorem d_Rec_describe_1 : decode b_Rec_describe 1 = .ok (.iload_n 1, 1) := by decide +kernel
theorem d_Rec_describe_2 : decode b_Rec_describe 2 = .ok (.putfield 21, 3) := by decide +kernel
theorem d_Rec_describe_5 : decode b_Rec_describe 5 = .ok (.aload_n 0, 1) := by decide +kernel
theorem d_Rec_describe_6 : decode b_Rec_describe 6 = .ok (.iload_n 2, 1) := by decide +kernel
theorem d_Rec_describe_7 : decode b_Rec_describe 7 = .ok (.putfield 24, 3) := by decide +kernel
theorem d_Rec_describe_10 : decode b_Rec_describe 10 = .ok (.aload_n 0, 1) := by decide +kernel
theorem d_Rec_describe_11 : decode b_Rec_describe 11 = .ok (.iload_n 3, 1) := by decide +kernel
theorem d_Rec_describe_12 : decode b_Rec_describe 12 = .ok (.putfield 27, 3) := by decide +kernel
theorem d_Rec_describe_15 : decode b_Rec_describe 15 = .ok (.aload_n 0, 1) := by decide +kernel
theorem d_Rec_describe_16 : decode b_Rec_describe 16 = .ok (.lload 4, 2) := by decide +kernel
theorem d_Rec_describe_18 : decode b_Rec_describe 18 = .ok (.putfield 30, 3) := by decide +kernel
theorem d_Rec_describe_21 : decode b_Rec_describe 21 = .ok (.return_, 1) := by decide +kernel
theorem d_Rec_field_0 : decode b_Rec_field 0 = .ok (.iload_n 1, 1) := by decide +kernel
theorem d_Rec_field_1 : decode b_Rec_field 1 = .ok (.tableswitch 69 0 5 #[39, 44, 49, 54, 59, 64], 39) := by decide +kernel
theorem d_Rec_field_40 : decode b_Rec_field 40 = .ok (.aload_n 0, 1) := by decide +kernel
theorem d_Rec_field_41 : decode b_Rec_field 41 = .ok (.getfield 9, 3) := by decide +kernel
theorem d_Rec_field_44 : decode b_Rec_field 44 = .ok (.ireturn, 1) := by decide +kernel
theorem d_Rec_field_45 : decode b_Rec_field 45 = .ok (.aload_n 0, 1) := by decide +kernel
theorem d_Rec_field_46 : decode b_Rec_field 46 = .ok (.getfield 15, 3) := by decide +kernel
theorem d_Rec_field_49 : decode b_Rec_field 49 = .ok (.ireturn, 1) := by decide +kernel
theorem d_Rec_field_50 : decode b_Rec_field 50 = .ok (.aload_n 0, 1) := by decide +kernel
theorem d_Rec_field_51 : decode b_Rec_field 51 = .ok (.getfield 21, 3) := by decide +kernel
theorem d_Rec_field_54 : decode b_Rec_field 54 = .ok (.ireturn, 1) := by decide +kernel
theorem d_Rec_field_55 : decode b_Rec_field 55 = .ok (.aload_n 0, 1) := by decide +kernel
theorem d_Rec_field_56 : decode b_Rec_field 56 = .ok (.getfield 18, 3) := by decide +kernel
theorem d_Rec_field_59 : decode b_Rec_field 59 = .ok (.ireturn, 1) := by decide +kernel
theorem d_Rec_field_60 : decode b_Rec_field 60 = .ok (.aload_n 0, 1) := by decide +kernel
theorem d_Rec_field_61 : decode b_Rec_field 61 = .ok (.getfield 24, 3) := by decide +kernel
theorem d_Rec_field_64 : decode b_Rec_field 64 = .ok (.ireturn, 1) := by decide +kernel
theorem d_Rec_field_65 : decode b_Rec_field 65 = .ok (.aload_n 0, 1) := by decide +kernel
theorem d_Rec_field_66 : decode b_Rec_field 66 = .ok (.getfield 27, 3) := by decide +kernel
theorem d_Rec_field_69 : decode b_Rec_field 69 = .ok (.ireturn, 1) := by decide +kernel
theorem d_Rec_field_70 : decode b_Rec_field 70 = .ok (.iconst (-1), 1) := by decide +kernel
theorem d_Rec_field_71 : decode b_Rec_field 71 = .ok (.ireturn, 1) := by decide +kernel
theorem d_Rec_init_0 : decode b_Rec_init 0 = .ok (.aload_n 0, 1) := by decide +kernel
theorem d_Rec_init_1 : decode b_Rec_init 1 = .ok (.invokespecial 3, 3) := by decide +kernel
theorem d_Rec_init_4 : decode b_Rec_init 4 = .ok (.return_, 1) := by decide +kernel
theorem d_Rec_placeChunk_0 : decode b_Rec_placeChunk 0 = .ok (.aload_n 0, 1) := by decide +kernel
theorem d_Rec_placeChunk_1 : decode b_Rec_placeChunk 1 = .ok (.iload_n 1, 1) := by decide +kernel
theorem d_Rec_placeChunk_2 : decode b_Rec_placeChunk 2 = .ok (.putfield 9, 3) := by decide +kernel
theorem d_Rec_placeChunk_5 : decode b_Rec_placeChunk 5 = .ok (.aload_n 0, 1) := by decide +kernel
theorem d_Rec_placeChunk_6 : decode b_Rec_placeChunk 6 = .ok (.iload_n 2, 1) := by decide +kernel
theorem d_Rec_placeChunk_7 : decode b_Rec_placeChunk 7 = .ok (.putfield 15, 3) := by decide +kernel
theorem d_Rec_placeChunk_10 : decode b_Rec_placeChunk 10 = .ok (.aload_n 0, 1) := by decide +kernel
theorem d_Rec_placeChunk_11 : decode b_Rec_placeChunk 11 = .ok (.iload_n 3, 1) := by decide +kernel
theorem d_Rec_placeChunk_12 : decode b_Rec_placeChunk 12 = .ok (.putfield 18, 3) := by decide +kernel
theorem d_Rec_placeChunk_15 : decode b_Rec_placeChunk 15 = .ok (.return_, 1) := by decide +kernel
theorem d_Rep_ancestorsOf_0 : decode b_Rep_ancestorsOf 0 = .ok (.iconst 1, 1) := by decide +kernel
theorem d_Rep_ancestorsOf_1 : decode b_Rep_ancestorsOf 1 = .ok (.iload_n 1, 1) := by decide +kernel
theorem d_Rep_ancestorsOf_2 : decode b_Rep_ancestorsOf 2 = .ok (.ishl, 1) := by decide +kernel
theorem d_Rep_ancestorsOf_3 : decode b_Rep_ancestorsOf 3 = .ok (.istore_n 2, 1) := by decide +kernel
theorem d_Rep_ancestorsOf_4 : decode b_Rep_ancestorsOf 4 = .ok (.iload_n 1, 1) := by decide +kernel
theorem d_Rep_ancestorsOf_5 : decode b_Rep_ancestorsOf 5 = .ok (.istore_n 3, 1) := by decide +kernel
theorem d_Rep_ancestorsOf_6 : decode b_Rep_ancestorsOf 6 = .ok (.iload_n 3, 1) := by decide +kernel
theorem d_Rep_ancestorsOf_7 : decode b_Rep_ancestorsOf 7 = .ok (.ifCond .lt 25, 3) := by decide +kernel
theorem d_Rep_ancestorsOf_10 : decode b_Rep_ancestorsOf 10 = .ok (.iload_n 2, 1) := by decide +kernel
theorem d_Rep_ancestorsOf_11 : decode b_Rep_ancestorsOf 11 = .ok (.iload_n 3, 1) := by decide +kernel
theorem d_Rep_ancestorsOf_12 : decode b_Rep_ancestorsOf 12 = .ok (.ishr, 1) := by decide +kernel
theorem d_Rep_ancestorsOf_13 : decode b_Rep_ancestorsOf 13 = .ok (.iconst 1, 1) := by decide +kernel
theorem d_Rep_ancestorsOf_14 : decode b_Rep_ancestorsOf 14 = .ok (.iand, 1) := by decide +kernel
theorem d_Rep_ancestorsOf_15 : decode b_Rep_ancestorsOf 15 = .ok (.ifCond .eq 11, 3) := by decide +kernel
theorem d_Rep_ancestorsOf_18 : decode b_Rep_ancestorsOf 18 = .ok (.iload_n 2, 1) := by decide +kernel
theorem d_Rep_ancestorsOf_19 : decode b_Rep_ancestorsOf 19 = .ok (.aload_n 0, 1) := by decide +kernel
theorem d_Rep_ancestorsOf_20 : decode b_Rep_ancestorsOf 20 = .ok (.iload_n 3, 1) := by decide +kernel
theorem d_Rep_ancestorsOf_21 : decode b_Rep_ancestorsOf 21 = .ok (.invokevirtual 200, 3) := by decide +kernel
theorem d_Rep_ancestorsOf_24 : decode b_Rep_ancestorsOf 24 = .ok (.ior, 1) := by decide +kernel
theorem d_Rep_ancestorsOf_25 : decode b_Rep_ancestorsOf 25 = .ok (.istore_n 2, 1) := by decide +kernel
theorem d_Rep_ancestorsOf_26 : decode b_Rep_ancestorsOf 26 = .ok (.iinc 3 (-1), 3) := by decide +kernel
theorem d_Rep_ancestorsOf_29 : decode b_Rep_ancestorsOf 29 = .ok (.goto (-23), 3) := by decide +kernel
theorem d_Rep_ancestorsOf_32 : decode b_Rep_ancestorsOf 32 = .ok (.iload_n 2, 1) := by decide +kernel
theorem d_Rep_ancestorsOf_33 : decode b_Rep_ancestorsOf 33 = .ok (.ireturn, 1) := by decide +kernel
theorem d_Rep_build_0 : decode b_Rep_build 0 = .ok (.iconst 0, 1) := by decide +kernel
theorem d_Rep_build_1 : decode b_Rep_build 1 = .ok (.istore_n 2, 1) := by decide +kernel
theorem d_Rep_build_2 : decode b_Rep_build 2 = .ok (.iload_n 1, 1) := by decide +kernel
theorem d_Rep_build_3 : decode b_Rep_build 3 = .ok (.istore_n 3, 1) := by decide +kernel
theorem d_Rep_build_4 : decode b_Rep_build 4 = .ok (.iload_n 3, 1) := by decide +kernel
theorem d_Rep_build_5 : decode b_Rep_build 5 = .ok (.iconst (-1), 1) := by decide +kernel
theorem d_Rep_build_6 : decode b_Rep_build 6 = .ok (.if_icmp .eq 32, 3) := by decide +kernel
theorem d_Rep_build_9 : decode b_Rep_build 9 = .ok (.iload_n 2, 1) := by decide +kernel
theorem d_Rep_build_10 : decode b_Rep_build 10 = .ok (.bipush 6, 2) := by decide +kernel
theorem d_Rep_build_12 : decode b_Rep_build 12 = .ok (.if_icmp .ge 26, 3) := by decide +kernel
theorem d_Rep_build_15 : decode b_Rep_build 15 = .ok (.aload_n 0, 1) := by decide +kernel
theorem d_Rep_build_16 : decode b_Rep_build 16 = .ok (.getfield 44, 3) := by decide +kernel
theorem d_Rep_build_19 : decode b_Rep_build 19 = .ok (.iload_n 2, 1) := by decide +kernel
theorem d_Rep_build_20 : decode b_Rep_build 20 = .ok (.iload_n 3, 1) := by decide +kernel
theorem d_Rep_build_21 : decode b_Rep_build 21 = .ok (.iastore, 1) := by decide +kernel
theorem d_Rep_build_22 : decode b_Rep_build 22 = .ok (.iinc 2 1, 3) := by decide +kernel
theorem d_Rep_build_25 : decode b_Rep_build 25 = .ok (.aload_n 0, 1) := by decide +kernel
theorem d_Rep_build_26 : decode b_Rep_build 26 = .ok (.getfield 22, 3) := by decide +kernel
theorem d_Rep_build_29 : decode b_Rep_build 29 = .ok (.iload_n 3, 1) := by decide +kernel
theorem d_Rep_build_30 : decode b_Rep_build 30 = .ok (.aaload, 1) := by decide +kernel
theorem d_Rep_build_31 : decode b_Rep_build 31 = .ok (.getfield 186, 3) := by decide +kernel
theorem d_Rep_build_34 : decode b_Rep_build 34 = .ok (.istore_n 3, 1) := by decide +kernel
theorem d_Rep_build_35 : decode b_Rep_build 35 = .ok (.goto (-31), 3) := by decide +kernel
theorem d_Rep_build_38 : decode b_Rep_build 38 = .ok (.aload_n 0, 1) := by decide +kernel
theorem d_Rep_build_39 : decode b_Rep_build 39 = .ok (.getfield 41, 3) := by decide +kernel
theorem d_Rep_build_42 : decode b_Rep_build 42 = .ok (.iconst 0, 1) := by decide +kernel
theorem d_Rep_build_43 : decode b_Rep_build 43 = .ok (.invokevirtual 71, 3) := by decide +kernel
theorem d_Rep_build_46 : decode b_Rep_build 46 = .ok (.iload_n 2, 1) := by decide +kernel
theorem d_Rep_build_47 : decode b_Rep_build 47 = .ok (.iconst 1, 1) := by decide +kernel
theorem d_Rep_build_48 : decode b_Rep_build 48 = .ok (.isub, 1) := by decide +kernel
theorem d_Rep_build_49 : decode b_Rep_build 49 = .ok (.istore 4, 2) := by decide +kernel
theorem d_Rep_build_51 : decode b_Rep_build 51 = .ok (.iload 4, 2) := by decide +kernel
theorem d_Rep_build_53 : decode b_Rep_build 53 = .ok (.ifCond .lt 86, 3) := by decide +kernel
theorem d_Rep_build_56 : decode b_Rep_build 56 = .ok (.aload_n 0, 1) := by decide +kernel
theorem d_Rep_build_57 : decode b_Rep_build 57 = .ok (.getfield 22, 3) := by decide +kernel
theorem d_Rep_build_60 : decode b_Rep_build 60 = .ok (.aload_n 0, 1) := by decide +kernel
theorem d_Rep_build_61 : decode b_Rep_build 61 = .ok (.getfield 44, 3) := by decide +kernel
theorem d_Rep_build_64 : decode b_Rep_build 64 = .ok (.iload 4, 2) := by decide +kernel
theorem d_Rep_build_66 : decode b_Rep_build 66 = .ok (.iaload, 1) := by decide +kernel
theorem d_Rep_build_67 : decode b_Rep_build 67 = .ok (.aaload, 1) := by decide +kernel
theorem d_Rep_build_68 : decode b_Rep_build 68 = .ok (.astore 5, 2) := by decide +kernel
theorem d_Rep_build_70 : decode b_Rep_build 70 = .ok (.aload 5, 2) := by decide +kernel
theorem d_Rep_build_72 : decode b_Rep_build 72 = .ok (.getfield 186, 3) := by decide +kernel
theorem d_Rep_build_75 : decode b_Rep_build 75 = .ok (.iconst (-1), 1) := by decide +kernel
theorem d_Rep_build_76 : decode b_Rep_build 76 = .ok (.if_icmp .ne 27, 3) := by decide +kernel
theorem d_Rep_build_79 : decode b_Rep_build 79 = .ok (.aload_n 0, 1) := by decide +kernel
theorem d_Rep_build_80 : decode b_Rep_build 80 = .ok (.getfield 14, 3) := by decide +kernel
theorem d_Rep_build_83 : decode b_Rep_build 83 = .ok (.aload 5, 2) := by decide +kernel
theorem d_Rep_build_85 : decode b_Rep_build 85 = .ok (.getfield 189, 3) := by decide +kernel
theorem d_Rep_build_88 : decode b_Rep_build 88 = .ok (.aload 5, 2) := by decide +kernel
theorem d_Rep_build_90 : decode b_Rep_build 90 = .ok (.getfield 183, 3) := by decide +kernel
theorem d_Rep_build_93 : decode b_Rep_build 93 = .ok (.aload_n 0, 1) := by decide +kernel
theorem d_Rep_build_94 : decode b_Rep_build 94 = .ok (.getfield 41, 3) := by decide +kernel
theorem d_Rep_build_97 : decode b_Rep_build 97 = .ok (.invokestatic 192, 3) := by decide +kernel
theorem d_Rep_build_100 : decode b_Rep_build 100 = .ok (.goto 24, 3) := by decide +kernel
theorem d_Rep_build_103 : decode b_Rep_build 103 = .ok (.aload_n 0, 1) := by decide +kernel
theorem d_Rep_build_104 : decode b_Rep_build 104 = .ok (.getfield 14, 3) := by decide +kernel
theorem d_Rep_build_107 : decode b_Rep_build 107 = .ok (.aload 5, 2) := by decide +kernel
theorem d_Rep_build_109 : decode b_Rep_build 109 = .ok (.getfield 189, 3) := by decide +kernel
theorem d_Rep_build_112 : decode b_Rep_build 112 = .ok (.aload 5, 2) := by decide +kernel
theorem d_Rep_build_114 : decode b_Rep_build 114 = .ok (.getfield 183, 3) := by decide +kernel
theorem d_Rep_build_117 : decode b_Rep_build 117 = .ok (.aload_n 0, 1) := by decide +kernel
theorem d_Rep_build_118 : decode b_Rep_build 118 = .ok (.getfield 41, 3) := by decide +kernel
theorem d_Rep_build_121 : decode b_Rep_build 121 = .ok (.invokestatic 196, 3) := by decide +kernel
theorem d_Rep_build_124 : decode b_Rep_build 124 = .ok (.istore 6, 2) := by decide +kernel
theorem d_Rep_build_126 : decode b_Rep_build 126 = .ok (.iload 6, 2) := by decide +kernel
theorem d_Rep_build_128 : decode b_Rep_build 128 = .ok (.ifCond .ne 5, 3) := by decide +kernel
theorem d_Rep_build_131 : decode b_Rep_build 131 = .ok (.iconst 0, 1) := by decide +kernel
theorem d_Rep_build_132 : decode b_Rep_build 132 = .ok (.ireturn, 1) := by decide +kernel
theorem d_Rep_build_133 : decode b_Rep_build 133 = .ok (.iinc 4 (-1), 3) := by decide +kernel
theorem d_Rep_build_136 : decode b_Rep_build 136 = .ok (.goto (-85), 3) := by decide +kernel
theorem d_Rep_build_139 : decode b_Rep_build 139 = .ok (.aload_n 0, 1) := by decide +kernel
theorem d_Rep_build_140 : decode b_Rep_build 140 = .ok (.getfield 22, 3) := by decide +kernel
theorem d_Rep_build_143 : decode b_Rep_build 143 = .ok (.iload_n 1, 1) := by decide +kernel
theorem d_Rep_build_144 : decode b_Rep_build 144 = .ok (.aaload, 1) := by decide +kernel
theorem d_Rep_build_145 : decode b_Rep_build 145 = .ok (.astore 4, 2) := by decide +kernel
theorem d_Rep_build_147 : decode b_Rep_build 147 = .ok (.aload_n 0, 1) := by decide +kernel
theorem d_Rep_build_148 : decode b_Rep_build 148 = .ok (.getfield 41, 3) := by decide +kernel
theorem d_Rep_build_151 : decode b_Rep_build 151 = .ok (.getfield 62, 3) := by decide +kernel
theorem d_Rep_build_154 : decode b_Rep_build 154 = .ok (.aload 4, 2) := by decide +kernel
theorem d_Rep_build_156 : decode b_Rep_build 156 = .ok (.getfield 199, 3) := by decide +kernel
theorem d_Rep_build_159 : decode b_Rep_build 159 = .ok (.if_icmp .ne 34, 3) := by decide +kernel
theorem d_Rep_build_162 : decode b_Rep_build 162 = .ok (.aload_n 0, 1) := by decide +kernel
theorem d_Rep_build_163 : decode b_Rep_build 163 = .ok (.aload_n 0, 1) := by decide +kernel
theorem d_Rep_build_164 : decode b_Rep_build 164 = .ok (.getfield 41, 3) := by decide +kernel
theorem d_Rep_build_167 : decode b_Rep_build 167 = .ok (.aload 4, 2) := by decide +kernel
theorem d_Rep_build_169 : decode b_Rep_build 169 = .ok (.getfield 95, 3) := by decide +kernel
theorem d_Rep_build_172 : decode b_Rep_build 172 = .ok (.aload 4, 2) := by decide +kernel
theorem d_Rep_build_174 : decode b_Rep_build 174 = .ok (.getfield 102, 3) := by decide +kernel
theorem d_Rep_build_177 : decode b_Rep_build 177 = .ok (.invokevirtual 112, 3) := by decide +kernel
theorem d_Rep_build_180 : decode b_Rep_build 180 = .ok (.aload 4, 2) := by decide +kernel
theorem d_Rep_build_182 : decode b_Rep_build 182 = .ok (.getfield 84, 3) := by decide +kernel
theorem d_Rep_build_185 : decode b_Rep_build 185 = .ok (.lcmp, 1) := by decide +kernel
theorem d_Rep_build_186 : decode b_Rep_build 186 = .ok (.ifCond .ne 7, 3) := by decide +kernel
theorem d_Rep_build_189 : decode b_Rep_build 189 = .ok (.iconst 1, 1) := by decide +kernel
theorem d_Rep_build_190 : decode b_Rep_build 190 = .ok (.goto 4, 3) := by decide +kernel
theorem d_Rep_build_193 : decode b_Rep_build 193 = .ok (.iconst 0, 1) := by decide +kernel
theorem d_Rep_build_194 : decode b_Rep_build 194 = .ok (.ireturn, 1) := by decide +kernel
theorem d_Rep_canBeParent_0 : decode b_Rep_canBeParent 0 = .ok (.iload_n 1, 1) := by decide +kernel
theorem d_Rep_canBeParent_1 : decode b_Rep_canBeParent 1 = .ok (.iconst (-1), 1) := by decide +kernel
theorem d_Rep_canBeParent_2 : decode b_Rep_canBeParent 2 = .ok (.if_icmp .eq 11, 3) := by decide +kernel
theorem d_Rep_canBeParent_5 : decode b_Rep_canBeParent 5 = .ok (.aload_n 0, 1) := by decide +kernel
theorem d_Rep_canBeParent_6 : decode b_Rep_canBeParent 6 = .ok (.iload_n 1, 1) := by decide +kernel
theorem d_Rep_canBeParent_7 : decode b_Rep_canBeParent 7 = .ok (.invokevirtual 54, 3) := by decide +kernel
theorem d_Rep_canBeParent_10 : decode b_Rep_canBeParent 10 = .ok (.ifCond .eq 7, 3) := by decide +kernel
theorem d_Rep_canBeParent_13 : decode b_Rep_canBeParent 13 = .ok (.iconst 1, 1) := by decide +kernel
theorem d_Rep_canBeParent_14 : decode b_Rep_canBeParent 14 = .ok (.goto 4, 3) := by decide +kernel
theorem d_Rep_canBeParent_17 : decode b_Rep_canBeParent 17 = .ok (.iconst 0, 1) := by decide +kernel
theorem d_Rep_canBeParent_18 : decode b_Rep_canBeParent 18 = .ok (.ireturn, 1) := by decide +kernel
theorem d_Rep_chainFits_0 : decode b_Rep_chainFits 0 = .ok (.iconst 1, 1) := by decide +kernel
theorem d_Rep_chainFits_1 : decode b_Rep_chainFits 1 = .ok (.istore_n 3, 1) := by decide +kernel
theorem d_Rep_chainFits_2 : decode b_Rep_chainFits 2 = .ok (.aload_n 0, 1) := by decide +kernel
theorem d_Rep_chainFits_3 : decode b_Rep_chainFits 3 = .ok (.getfield 51, 3) := by decide +kernel
theorem d_Rep_chainFits_6 : decode b_Rep_chainFits 6 = .ok (.getfield 62, 3) := by decide +kernel
theorem d_Rep_chainFits_9 : decode b_Rep_chainFits 9 = .ok (.istore 4, 2) := by decide +kernel
theorem d_Rep_chainFits_11 : decode b_Rep_chainFits 11 = .ok (.iload_n 1, 1) := by decide +kernel
theorem d_Rep_chainFits_12 : decode b_Rep_chainFits 12 = .ok (.istore 5, 2) := by decide +kernel
theorem d_Rep_chainFits_14 : decode b_Rep_chainFits 14 = .ok (.iload 5, 2) := by decide +kernel
theorem d_Rep_chainFits_16 : decode b_Rep_chainFits 16 = .ok (.iconst (-1), 1) := by decide +kernel
theorem d_Rep_chainFits_17 : decode b_Rep_chainFits 17 = .ok (.if_icmp .eq 42, 3) := by decide +kernel
theorem d_Rep_chainFits_20 : decode b_Rep_chainFits 20 = .ok (.iload_n 3, 1) := by decide +kernel
theorem d_Rep_chainFits_21 : decode b_Rep_chainFits 21 = .ok (.bipush 6, 2) := by decide +kernel
theorem d_Rep_chainFits_23 : decode b_Rep_chainFits 23 = .ok (.if_icmp .ge 36, 3) := by decide +kernel
theorem d_Rep_chainFits_26 : decode b_Rep_chainFits 26 = .ok (.iinc 3 1, 3) := by decide +kernel
theorem d_Rep_chainFits_29 : decode b_Rep_chainFits 29 = .ok (.iload 4, 2) := by decide +kernel
theorem d_Rep_chainFits_31 : decode b_Rep_chainFits 31 = .ok (.aload_n 0, 1) := by decide +kernel
theorem d_Rep_chainFits_32 : decode b_Rep_chainFits 32 = .ok (.getfield 22, 3) := by decide +kernel
theorem d_Rep_chainFits_35 : decode b_Rep_chainFits 35 = .ok (.iload 5, 2) := by decide +kernel
theorem d_Rep_chainFits_37 : decode b_Rep_chainFits 37 = .ok (.aaload, 1) := by decide +kernel
theorem d_Rep_chainFits_38 : decode b_Rep_chainFits 38 = .ok (.getfield 183, 3) := by decide +kernel
theorem d_Rep_chainFits_41 : decode b_Rep_chainFits 41 = .ok (.iadd, 1) := by decide +kernel
theorem d_Rep_chainFits_42 : decode b_Rep_chainFits 42 = .ok (.istore 4, 2) := by decide +kernel
theorem d_Rep_chainFits_44 : decode b_Rep_chainFits 44 = .ok (.aload_n 0, 1) := by decide +kernel
theorem d_Rep_chainFits_45 : decode b_Rep_chainFits 45 = .ok (.getfield 22, 3) := by decide +kernel
theorem d_Rep_chainFits_48 : decode b_Rep_chainFits 48 = .ok (.iload 5, 2) := by decide +kernel
theorem d_Rep_chainFits_50 : decode b_Rep_chainFits 50 = .ok (.aaload, 1) := by decide +kernel
theorem d_Rep_chainFits_51 : decode b_Rep_chainFits 51 = .ok (.getfield 186, 3) := by decide +kernel
theorem d_Rep_chainFits_54 : decode b_Rep_chainFits 54 = .ok (.istore 5, 2) := by decide +kernel
theorem d_Rep_chainFits_56 : decode b_Rep_chainFits 56 = .ok (.goto (-42), 3) := by decide +kernel
theorem d_Rep_chainFits_59 : decode b_Rep_chainFits 59 = .ok (.iload 5, 2) := by decide +kernel
theorem d_Rep_chainFits_61 : decode b_Rep_chainFits 61 = .ok (.iconst (-1), 1) := by decide +kernel
theorem d_Rep_chainFits_62 : decode b_Rep_chainFits 62 = .ok (.if_icmp .ne 18, 3) := by decide +kernel
theorem d_Rep_chainFits_65 : decode b_Rep_chainFits 65 = .ok (.iload 4, 2) := by decide +kernel
theorem d_Rep_chainFits_67 : decode b_Rep_chainFits 67 = .ok (.iconst 2, 1) := by decide +kernel
theorem d_Rep_chainFits_68 : decode b_Rep_chainFits 68 = .ok (.iload_n 2, 1) := by decide +kernel
theorem d_Rep_chainFits_69 : decode b_Rep_chainFits 69 = .ok (.imul, 1) := by decide +kernel
theorem d_Rep_chainFits_70 : decode b_Rep_chainFits 70 = .ok (.bipush 16, 2) := by decide +kernel
theorem d_Rep_chainFits_72 : decode b_Rep_chainFits 72 = .ok (.iadd, 1) := by decide +kernel
theorem d_Rep_chainFits_73 : decode b_Rep_chainFits 73 = .ok (.if_icmp .gt 7, 3) := by decide +kernel
theorem d_Rep_chainFits_76 : decode b_Rep_chainFits 76 = .ok (.iconst 1, 1) := by decide +kernel
theorem d_Rep_chainFits_77 : decode b_Rep_chainFits 77 = .ok (.goto 4, 3) := by decide +kernel
theorem d_Rep_chainFits_80 : decode b_Rep_chainFits 80 = .ok (.iconst 0, 1) := by decide +kernel
theorem d_Rep_chainFits_81 : decode b_Rep_chainFits 81 = .ok (.ireturn, 1) := by decide +kernel
theorem d_Rep_chooseChunk_0 : decode b_Rep_chooseChunk 0 = .ok (.aload_n 1, 1) := by decide +kernel
theorem d_Rep_chooseChunk_1 : decode b_Rep_chooseChunk 1 = .ok (.aload_n 0, 1) := by decide +kernel
theorem d_Rep_chooseChunk_2 : decode b_Rep_chooseChunk 2 = .ok (.getfield 48, 3) := by decide +kernel
theorem d_Rep_chooseChunk_5 : decode b_Rep_chooseChunk 5 = .ok (.invokestatic 162, 3) := by decide +kernel
theorem d_Rep_chooseChunk_8 : decode b_Rep_chooseChunk 8 = .ok (.aload_n 1, 1) := by decide +kernel
theorem d_Rep_chooseChunk_9 : decode b_Rep_chooseChunk 9 = .ok (.aload_n 0, 1) := by decide +kernel
theorem d_Rep_chooseChunk_10 : decode b_Rep_chooseChunk 10 = .ok (.getfield 51, 3) := by decide +kernel
theorem d_Rep_chooseChunk_13 : decode b_Rep_chooseChunk 13 = .ok (.invokestatic 168, 3) := by decide +kernel
theorem d_Rep_chooseChunk_16 : decode b_Rep_chooseChunk 16 = .ok (.aload_n 0, 1) := by decide +kernel
theorem d_Rep_chooseChunk_17 : decode b_Rep_chooseChunk 17 = .ok (.getfield 51, 3) := by decide +kernel
theorem d_Rep_chooseChunk_20 : decode b_Rep_chooseChunk 20 = .ok (.getfield 62, 3) := by decide +kernel
theorem d_Rep_chooseChunk_23 : decode b_Rep_chooseChunk 23 = .ok (.aload_n 0, 1) := by decide +kernel
theorem d_Rep_chooseChunk_24 : decode b_Rep_chooseChunk 24 = .ok (.getfield 48, 3) := by decide +kernel
theorem d_Rep_chooseChunk_27 : decode b_Rep_chooseChunk 27 = .ok (.getfield 62, 3) := by decide +kernel
theorem d_Rep_chooseChunk_30 : decode b_Rep_chooseChunk 30 = .ok (.if_icmp .ge 14, 3) := by decide +kernel
theorem d_Rep_chooseChunk_33 : decode b_Rep_chooseChunk 33 = .ok (.aload_n 0, 1) := by decide +kernel
theorem d_Rep_chooseChunk_34 : decode b_Rep_chooseChunk 34 = .ok (.getfield 48, 3) := by decide +kernel
theorem d_Rep_chooseChunk_37 : decode b_Rep_chooseChunk 37 = .ok (.aload_n 0, 1) := by decide +kernel
theorem d_Rep_chooseChunk_38 : decode b_Rep_chooseChunk 38 = .ok (.getfield 51, 3) := by decide +kernel
theorem d_Rep_chooseChunk_41 : decode b_Rep_chooseChunk 41 = .ok (.invokevirtual 171, 3) := by decide +kernel
theorem d_Rep_chooseChunk_44 : decode b_Rep_chooseChunk 44 = .ok (.iconst (-1), 1) := by decide +kernel
theorem d_Rep_chooseChunk_45 : decode b_Rep_chooseChunk 45 = .ok (.istore 4, 2) := by decide +kernel
theorem d_Rep_chooseChunk_47 : decode b_Rep_chooseChunk 47 = .ok (.iconst 0, 1) := by decide +kernel
theorem d_Rep_chooseChunk_48 : decode b_Rep_chooseChunk 48 = .ok (.istore 5, 2) := by decide +kernel
theorem d_Rep_chooseChunk_50 : decode b_Rep_chooseChunk 50 = .ok (.iload 5, 2) := by decide +kernel
theorem d_Rep_chooseChunk_52 : decode b_Rep_chooseChunk 52 = .ok (.iconst 3, 1) := by decide +kernel
theorem d_Rep_chooseChunk_53 : decode b_Rep_chooseChunk 53 = .ok (.if_icmp .ge 108, 3) := by decide +kernel
theorem d_Rep_chooseChunk_56 : decode b_Rep_chooseChunk 56 = .ok (.iload 5, 2) := by decide +kernel
theorem d_Rep_chooseChunk_58 : decode b_Rep_chooseChunk 58 = .ok (.ifCond .ne 7, 3) := by decide +kernel
theorem d_Rep_chooseChunk_61 : decode b_Rep_chooseChunk 61 = .ok (.iload_n 2, 1) := by decide +kernel
theorem d_Rep_chooseChunk_62 : decode b_Rep_chooseChunk 62 = .ok (.goto 19, 3) := by decide +kernel
theorem d_Rep_chooseChunk_65 : decode b_Rep_chooseChunk 65 = .ok (.iload 5, 2) := by decide +kernel
theorem d_Rep_chooseChunk_67 : decode b_Rep_chooseChunk 67 = .ok (.iconst 1, 1) := by decide +kernel
theorem d_Rep_chooseChunk_68 : decode b_Rep_chooseChunk 68 = .ok (.if_icmp .ne 7, 3) := by decide +kernel
theorem d_Rep_chooseChunk_71 : decode b_Rep_chooseChunk 71 = .ok (.iload_n 3, 1) := by decide +kernel
theorem d_Rep_chooseChunk_72 : decode b_Rep_chooseChunk 72 = .ok (.goto 9, 3) := by decide +kernel
theorem d_Rep_chooseChunk_75 : decode b_Rep_chooseChunk 75 = .ok (.aload_n 0, 1) := by decide +kernel
theorem d_Rep_chooseChunk_76 : decode b_Rep_chooseChunk 76 = .ok (.getfield 27, 3) := by decide +kernel
theorem d_Rep_chooseChunk_79 : decode b_Rep_chooseChunk 79 = .ok (.iconst 1, 1) := by decide +kernel
theorem d_Rep_chooseChunk_80 : decode b_Rep_chooseChunk 80 = .ok (.isub, 1) := by decide +kernel
theorem d_Rep_chooseChunk_81 : decode b_Rep_chooseChunk 81 = .ok (.istore 6, 2) := by decide +kernel
theorem d_Rep_chooseChunk_83 : decode b_Rep_chooseChunk 83 = .ok (.iload 6, 2) := by decide +kernel
theorem d_Rep_chooseChunk_85 : decode b_Rep_chooseChunk 85 = .ok (.iconst (-1), 1) := by decide +kernel
theorem d_Rep_chooseChunk_86 : decode b_Rep_chooseChunk 86 = .ok (.if_icmp .eq 69, 3) := by decide +kernel
theorem d_Rep_chooseChunk_89 : decode b_Rep_chooseChunk 89 = .ok (.aload_n 0, 1) := by decide +kernel
theorem d_Rep_chooseChunk_90 : decode b_Rep_chooseChunk 90 = .ok (.iload 6, 2) := by decide +kernel
theorem d_Rep_chooseChunk_92 : decode b_Rep_chooseChunk 92 = .ok (.invokevirtual 92, 3) := by decide +kernel
theorem d_Rep_chooseChunk_95 : decode b_Rep_chooseChunk 95 = .ok (.ifCond .eq 60, 3) := by decide +kernel
theorem d_Rep_chooseChunk_98 : decode b_Rep_chooseChunk 98 = .ok (.aload_n 0, 1) := by decide +kernel
theorem d_Rep_chooseChunk_99 : decode b_Rep_chooseChunk 99 = .ok (.getfield 41, 3) := by decide +kernel
theorem d_Rep_chooseChunk_102 : decode b_Rep_chooseChunk 102 = .ok (.aload_n 1, 1) := by decide +kernel
theorem d_Rep_chooseChunk_103 : decode b_Rep_chooseChunk 103 = .ok (.aload_n 0, 1) := by decide +kernel
theorem d_Rep_chooseChunk_104 : decode b_Rep_chooseChunk 104 = .ok (.getfield 51, 3) := by decide +kernel
theorem d_Rep_chooseChunk_107 : decode b_Rep_chooseChunk 107 = .ok (.invokestatic 175, 3) := by decide +kernel
theorem d_Rep_chooseChunk_110 : decode b_Rep_chooseChunk 110 = .ok (.aload_n 0, 1) := by decide +kernel
theorem d_Rep_chooseChunk_111 : decode b_Rep_chooseChunk 111 = .ok (.getfield 51, 3) := by decide +kernel
theorem d_Rep_chooseChunk_114 : decode b_Rep_chooseChunk 114 = .ok (.getfield 62, 3) := by decide +kernel
theorem d_Rep_chooseChunk_117 : decode b_Rep_chooseChunk 117 = .ok (.aload_n 0, 1) := by decide +kernel
theorem d_Rep_chooseChunk_118 : decode b_Rep_chooseChunk 118 = .ok (.getfield 48, 3) := by decide +kernel
theorem d_Rep_chooseChunk_121 : decode b_Rep_chooseChunk 121 = .ok (.getfield 62, 3) := by decide +kernel
theorem d_Rep_chooseChunk_124 : decode b_Rep_chooseChunk 124 = .ok (.if_icmp .ge 31, 3) := by decide +kernel
theorem d_Rep_chooseChunk_127 : decode b_Rep_chooseChunk 127 = .ok (.aload_n 0, 1) := by decide +kernel
theorem d_Rep_chooseChunk_128 : decode b_Rep_chooseChunk 128 = .ok (.iload 6, 2) := by decide +kernel
theorem d_Rep_chooseChunk_130 : decode b_Rep_chooseChunk 130 = .ok (.aload_n 1, 1) := by decide +kernel
theorem d_Rep_chooseChunk_131 : decode b_Rep_chooseChunk 131 = .ok (.getfield 62, 3) := by decide +kernel
theorem d_Rep_chooseChunk_134 : decode b_Rep_chooseChunk 134 = .ok (.invokevirtual 179, 3) := by decide +kernel
theorem d_Rep_chooseChunk_137 : decode b_Rep_chooseChunk 137 = .ok (.ifCond .eq 18, 3) := by decide +kernel
theorem d_Rep_chooseChunk_140 : decode b_Rep_chooseChunk 140 = .ok (.aload_n 0, 1) := by decide +kernel
theorem d_Rep_chooseChunk_141 : decode b_Rep_chooseChunk 141 = .ok (.getfield 48, 3) := by decide +kernel
theorem d_Rep_chooseChunk_144 : decode b_Rep_chooseChunk 144 = .ok (.aload_n 0, 1) := by decide +kernel
theorem d_Rep_chooseChunk_145 : decode b_Rep_chooseChunk 145 = .ok (.getfield 51, 3) := by decide +kernel
theorem d_Rep_chooseChunk_148 : decode b_Rep_chooseChunk 148 = .ok (.invokevirtual 171, 3) := by decide +kernel
theorem d_Rep_chooseChunk_151 : decode b_Rep_chooseChunk 151 = .ok (.iload 6, 2) := by decide +kernel
theorem d_Rep_chooseChunk_153 : decode b_Rep_chooseChunk 153 = .ok (.istore 4, 2) := by decide +kernel
theorem d_Rep_chooseChunk_155 : decode b_Rep_chooseChunk 155 = .ok (.iinc 5 1, 3) := by decide +kernel
theorem d_Rep_chooseChunk_158 : decode b_Rep_chooseChunk 158 = .ok (.goto (-108), 3) := by decide +kernel
theorem d_Rep_chooseChunk_161 : decode b_Rep_chooseChunk 161 = .ok (.iload 4, 2) := by decide +kernel
theorem d_Rep_chooseChunk_163 : decode b_Rep_chooseChunk 163 = .ok (.ireturn, 1) := by decide +kernel
theorem d_Rep_comeUp_0 : decode b_Rep_comeUp 0 = .ok (.aload_n 0, 1) := by decide +kernel
theorem d_Rep_comeUp_1 : decode b_Rep_comeUp 1 = .ok (.iconst 0, 1) := by decide +kernel
theorem d_Rep_comeUp_2 : decode b_Rep_comeUp 2 = .ok (.putfield 35, 3) := by decide +kernel
theorem d_Rep_comeUp_5 : decode b_Rep_comeUp 5 = .ok (.aload_n 0, 1) := by decide +kernel
theorem d_Rep_comeUp_6 : decode b_Rep_comeUp 6 = .ok (.getfield 31, 3) := by decide +kernel
theorem d_Rep_comeUp_9 : decode b_Rep_comeUp 9 = .ok (.ifCond .ne 5, 3) := by decide +kernel
theorem d_Rep_comeUp_12 : decode b_Rep_comeUp 12 = .ok (.iconst 0, 1) := by decide +kernel
theorem d_Rep_comeUp_13 : decode b_Rep_comeUp 13 = .ok (.ireturn, 1) := by decide +kernel
theorem d_Rep_comeUp_14 : decode b_Rep_comeUp 14 = .ok (.aload_n 0, 1) := by decide +kernel
theorem d_Rep_comeUp_15 : decode b_Rep_comeUp 15 = .ok (.iload_n 1, 1) := by decide +kernel
theorem d_Rep_comeUp_16 : decode b_Rep_comeUp 16 = .ok (.putfield 38, 3) := by decide +kernel
theorem d_Rep_comeUp_19 : decode b_Rep_comeUp 19 = .ok (.aload_n 0, 1) := by decide +kernel
theorem d_Rep_comeUp_20 : decode b_Rep_comeUp 20 = .ok (.invokevirtual 77, 3) := by decide +kernel
theorem d_Rep_comeUp_23 : decode b_Rep_comeUp 23 = .ok (.ireturn, 1) := by decide +kernel
theorem d_Rep_countHeads_0 : decode b_Rep_countHeads 0 = .ok (.iconst 0, 1) := by decide +kernel
theorem d_Rep_countHeads_1 : decode b_Rep_countHeads 1 = .ok (.istore_n 1, 1) := by decide +kernel
theorem d_Rep_countHeads_2 : decode b_Rep_countHeads 2 = .ok (.iconst 0, 1) := by decide +kernel
theorem d_Rep_countHeads_3 : decode b_Rep_countHeads 3 = .ok (.istore_n 2, 1) := by decide +kernel
theorem d_Rep_countHeads_4 : decode b_Rep_countHeads 4 = .ok (.iload_n 2, 1) := by decide +kernel
theorem d_Rep_countHeads_5 : decode b_Rep_countHeads 5 = .ok (.aload_n 0, 1) := by decide +kernel
theorem d_Rep_countHeads_6 : decode b_Rep_countHeads 6 = .ok (.getfield 27, 3) := by decide +kernel
theorem d_Rep_countHeads_9 : decode b_Rep_countHeads 9 = .ok (.if_icmp .ge 17, 3) := by decide +kernel
theorem d_Rep_countHeads_12 : decode b_Rep_countHeads 12 = .ok (.iload_n 1, 1) := by decide +kernel
theorem d_Rep_countHeads_13 : decode b_Rep_countHeads 13 = .ok (.aload_n 0, 1) := by decide +kernel
theorem d_Rep_countHeads_14 : decode b_Rep_countHeads 14 = .ok (.iload_n 2, 1) := by decide +kernel
theorem d_Rep_countHeads_15 : decode b_Rep_countHeads 15 = .ok (.invokevirtual 200, 3) := by decide +kernel
theorem d_Rep_countHeads_18 : decode b_Rep_countHeads 18 = .ok (.ior, 1) := by decide +kernel
theorem d_Rep_countHeads_19 : decode b_Rep_countHeads 19 = .ok (.istore_n 1, 1) := by decide +kernel
theorem d_Rep_countHeads_20 : decode b_Rep_countHeads 20 = .ok (.iinc 2 1, 3) := by decide +kernel
theorem d_Rep_countHeads_23 : decode b_Rep_countHeads 23 = .ok (.goto (-19), 3) := by decide +kernel
theorem d_Rep_countHeads_26 : decode b_Rep_countHeads 26 = .ok (.aload_n 0, 1) := by decide +kernel
theorem d_Rep_countHeads_27 : decode b_Rep_countHeads 27 = .ok (.getfield 27, 3) := by decide +kernel
theorem d_Rep_countHeads_30 : decode b_Rep_countHeads 30 = .ok (.iload_n 1, 1) := by decide +kernel
theorem d_Rep_countHeads_31 : decode b_Rep_countHeads 31 = .ok (.invokestatic 203, 3) := by decide +kernel
theorem d_Rep_countHeads_34 : decode b_Rep_countHeads 34 = .ok (.isub, 1) := by decide +kernel
theorem d_Rep_countHeads_35 : decode b_Rep_countHeads 35 = .ok (.ireturn, 1) := by decide +kernel
theorem d_Rep_countWrong_0 : decode b_Rep_countWrong 0 = .ok (.iconst 0, 1) := by decide +kernel
theorem d_Rep_countWrong_1 : decode b_Rep_countWrong 1 = .ok (.istore_n 1, 1) := by decide +kernel
theorem d_Rep_countWrong_2 : decode b_Rep_countWrong 2 = .ok (.iconst 0, 1) := by decide +kernel
theorem d_Rep_countWrong_3 : decode b_Rep_countWrong 3 = .ok (.istore_n 2, 1) := by decide +kernel
theorem d_Rep_countWrong_4 : decode b_Rep_countWrong 4 = .ok (.iload_n 2, 1) := by decide +kernel
theorem d_Rep_countWrong_5 : decode b_Rep_countWrong 5 = .ok (.aload_n 0, 1) := by decide +kernel
theorem d_Rep_countWrong_6 : decode b_Rep_countWrong 6 = .ok (.getfield 27, 3) := by decide +kernel
theorem d_Rep_countWrong_9 : decode b_Rep_countWrong 9 = .ok (.if_icmp .ge 20, 3) := by decide +kernel
theorem d_Rep_countWrong_12 : decode b_Rep_countWrong 12 = .ok (.aload_n 0, 1) := by decide +kernel
theorem d_Rep_countWrong_13 : decode b_Rep_countWrong 13 = .ok (.iload_n 2, 1) := by decide +kernel
theorem d_Rep_countWrong_14 : decode b_Rep_countWrong 14 = .ok (.invokevirtual 92, 3) := by decide +kernel
theorem d_Rep_countWrong_17 : decode b_Rep_countWrong 17 = .ok (.ifCond .ne 6, 3) := by decide +kernel
theorem d_Rep_countWrong_20 : decode b_Rep_countWrong 20 = .ok (.iinc 1 1, 3) := by decide +kernel
theorem d_Rep_countWrong_23 : decode b_Rep_countWrong 23 = .ok (.iinc 2 1, 3) := by decide +kernel
theorem d_Rep_countWrong_26 : decode b_Rep_countWrong 26 = .ok (.goto (-22), 3) := by decide +kernel
theorem d_Rep_countWrong_29 : decode b_Rep_countWrong 29 = .ok (.iload_n 1, 1) := by decide +kernel
theorem d_Rep_countWrong_30 : decode b_Rep_countWrong 30 = .ok (.ireturn, 1) := by decide +kernel
theorem d_Rep_find_0 : decode b_Rep_find 0 = .ok (.iconst 0, 1) := by decide +kernel
theorem d_Rep_find_1 : decode b_Rep_find 1 = .ok (.istore_n 3, 1) := by decide +kernel
theorem d_Rep_find_2 : decode b_Rep_find 2 = .ok (.iload_n 3, 1) := by decide +kernel
theorem d_Rep_find_3 : decode b_Rep_find 3 = .ok (.aload_n 0, 1) := by decide +kernel
theorem d_Rep_find_4 : decode b_Rep_find 4 = .ok (.getfield 27, 3) := by decide +kernel
theorem d_Rep_find_7 : decode b_Rep_find 7 = .ok (.if_icmp .ge 25, 3) := by decide +kernel
theorem d_Rep_find_10 : decode b_Rep_find 10 = .ok (.aload_n 0, 1) := by decide +kernel
theorem d_Rep_find_11 : decode b_Rep_find 11 = .ok (.getfield 22, 3) := by decide +kernel
theorem d_Rep_find_14 : decode b_Rep_find 14 = .ok (.iload_n 3, 1) := by decide +kernel
theorem d_Rep_find_15 : decode b_Rep_find 15 = .ok (.aaload, 1) := by decide +kernel
theorem d_Rep_find_16 : decode b_Rep_find 16 = .ok (.getfield 84, 3) := by decide +kernel
theorem d_Rep_find_19 : decode b_Rep_find 19 = .ok (.lload_n 1, 1) := by decide +kernel
theorem d_Rep_find_20 : decode b_Rep_find 20 = .ok (.lcmp, 1) := by decide +kernel
theorem d_Rep_find_21 : decode b_Rep_find 21 = .ok (.ifCond .ne 5, 3) := by decide +kernel
theorem d_Rep_find_24 : decode b_Rep_find 24 = .ok (.iload_n 3, 1) := by decide +kernel
theorem d_Rep_find_25 : decode b_Rep_find 25 = .ok (.ireturn, 1) := by decide +kernel
theorem d_Rep_find_26 : decode b_Rep_find 26 = .ok (.iinc 3 1, 3) := by decide +kernel
theorem d_Rep_find_29 : decode b_Rep_find 29 = .ok (.goto (-27), 3) := by decide +kernel
theorem d_Rep_find_32 : decode b_Rep_find 32 = .ok (.iconst (-1), 1) := by decide +kernel
theorem d_Rep_find_33 : decode b_Rep_find 33 = .ok (.ireturn, 1) := by decide +kernel
theorem d_Rep_greatestCommonAncestor_0 : decode b_Rep_greatestCommonAncestor 0 = .ok (.aload_n 0, 1) := by decide +kernel
theorem d_Rep_greatestCommonAncestor_1 : decode b_Rep_greatestCommonAncestor 1 = .ok (.iload_n 1, 1) := by decide +kernel
theorem d_Rep_greatestCommonAncestor_2 : decode b_Rep_greatestCommonAncestor 2 = .ok (.invokevirtual 208, 3) := by decide +kernel
theorem d_Rep_greatestCommonAncestor_5 : decode b_Rep_greatestCommonAncestor 5 = .ok (.aload_n 0, 1) := by decide +kernel
theorem d_Rep_greatestCommonAncestor_6 : decode b_Rep_greatestCommonAncestor 6 = .ok (.iload_n 2, 1) := by decide +kernel
theorem d_Rep_greatestCommonAncestor_7 : decode b_Rep_greatestCommonAncestor 7 = .ok (.invokevirtual 208, 3) := by decide +kernel
theorem d_Rep_greatestCommonAncestor_10 : decode b_Rep_greatestCommonAncestor 10 = .ok (.iand, 1) := by decide +kernel
theorem d_Rep_greatestCommonAncestor_11 : decode b_Rep_greatestCommonAncestor 11 = .ok (.istore_n 3, 1) := by decide +kernel
theorem d_Rep_greatestCommonAncestor_12 : decode b_Rep_greatestCommonAncestor 12 = .ok (.iload_n 1, 1) := by decide +kernel
theorem d_Rep_greatestCommonAncestor_13 : decode b_Rep_greatestCommonAncestor 13 = .ok (.iload_n 2, 1) := by decide +kernel
theorem d_Rep_greatestCommonAncestor_14 : decode b_Rep_greatestCommonAncestor 14 = .ok (.invokestatic 211, 3) := by decide +kernel
theorem d_Rep_greatestCommonAncestor_17 : decode b_Rep_greatestCommonAncestor 17 = .ok (.istore 4, 2) := by decide +kernel
theorem d_Rep_greatestCommonAncestor_19 : decode b_Rep_greatestCommonAncestor 19 = .ok (.iload 4, 2) := by decide +kernel
theorem d_Rep_greatestCommonAncestor_21 : decode b_Rep_greatestCommonAncestor 21 = .ok (.ifCond .lt 21, 3) := by decide +kernel
theorem d_Rep_greatestCommonAncestor_24 : decode b_Rep_greatestCommonAncestor 24 = .ok (.iload_n 3, 1) := by decide +kernel
theorem d_Rep_greatestCommonAncestor_25 : decode b_Rep_greatestCommonAncestor 25 = .ok (.iload 4, 2) := by decide +kernel
theorem d_Rep_greatestCommonAncestor_27 : decode b_Rep_greatestCommonAncestor 27 = .ok (.ishr, 1) := by decide +kernel
theorem d_Rep_greatestCommonAncestor_28 : decode b_Rep_greatestCommonAncestor 28 = .ok (.iconst 1, 1) := by decide +kernel
theorem d_Rep_greatestCommonAncestor_29 : decode b_Rep_greatestCommonAncestor 29 = .ok (.iand, 1) := by decide +kernel
theorem d_Rep_greatestCommonAncestor_30 : decode b_Rep_greatestCommonAncestor 30 = .ok (.ifCond .eq 6, 3) := by decide +kernel
theorem d_Rep_greatestCommonAncestor_33 : decode b_Rep_greatestCommonAncestor 33 = .ok (.iload 4, 2) := by decide +kernel
theorem d_Rep_greatestCommonAncestor_35 : decode b_Rep_greatestCommonAncestor 35 = .ok (.ireturn, 1) := by decide +kernel
theorem d_Rep_greatestCommonAncestor_36 : decode b_Rep_greatestCommonAncestor 36 = .ok (.iinc 4 (-1), 3) := by decide +kernel
theorem d_Rep_greatestCommonAncestor_39 : decode b_Rep_greatestCommonAncestor 39 = .ok (.goto (-20), 3) := by decide +kernel
theorem d_Rep_greatestCommonAncestor_42 : decode b_Rep_greatestCommonAncestor 42 = .ok (.iconst (-1), 1) := by decide +kernel
theorem d_Rep_greatestCommonAncestor_43 : decode b_Rep_greatestCommonAncestor 43 = .ok (.ireturn, 1) := by decide +kernel
theorem d_Rep_hasRevision_0 : decode b_Rep_hasRevision 0 = .ok (.iload_n 1, 1) := by decide +kernel
theorem d_Rep_hasRevision_1 : decode b_Rep_hasRevision 1 = .ok (.ifCond .lt 15, 3) := by decide +kernel
theorem d_Rep_hasRevision_4 : decode b_Rep_hasRevision 4 = .ok (.iload_n 1, 1) := by decide +kernel
theorem d_Rep_hasRevision_5 : decode b_Rep_hasRevision 5 = .ok (.aload_n 0, 1) := by decide +kernel
theorem d_Rep_hasRevision_6 : decode b_Rep_hasRevision 6 = .ok (.getfield 27, 3) := by decide +kernel
theorem d_Rep_hasRevision_9 : decode b_Rep_hasRevision 9 = .ok (.if_icmp .ge 7, 3) := by decide +kernel
theorem d_Rep_hasRevision_12 : decode b_Rep_hasRevision 12 = .ok (.iconst 1, 1) := by decide +kernel
theorem d_Rep_hasRevision_13 : decode b_Rep_hasRevision 13 = .ok (.goto 4, 3) := by decide +kernel
theorem d_Rep_hasRevision_16 : decode b_Rep_hasRevision 16 = .ok (.iconst 0, 1) := by decide +kernel
theorem d_Rep_hasRevision_17 : decode b_Rep_hasRevision 17 = .ok (.ireturn, 1) := by decide +kernel
theorem d_Rep_init_0 : decode b_Rep_init 0 = .ok (.aload_n 0, 1) := by decide +kernel
theorem d_Rep_init_1 : decode b_Rep_init 1 = .ok (.invokespecial 3, 3) := by decide +kernel
theorem d_Rep_init_4 : decode b_Rep_init 4 = .ok (.aload_n 0, 1) := by decide +kernel
theorem d_Rep_init_5 : decode b_Rep_init 5 = .ok (.new 9, 3) := by decide +kernel
theorem d_Rep_init_8 : decode b_Rep_init 8 = .ok (.dup, 1) := by decide +kernel
theorem d_Rep_init_9 : decode b_Rep_init 9 = .ok (.sipush 600, 3) := by decide +kernel
theorem d_Rep_init_12 : decode b_Rep_init 12 = .ok (.invokespecial 11, 3) := by decide +kernel
theorem d_Rep_init_15 : decode b_Rep_init 15 = .ok (.putfield 14, 3) := by decide +kernel
theorem d_Rep_init_18 : decode b_Rep_init 18 = .ok (.aload_n 0, 1) := by decide +kernel
theorem d_Rep_init_19 : decode b_Rep_init 19 = .ok (.bipush 24, 2) := by decide +kernel
theorem d_Rep_init_21 : decode b_Rep_init 21 = .ok (.anewarray 20, 3) := by decide +kernel
theorem d_Rep_init_24 : decode b_Rep_init 24 = .ok (.putfield 22, 3) := by decide +kernel
theorem d_Rep_init_27 : decode b_Rep_init 27 = .ok (.iconst 0, 1) := by decide +kernel
theorem d_Rep_init_28 : decode b_Rep_init 28 = .ok (.istore_n 1, 1) := by decide +kernel
theorem d_Rep_init_29 : decode b_Rep_init 29 = .ok (.iload_n 1, 1) := by decide +kernel
theorem d_Rep_init_30 : decode b_Rep_init 30 = .ok (.bipush 24, 2) := by decide +kernel
theorem d_Rep_init_32 : decode b_Rep_init 32 = .ok (.if_icmp .ge 22, 3) := by decide +kernel
theorem d_Rep_init_35 : decode b_Rep_init 35 = .ok (.aload_n 0, 1) := by decide +kernel
theorem d_Rep_init_36 : decode b_Rep_init 36 = .ok (.getfield 22, 3) := by decide +kernel
theorem d_Rep_init_39 : decode b_Rep_init 39 = .ok (.iload_n 1, 1) := by decide +kernel
theorem d_Rep_init_40 : decode b_Rep_init 40 = .ok (.new 20, 3) := by decide +kernel
theorem d_Rep_init_43 : decode b_Rep_init 43 = .ok (.dup, 1) := by decide +kernel
theorem d_Rep_init_44 : decode b_Rep_init 44 = .ok (.invokespecial 26, 3) := by decide +kernel
theorem d_Rep_init_47 : decode b_Rep_init 47 = .ok (.aastore, 1) := by decide +kernel
theorem d_Rep_init_48 : decode b_Rep_init 48 = .ok (.iinc 1 1, 3) := by decide +kernel
theorem d_Rep_init_51 : decode b_Rep_init 51 = .ok (.goto (-22), 3) := by decide +kernel
theorem d_Rep_init_54 : decode b_Rep_init 54 = .ok (.aload_n 0, 1) := by decide +kernel
theorem d_Rep_init_55 : decode b_Rep_init 55 = .ok (.iconst 0, 1) := by decide +kernel
theorem d_Rep_init_56 : decode b_Rep_init 56 = .ok (.putfield 27, 3) := by decide +kernel
theorem d_Rep_init_59 : decode b_Rep_init 59 = .ok (.aload_n 0, 1) := by decide +kernel
theorem d_Rep_init_60 : decode b_Rep_init 60 = .ok (.iconst 0, 1) := by decide +kernel
theorem d_Rep_init_61 : decode b_Rep_init 61 = .ok (.putfield 31, 3) := by decide +kernel
theorem d_Rep_init_64 : decode b_Rep_init 64 = .ok (.aload_n 0, 1) := by decide +kernel
theorem d_Rep_init_65 : decode b_Rep_init 65 = .ok (.iconst 0, 1) := by decide +kernel
theorem d_Rep_init_66 : decode b_Rep_init 66 = .ok (.putfield 35, 3) := by decide +kernel
theorem d_Rep_init_69 : decode b_Rep_init 69 = .ok (.aload_n 0, 1) := by decide +kernel
theorem d_Rep_init_70 : decode b_Rep_init 70 = .ok (.iconst 0, 1) := by decide +kernel
theorem d_Rep_init_71 : decode b_Rep_init 71 = .ok (.putfield 38, 3) := by decide +kernel
theorem d_Rep_init_74 : decode b_Rep_init 74 = .ok (.aload_n 0, 1) := by decide +kernel
theorem d_Rep_init_75 : decode b_Rep_init 75 = .ok (.new 9, 3) := by decide +kernel
theorem d_Rep_init_78 : decode b_Rep_init 78 = .ok (.dup, 1) := by decide +kernel
theorem d_Rep_init_79 : decode b_Rep_init 79 = .ok (.bipush 60, 2) := by decide +kernel
theorem d_Rep_init_81 : decode b_Rep_init 81 = .ok (.invokespecial 11, 3) := by decide +kernel
theorem d_Rep_init_84 : decode b_Rep_init 84 = .ok (.putfield 41, 3) := by decide +kernel
theorem d_Rep_init_87 : decode b_Rep_init 87 = .ok (.aload_n 0, 1) := by decide +kernel
theorem d_Rep_init_88 : decode b_Rep_init 88 = .ok (.bipush 6, 2) := by decide +kernel
theorem d_Rep_init_90 : decode b_Rep_init 90 = .ok (.newarray .int, 2) := by decide +kernel
theorem d_Rep_init_92 : decode b_Rep_init 92 = .ok (.putfield 44, 3) := by decide +kernel
theorem d_Rep_init_95 : decode b_Rep_init 95 = .ok (.aload_n 0, 1) := by decide +kernel
theorem d_Rep_init_96 : decode b_Rep_init 96 = .ok (.new 9, 3) := by decide +kernel
theorem d_Rep_init_99 : decode b_Rep_init 99 = .ok (.dup, 1) := by decide +kernel
theorem d_Rep_init_100 : decode b_Rep_init 100 = .ok (.bipush 121, 2) := by decide +kernel
theorem d_Rep_init_102 : decode b_Rep_init 102 = .ok (.invokespecial 11, 3) := by decide +kernel
theorem d_Rep_init_105 : decode b_Rep_init 105 = .ok (.putfield 48, 3) := by decide +kernel
theorem d_Rep_init_108 : decode b_Rep_init 108 = .ok (.aload_n 0, 1) := by decide +kernel
theorem d_Rep_init_109 : decode b_Rep_init 109 = .ok (.new 9, 3) := by decide +kernel
theorem d_Rep_init_112 : decode b_Rep_init 112 = .ok (.dup, 1) := by decide +kernel
theorem d_Rep_init_113 : decode b_Rep_init 113 = .ok (.bipush 121, 2) := by decide +kernel
theorem d_Rep_init_115 : decode b_Rep_init 115 = .ok (.invokespecial 11, 3) := by decide +kernel
theorem d_Rep_init_118 : decode b_Rep_init 118 = .ok (.putfield 51, 3) := by decide +kernel
theorem d_Rep_init_121 : decode b_Rep_init 121 = .ok (.return_, 1) := by decide +kernel
theorem d_Rep_mayWrite_0 : decode b_Rep_mayWrite 0 = .ok (.aload_n 0, 1) := by decide +kernel
theorem d_Rep_mayWrite_1 : decode b_Rep_mayWrite 1 = .ok (.getfield 38, 3) := by decide +kernel
theorem d_Rep_mayWrite_4 : decode b_Rep_mayWrite 4 = .ok (.ifCond .le 29, 3) := by decide +kernel
theorem d_Rep_mayWrite_7 : decode b_Rep_mayWrite 7 = .ok (.aload_n 0, 1) := by decide +kernel
theorem d_Rep_mayWrite_8 : decode b_Rep_mayWrite 8 = .ok (.dup, 1) := by decide +kernel
theorem d_Rep_mayWrite_9 : decode b_Rep_mayWrite 9 = .ok (.getfield 38, 3) := by decide +kernel
theorem d_Rep_mayWrite_12 : decode b_Rep_mayWrite 12 = .ok (.iconst 1, 1) := by decide +kernel
theorem d_Rep_mayWrite_13 : decode b_Rep_mayWrite 13 = .ok (.isub, 1) := by decide +kernel
theorem d_Rep_mayWrite_14 : decode b_Rep_mayWrite 14 = .ok (.putfield 38, 3) := by decide +kernel
theorem d_Rep_mayWrite_17 : decode b_Rep_mayWrite 17 = .ok (.aload_n 0, 1) := by decide +kernel
theorem d_Rep_mayWrite_18 : decode b_Rep_mayWrite 18 = .ok (.aload_n 0, 1) := by decide +kernel
theorem d_Rep_mayWrite_19 : decode b_Rep_mayWrite 19 = .ok (.getfield 38, 3) := by decide +kernel
theorem d_Rep_mayWrite_22 : decode b_Rep_mayWrite 22 = .ok (.ifCond .ne 7, 3) := by decide +kernel
theorem d_Rep_mayWrite_25 : decode b_Rep_mayWrite 25 = .ok (.iconst 1, 1) := by decide +kernel
theorem d_Rep_mayWrite_26 : decode b_Rep_mayWrite 26 = .ok (.goto 4, 3) := by decide +kernel
theorem d_Rep_mayWrite_29 : decode b_Rep_mayWrite 29 = .ok (.iconst 0, 1) := by decide +kernel
theorem d_Rep_mayWrite_30 : decode b_Rep_mayWrite 30 = .ok (.putfield 35, 3) := by decide +kernel
theorem d_Rep_mayWrite_33 : decode b_Rep_mayWrite 33 = .ok (.aload_n 0, 1) := by decide +kernel
theorem d_Rep_mayWrite_34 : decode b_Rep_mayWrite 34 = .ok (.getfield 35, 3) := by decide +kernel
theorem d_Rep_mayWrite_37 : decode b_Rep_mayWrite 37 = .ok (.ifCond .ne 7, 3) := by decide +kernel
theorem d_Rep_mayWrite_40 : decode b_Rep_mayWrite 40 = .ok (.iconst 1, 1) := by decide +kernel
theorem d_Rep_mayWrite_41 : decode b_Rep_mayWrite 41 = .ok (.goto 4, 3) := by decide +kernel
theorem d_Rep_mayWrite_44 : decode b_Rep_mayWrite 44 = .ok (.iconst 0, 1) := by decide +kernel
theorem d_Rep_mayWrite_45 : decode b_Rep_mayWrite 45 = .ok (.ireturn, 1) := by decide +kernel
theorem d_Rep_mixLong_0 : decode b_Rep_mixLong 0 = .ok (.lload_n 0, 1) := by decide +kernel
theorem d_Rep_mixLong_1 : decode b_Rep_mixLong 1 = .ok (.lstore 4, 2) := by decide +kernel
theorem d_Rep_mixLong_3 : decode b_Rep_mixLong 3 = .ok (.bipush 56, 2) := by decide +kernel
theorem d_Rep_mixLong_5 : decode b_Rep_mixLong 5 = .ok (.istore 6, 2) := by decide +kernel
theorem d_Rep_mixLong_7 : decode b_Rep_mixLong 7 = .ok (.iload 6, 2) := by decide +kernel
theorem d_Rep_mixLong_9 : decode b_Rep_mixLong 9 = .ok (.ifCond .lt 25, 3) := by decide +kernel
theorem d_Rep_mixLong_12 : decode b_Rep_mixLong 12 = .ok (.lload 4, 2) := by decide +kernel
theorem d_Rep_mixLong_14 : decode b_Rep_mixLong 14 = .ok (.lload_n 2, 1) := by decide +kernel
theorem d_Rep_mixLong_15 : decode b_Rep_mixLong 15 = .ok (.iload 6, 2) := by decide +kernel
theorem d_Rep_mixLong_17 : decode b_Rep_mixLong 17 = .ok (.invokestatic 158, 3) := by decide +kernel
theorem d_Rep_mixLong_20 : decode b_Rep_mixLong 20 = .ok (.i2l, 1) := by decide +kernel
theorem d_Rep_mixLong_21 : decode b_Rep_mixLong 21 = .ok (.lxor, 1) := by decide +kernel
theorem d_Rep_mixLong_22 : decode b_Rep_mixLong 22 = .ok (.ldc2_w 156, 3) := by decide +kernel
theorem d_Rep_mixLong_25 : decode b_Rep_mixLong 25 = .ok (.lmul, 1) := by decide +kernel
theorem d_Rep_mixLong_26 : decode b_Rep_mixLong 26 = .ok (.lstore 4, 2) := by decide +kernel
theorem d_Rep_mixLong_28 : decode b_Rep_mixLong 28 = .ok (.iinc 6 (-8), 3) := by decide +kernel
theorem d_Rep_mixLong_31 : decode b_Rep_mixLong 31 = .ok (.goto (-24), 3) := by decide +kernel
theorem d_Rep_mixLong_34 : decode b_Rep_mixLong 34 = .ok (.lload 4, 2) := by decide +kernel
theorem d_Rep_mixLong_36 : decode b_Rep_mixLong 36 = .ok (.lreturn, 1) := by decide +kernel
theorem d_Rep_nodeOf_0 : decode b_Rep_nodeOf 0 = .ok (.aload_n 0, 1) := by decide +kernel
theorem d_Rep_nodeOf_1 : decode b_Rep_nodeOf 1 = .ok (.iload_n 2, 1) := by decide +kernel
theorem d_Rep_nodeOf_2 : decode b_Rep_nodeOf 2 = .ok (.invokevirtual 134, 3) := by decide +kernel
theorem d_Rep_nodeOf_5 : decode b_Rep_nodeOf 5 = .ok (.lstore 4, 2) := by decide +kernel
theorem d_Rep_nodeOf_7 : decode b_Rep_nodeOf 7 = .ok (.aload_n 0, 1) := by decide +kernel
theorem d_Rep_nodeOf_8 : decode b_Rep_nodeOf 8 = .ok (.iload_n 3, 1) := by decide +kernel
theorem d_Rep_nodeOf_9 : decode b_Rep_nodeOf 9 = .ok (.invokevirtual 134, 3) := by decide +kernel
theorem d_Rep_nodeOf_12 : decode b_Rep_nodeOf 12 = .ok (.lstore 6, 2) := by decide +kernel
theorem d_Rep_nodeOf_14 : decode b_Rep_nodeOf 14 = .ok (.ldc2_w 138, 3) := by decide +kernel
theorem d_Rep_nodeOf_17 : decode b_Rep_nodeOf 17 = .ok (.lload 4, 2) := by decide +kernel
theorem d_Rep_nodeOf_19 : decode b_Rep_nodeOf 19 = .ok (.lload 6, 2) := by decide +kernel
theorem d_Rep_nodeOf_21 : decode b_Rep_nodeOf 21 = .ok (.invokestatic 140, 3) := by decide +kernel
theorem d_Rep_nodeOf_24 : decode b_Rep_nodeOf 24 = .ok (.invokestatic 146, 3) := by decide +kernel
theorem d_Rep_nodeOf_27 : decode b_Rep_nodeOf 27 = .ok (.lstore 8, 2) := by decide +kernel
theorem d_Rep_nodeOf_29 : decode b_Rep_nodeOf 29 = .ok (.lload 8, 2) := by decide +kernel
theorem d_Rep_nodeOf_31 : decode b_Rep_nodeOf 31 = .ok (.lload 4, 2) := by decide +kernel
theorem d_Rep_nodeOf_33 : decode b_Rep_nodeOf 33 = .ok (.lload 6, 2) := by decide +kernel
theorem d_Rep_nodeOf_35 : decode b_Rep_nodeOf 35 = .ok (.invokestatic 149, 3) := by decide +kernel
theorem d_Rep_nodeOf_38 : decode b_Rep_nodeOf 38 = .ok (.invokestatic 146, 3) := by decide +kernel
theorem d_Rep_nodeOf_41 : decode b_Rep_nodeOf 41 = .ok (.lstore 8, 2) := by decide +kernel
theorem d_Rep_nodeOf_43 : decode b_Rep_nodeOf 43 = .ok (.iconst 0, 1) := by decide +kernel
theorem d_Rep_nodeOf_44 : decode b_Rep_nodeOf 44 = .ok (.istore 10, 2) := by decide +kernel
theorem d_Rep_nodeOf_46 : decode b_Rep_nodeOf 46 = .ok (.iload 10, 2) := by decide +kernel
theorem d_Rep_nodeOf_48 : decode b_Rep_nodeOf 48 = .ok (.aload_n 1, 1) := by decide +kernel
theorem d_Rep_nodeOf_49 : decode b_Rep_nodeOf 49 = .ok (.getfield 62, 3) := by decide +kernel
theorem d_Rep_nodeOf_52 : decode b_Rep_nodeOf 52 = .ok (.if_icmp .ge 25, 3) := by decide +kernel
theorem d_Rep_nodeOf_55 : decode b_Rep_nodeOf 55 = .ok (.lload 8, 2) := by decide +kernel
theorem d_Rep_nodeOf_57 : decode b_Rep_nodeOf 57 = .ok (.aload_n 1, 1) := by decide +kernel
theorem d_Rep_nodeOf_58 : decode b_Rep_nodeOf 58 = .ok (.iload 10, 2) := by decide +kernel
theorem d_Rep_nodeOf_60 : decode b_Rep_nodeOf 60 = .ok (.invokevirtual 152, 3) := by decide +kernel
theorem d_Rep_nodeOf_63 : decode b_Rep_nodeOf 63 = .ok (.i2l, 1) := by decide +kernel
theorem d_Rep_nodeOf_64 : decode b_Rep_nodeOf 64 = .ok (.lxor, 1) := by decide +kernel
theorem d_Rep_nodeOf_65 : decode b_Rep_nodeOf 65 = .ok (.ldc2_w 156, 3) := by decide +kernel
theorem d_Rep_nodeOf_68 : decode b_Rep_nodeOf 68 = .ok (.lmul, 1) := by decide +kernel
theorem d_Rep_nodeOf_69 : decode b_Rep_nodeOf 69 = .ok (.lstore 8, 2) := by decide +kernel
theorem d_Rep_nodeOf_71 : decode b_Rep_nodeOf 71 = .ok (.iinc 10 1, 3) := by decide +kernel
theorem d_Rep_nodeOf_74 : decode b_Rep_nodeOf 74 = .ok (.goto (-28), 3) := by decide +kernel
theorem d_Rep_nodeOf_77 : decode b_Rep_nodeOf 77 = .ok (.lload 8, 2) := by decide +kernel
theorem d_Rep_nodeOf_79 : decode b_Rep_nodeOf 79 = .ok (.lreturn, 1) := by decide +kernel
theorem d_Rep_nodeOrZero_0 : decode b_Rep_nodeOrZero 0 = .ok (.iload_n 1, 1) := by decide +kernel
theorem d_Rep_nodeOrZero_1 : decode b_Rep_nodeOrZero 1 = .ok (.iconst (-1), 1) := by decide +kernel
theorem d_Rep_nodeOrZero_2 : decode b_Rep_nodeOrZero 2 = .ok (.if_icmp .ne 7, 3) := by decide +kernel
theorem d_Rep_nodeOrZero_5 : decode b_Rep_nodeOrZero 5 = .ok (.lconst 0, 1) := by decide +kernel
theorem d_Rep_nodeOrZero_6 : decode b_Rep_nodeOrZero 6 = .ok (.goto 12, 3) := by decide +kernel
theorem d_Rep_nodeOrZero_9 : decode b_Rep_nodeOrZero 9 = .ok (.aload_n 0, 1) := by decide +kernel
theorem d_Rep_nodeOrZero_10 : decode b_Rep_nodeOrZero 10 = .ok (.getfield 22, 3) := by decide +kernel
theorem d_Rep_nodeOrZero_13 : decode b_Rep_nodeOrZero 13 = .ok (.iload_n 1, 1) := by decide +kernel
theorem d_Rep_nodeOrZero_14 : decode b_Rep_nodeOrZero 14 = .ok (.aaload, 1) := by decide +kernel
theorem d_Rep_nodeOrZero_15 : decode b_Rep_nodeOrZero 15 = .ok (.getfield 84, 3) := by decide +kernel
theorem d_Rep_nodeOrZero_18 : decode b_Rep_nodeOrZero 18 = .ok (.lreturn, 1) := by decide +kernel
theorem d_Rep_openJournal_0 : decode b_Rep_openJournal 0 = .ok (.aload_n 0, 1) := by decide +kernel
theorem d_Rep_openJournal_1 : decode b_Rep_openJournal 1 = .ok (.invokevirtual 58, 3) := by decide +kernel
theorem d_Rep_openJournal_4 : decode b_Rep_openJournal 4 = .ok (.ifCond .ne 5, 3) := by decide +kernel
theorem d_Rep_openJournal_7 : decode b_Rep_openJournal 7 = .ok (.iconst 0, 1) := by decide +kernel
theorem d_Rep_openJournal_8 : decode b_Rep_openJournal 8 = .ok (.ireturn, 1) := by decide +kernel
theorem d_Rep_openJournal_9 : decode b_Rep_openJournal 9 = .ok (.aload_n 0, 1) := by decide +kernel
theorem d_Rep_openJournal_10 : decode b_Rep_openJournal 10 = .ok (.iconst 1, 1) := by decide +kernel
theorem d_Rep_openJournal_11 : decode b_Rep_openJournal 11 = .ok (.putfield 31, 3) := by decide +kernel
theorem d_Rep_openJournal_14 : decode b_Rep_openJournal 14 = .ok (.aload_n 0, 1) := by decide +kernel
theorem d_Rep_openJournal_15 : decode b_Rep_openJournal 15 = .ok (.aload_n 0, 1) := by decide +kernel
theorem d_Rep_openJournal_16 : decode b_Rep_openJournal 16 = .ok (.getfield 14, 3) := by decide +kernel
theorem d_Rep_openJournal_19 : decode b_Rep_openJournal 19 = .ok (.getfield 62, 3) := by decide +kernel
theorem d_Rep_openJournal_22 : decode b_Rep_openJournal 22 = .ok (.putfield 65, 3) := by decide +kernel
theorem d_Rep_openJournal_25 : decode b_Rep_openJournal 25 = .ok (.aload_n 0, 1) := by decide +kernel
theorem d_Rep_openJournal_26 : decode b_Rep_openJournal 26 = .ok (.aload_n 0, 1) := by decide +kernel
theorem d_Rep_openJournal_27 : decode b_Rep_openJournal 27 = .ok (.getfield 27, 3) := by decide +kernel
theorem d_Rep_openJournal_30 : decode b_Rep_openJournal 30 = .ok (.putfield 68, 3) := by decide +kernel
theorem d_Rep_openJournal_33 : decode b_Rep_openJournal 33 = .ok (.iconst 1, 1) := by decide +kernel
theorem d_Rep_openJournal_34 : decode b_Rep_openJournal 34 = .ok (.ireturn, 1) := by decide +kernel
theorem d_Rep_parentsOf_0 : decode b_Rep_parentsOf 0 = .ok (.aload_n 0, 1) := by decide +kernel
theorem d_Rep_parentsOf_1 : decode b_Rep_parentsOf 1 = .ok (.getfield 22, 3) := by decide +kernel
theorem d_Rep_parentsOf_4 : decode b_Rep_parentsOf 4 = .ok (.iload_n 1, 1) := by decide +kernel
theorem d_Rep_parentsOf_5 : decode b_Rep_parentsOf 5 = .ok (.aaload, 1) := by decide +kernel
theorem d_Rep_parentsOf_6 : decode b_Rep_parentsOf 6 = .ok (.astore_n 2, 1) := by decide +kernel
theorem d_Rep_parentsOf_7 : decode b_Rep_parentsOf 7 = .ok (.aload_n 2, 1) := by decide +kernel
theorem d_Rep_parentsOf_8 : decode b_Rep_parentsOf 8 = .ok (.getfield 95, 3) := by decide +kernel
theorem d_Rep_parentsOf_11 : decode b_Rep_parentsOf 11 = .ok (.iconst (-1), 1) := by decide +kernel
theorem d_Rep_parentsOf_12 : decode b_Rep_parentsOf 12 = .ok (.if_icmp .ne 7, 3) := by decide +kernel
theorem d_Rep_parentsOf_15 : decode b_Rep_parentsOf 15 = .ok (.iconst 0, 1) := by decide +kernel
theorem d_Rep_parentsOf_16 : decode b_Rep_parentsOf 16 = .ok (.goto 9, 3) := by decide +kernel
theorem d_Rep_parentsOf_19 : decode b_Rep_parentsOf 19 = .ok (.iconst 1, 1) := by decide +kernel
theorem d_Rep_parentsOf_20 : decode b_Rep_parentsOf 20 = .ok (.aload_n 2, 1) := by decide +kernel
theorem d_Rep_parentsOf_21 : decode b_Rep_parentsOf 21 = .ok (.getfield 95, 3) := by decide +kernel
theorem d_Rep_parentsOf_24 : decode b_Rep_parentsOf 24 = .ok (.ishl, 1) := by decide +kernel
theorem d_Rep_parentsOf_25 : decode b_Rep_parentsOf 25 = .ok (.istore_n 3, 1) := by decide +kernel
theorem d_Rep_parentsOf_26 : decode b_Rep_parentsOf 26 = .ok (.aload_n 2, 1) := by decide +kernel
theorem d_Rep_parentsOf_27 : decode b_Rep_parentsOf 27 = .ok (.getfield 102, 3) := by decide +kernel
theorem d_Rep_parentsOf_30 : decode b_Rep_parentsOf 30 = .ok (.iconst (-1), 1) := by decide +kernel
theorem d_Rep_parentsOf_31 : decode b_Rep_parentsOf 31 = .ok (.if_icmp .ne 7, 3) := by decide +kernel
theorem d_Rep_parentsOf_34 : decode b_Rep_parentsOf 34 = .ok (.iconst 0, 1) := by decide +kernel
theorem d_Rep_parentsOf_35 : decode b_Rep_parentsOf 35 = .ok (.goto 9, 3) := by decide +kernel
theorem d_Rep_parentsOf_38 : decode b_Rep_parentsOf 38 = .ok (.iconst 1, 1) := by decide +kernel
theorem d_Rep_parentsOf_39 : decode b_Rep_parentsOf 39 = .ok (.aload_n 2, 1) := by decide +kernel
theorem d_Rep_parentsOf_40 : decode b_Rep_parentsOf 40 = .ok (.getfield 102, 3) := by decide +kernel
theorem d_Rep_parentsOf_43 : decode b_Rep_parentsOf 43 = .ok (.ishl, 1) := by decide +kernel
theorem d_Rep_parentsOf_44 : decode b_Rep_parentsOf 44 = .ok (.istore 4, 2) := by decide +kernel
theorem d_Rep_parentsOf_46 : decode b_Rep_parentsOf 46 = .ok (.iload_n 3, 1) := by decide +kernel
theorem d_Rep_parentsOf_47 : decode b_Rep_parentsOf 47 = .ok (.iload 4, 2) := by decide +kernel
theorem d_Rep_parentsOf_49 : decode b_Rep_parentsOf 49 = .ok (.ior, 1) := by decide +kernel
theorem d_Rep_parentsOf_50 : decode b_Rep_parentsOf 50 = .ok (.ireturn, 1) := by decide +kernel
theorem d_Rep_removeJournal_0 : decode b_Rep_removeJournal 0 = .ok (.aload_n 0, 1) := by decide +kernel
theorem d_Rep_removeJournal_1 : decode b_Rep_removeJournal 1 = .ok (.invokevirtual 58, 3) := by decide +kernel
theorem d_Rep_removeJournal_4 : decode b_Rep_removeJournal 4 = .ok (.ifCond .ne 5, 3) := by decide +kernel
theorem d_Rep_removeJournal_7 : decode b_Rep_removeJournal 7 = .ok (.iconst 0, 1) := by decide +kernel
theorem d_Rep_removeJournal_8 : decode b_Rep_removeJournal 8 = .ok (.ireturn, 1) := by decide +kernel
theorem d_Rep_removeJournal_9 : decode b_Rep_removeJournal 9 = .ok (.aload_n 0, 1) := by decide +kernel
theorem d_Rep_removeJournal_10 : decode b_Rep_removeJournal 10 = .ok (.iconst 0, 1) := by decide +kernel
theorem d_Rep_removeJournal_11 : decode b_Rep_removeJournal 11 = .ok (.putfield 31, 3) := by decide +kernel
theorem d_Rep_removeJournal_14 : decode b_Rep_removeJournal 14 = .ok (.iconst 1, 1) := by decide +kernel
theorem d_Rep_removeJournal_15 : decode b_Rep_removeJournal 15 = .ok (.ireturn, 1) := by decide +kernel
theorem d_Rep_rollBack_0 : decode b_Rep_rollBack 0 = .ok (.aload_n 0, 1) := by decide +kernel
theorem d_Rep_rollBack_1 : decode b_Rep_rollBack 1 = .ok (.getfield 27, 3) := by decide +kernel
theorem d_Rep_rollBack_4 : decode b_Rep_rollBack 4 = .ok (.istore_n 1, 1) := by decide +kernel
theorem d_Rep_rollBack_5 : decode b_Rep_rollBack 5 = .ok (.aload_n 0, 1) := by decide +kernel
theorem d_Rep_rollBack_6 : decode b_Rep_rollBack 6 = .ok (.invokevirtual 58, 3) := by decide +kernel
theorem d_Rep_rollBack_9 : decode b_Rep_rollBack 9 = .ok (.ifCond .ne 6, 3) := by decide +kernel
theorem d_Rep_rollBack_12 : decode b_Rep_rollBack 12 = .ok (.bipush (-2), 2) := by decide +kernel
theorem d_Rep_rollBack_14 : decode b_Rep_rollBack 14 = .ok (.ireturn, 1) := by decide +kernel
theorem d_Rep_rollBack_15 : decode b_Rep_rollBack 15 = .ok (.aload_n 0, 1) := by decide +kernel
theorem d_Rep_rollBack_16 : decode b_Rep_rollBack 16 = .ok (.getfield 14, 3) := by decide +kernel
theorem d_Rep_rollBack_19 : decode b_Rep_rollBack 19 = .ok (.aload_n 0, 1) := by decide +kernel
theorem d_Rep_rollBack_20 : decode b_Rep_rollBack 20 = .ok (.getfield 65, 3) := by decide +kernel
theorem d_Rep_rollBack_23 : decode b_Rep_rollBack 23 = .ok (.invokevirtual 71, 3) := by decide +kernel
theorem d_Rep_rollBack_26 : decode b_Rep_rollBack 26 = .ok (.aload_n 0, 1) := by decide +kernel
theorem d_Rep_rollBack_27 : decode b_Rep_rollBack 27 = .ok (.invokevirtual 58, 3) := by decide +kernel
theorem d_Rep_rollBack_30 : decode b_Rep_rollBack 30 = .ok (.ifCond .ne 6, 3) := by decide +kernel
theorem d_Rep_rollBack_33 : decode b_Rep_rollBack 33 = .ok (.bipush (-2), 2) := by decide +kernel
theorem d_Rep_rollBack_35 : decode b_Rep_rollBack 35 = .ok (.ireturn, 1) := by decide +kernel
theorem d_Rep_rollBack_36 : decode b_Rep_rollBack 36 = .ok (.aload_n 0, 1) := by decide +kernel
theorem d_Rep_rollBack_37 : decode b_Rep_rollBack 37 = .ok (.aload_n 0, 1) := by decide +kernel
theorem d_Rep_rollBack_38 : decode b_Rep_rollBack 38 = .ok (.getfield 68, 3) := by decide +kernel
theorem d_Rep_rollBack_41 : decode b_Rep_rollBack 41 = .ok (.putfield 27, 3) := by decide +kernel
theorem d_Rep_rollBack_44 : decode b_Rep_rollBack 44 = .ok (.aload_n 0, 1) := by decide +kernel
theorem d_Rep_rollBack_45 : decode b_Rep_rollBack 45 = .ok (.invokevirtual 74, 3) := by decide +kernel
theorem d_Rep_rollBack_48 : decode b_Rep_rollBack 48 = .ok (.ifCond .eq 12, 3) := by decide +kernel
theorem d_Rep_rollBack_51 : decode b_Rep_rollBack 51 = .ok (.iload_n 1, 1) := by decide +kernel
theorem d_Rep_rollBack_52 : decode b_Rep_rollBack 52 = .ok (.aload_n 0, 1) := by decide +kernel
theorem d_Rep_rollBack_53 : decode b_Rep_rollBack 53 = .ok (.getfield 27, 3) := by decide +kernel
theorem d_Rep_rollBack_56 : decode b_Rep_rollBack 56 = .ok (.isub, 1) := by decide +kernel
theorem d_Rep_rollBack_57 : decode b_Rep_rollBack 57 = .ok (.goto 5, 3) := by decide +kernel
theorem d_Rep_rollBack_60 : decode b_Rep_rollBack 60 = .ok (.bipush (-2), 2) := by decide +kernel
theorem d_Rep_rollBack_62 : decode b_Rep_rollBack 62 = .ok (.ireturn, 1) := by decide +kernel
theorem d_Rep_store_0 : decode b_Rep_store 0 = .ok (.aload_n 0, 1) := by decide +kernel
theorem d_Rep_store_1 : decode b_Rep_store 1 = .ok (.aload_n 1, 1) := by decide +kernel
theorem d_Rep_store_2 : decode b_Rep_store 2 = .ok (.iload_n 2, 1) := by decide +kernel
theorem d_Rep_store_3 : decode b_Rep_store 3 = .ok (.iload_n 3, 1) := by decide +kernel
theorem d_Rep_store_4 : decode b_Rep_store 4 = .ok (.invokevirtual 112, 3) := by decide +kernel
theorem d_Rep_store_7 : decode b_Rep_store 7 = .ok (.lstore 4, 2) := by decide +kernel
theorem d_Rep_store_9 : decode b_Rep_store 9 = .ok (.aload_n 0, 1) := by decide +kernel
theorem d_Rep_store_10 : decode b_Rep_store 10 = .ok (.lload 4, 2) := by decide +kernel
theorem d_Rep_store_12 : decode b_Rep_store 12 = .ok (.invokevirtual 88, 3) := by decide +kernel
theorem d_Rep_store_15 : decode b_Rep_store 15 = .ok (.istore 6, 2) := by decide +kernel
theorem d_Rep_store_17 : decode b_Rep_store 17 = .ok (.iload 6, 2) := by decide +kernel
theorem d_Rep_store_19 : decode b_Rep_store 19 = .ok (.iconst (-1), 1) := by decide +kernel
theorem d_Rep_store_20 : decode b_Rep_store 20 = .ok (.if_icmp .eq 6, 3) := by decide +kernel
theorem d_Rep_store_23 : decode b_Rep_store 23 = .ok (.iload 6, 2) := by decide +kernel
theorem d_Rep_store_25 : decode b_Rep_store 25 = .ok (.ireturn, 1) := by decide +kernel
theorem d_Rep_store_26 : decode b_Rep_store 26 = .ok (.aload_n 0, 1) := by decide +kernel
theorem d_Rep_store_27 : decode b_Rep_store 27 = .ok (.aload_n 1, 1) := by decide +kernel
theorem d_Rep_store_28 : decode b_Rep_store 28 = .ok (.iload_n 2, 1) := by decide +kernel
theorem d_Rep_store_29 : decode b_Rep_store 29 = .ok (.iload_n 3, 1) := by decide +kernel
theorem d_Rep_store_30 : decode b_Rep_store 30 = .ok (.invokevirtual 116, 3) := by decide +kernel
theorem d_Rep_store_33 : decode b_Rep_store 33 = .ok (.istore 7, 2) := by decide +kernel
theorem d_Rep_store_35 : decode b_Rep_store 35 = .ok (.aload_n 0, 1) := by decide +kernel
theorem d_Rep_store_36 : decode b_Rep_store 36 = .ok (.getfield 27, 3) := by decide +kernel
theorem d_Rep_store_39 : decode b_Rep_store 39 = .ok (.bipush 24, 2) := by decide +kernel
theorem d_Rep_store_41 : decode b_Rep_store 41 = .ok (.if_icmp .ge 20, 3) := by decide +kernel
theorem d_Rep_store_44 : decode b_Rep_store 44 = .ok (.aload_n 0, 1) := by decide +kernel
theorem d_Rep_store_45 : decode b_Rep_store 45 = .ok (.getfield 14, 3) := by decide +kernel
theorem d_Rep_store_48 : decode b_Rep_store 48 = .ok (.aload_n 0, 1) := by decide +kernel
theorem d_Rep_store_49 : decode b_Rep_store 49 = .ok (.getfield 48, 3) := by decide +kernel
theorem d_Rep_store_52 : decode b_Rep_store 52 = .ok (.getfield 62, 3) := by decide +kernel
theorem d_Rep_store_55 : decode b_Rep_store 55 = .ok (.invokevirtual 119, 3) := by decide +kernel
theorem d_Rep_store_58 : decode b_Rep_store 58 = .ok (.ifCond .ne 6, 3) := by decide +kernel
theorem d_Rep_store_61 : decode b_Rep_store 61 = .ok (.bipush (-3), 2) := by decide +kernel
theorem d_Rep_store_63 : decode b_Rep_store 63 = .ok (.ireturn, 1) := by decide +kernel
theorem d_Rep_store_64 : decode b_Rep_store 64 = .ok (.aload_n 0, 1) := by decide +kernel
theorem d_Rep_store_65 : decode b_Rep_store 65 = .ok (.getfield 14, 3) := by decide +kernel
theorem d_Rep_store_68 : decode b_Rep_store 68 = .ok (.getfield 62, 3) := by decide +kernel
theorem d_Rep_store_71 : decode b_Rep_store 71 = .ok (.istore 8, 2) := by decide +kernel
theorem d_Rep_store_73 : decode b_Rep_store 73 = .ok (.aload_n 0, 1) := by decide +kernel
theorem d_Rep_store_74 : decode b_Rep_store 74 = .ok (.invokevirtual 58, 3) := by decide +kernel
theorem d_Rep_store_77 : decode b_Rep_store 77 = .ok (.ifCond .ne 6, 3) := by decide +kernel
theorem d_Rep_store_80 : decode b_Rep_store 80 = .ok (.bipush (-2), 2) := by decide +kernel
theorem d_Rep_store_82 : decode b_Rep_store 82 = .ok (.ireturn, 1) := by decide +kernel
theorem d_Rep_store_83 : decode b_Rep_store 83 = .ok (.aload_n 0, 1) := by decide +kernel
theorem d_Rep_store_84 : decode b_Rep_store 84 = .ok (.getfield 14, 3) := by decide +kernel
theorem d_Rep_store_87 : decode b_Rep_store 87 = .ok (.aload_n 0, 1) := by decide +kernel
theorem d_Rep_store_88 : decode b_Rep_store 88 = .ok (.getfield 48, 3) := by decide +kernel
theorem d_Rep_store_91 : decode b_Rep_store 91 = .ok (.iconst 0, 1) := by decide +kernel
theorem d_Rep_store_92 : decode b_Rep_store 92 = .ok (.aload_n 0, 1) := by decide +kernel
theorem d_Rep_store_93 : decode b_Rep_store 93 = .ok (.getfield 48, 3) := by decide +kernel
theorem d_Rep_store_96 : decode b_Rep_store 96 = .ok (.getfield 62, 3) := by decide +kernel
theorem d_Rep_store_99 : decode b_Rep_store 99 = .ok (.invokevirtual 122, 3) := by decide +kernel
theorem d_Rep_store_102 : decode b_Rep_store 102 = .ok (.pop, 1) := by decide +kernel
theorem d_Rep_store_103 : decode b_Rep_store 103 = .ok (.aload_n 0, 1) := by decide +kernel
theorem d_Rep_store_104 : decode b_Rep_store 104 = .ok (.invokevirtual 58, 3) := by decide +kernel
theorem d_Rep_store_107 : decode b_Rep_store 107 = .ok (.ifCond .ne 6, 3) := by decide +kernel
theorem d_Rep_store_110 : decode b_Rep_store 110 = .ok (.bipush (-2), 2) := by decide +kernel
theorem d_Rep_store_112 : decode b_Rep_store 112 = .ok (.ireturn, 1) := by decide +kernel
theorem d_Rep_store_113 : decode b_Rep_store 113 = .ok (.aload_n 0, 1) := by decide +kernel
theorem d_Rep_store_114 : decode b_Rep_store 114 = .ok (.getfield 22, 3) := by decide +kernel
theorem d_Rep_store_117 : decode b_Rep_store 117 = .ok (.aload_n 0, 1) := by decide +kernel
theorem d_Rep_store_118 : decode b_Rep_store 118 = .ok (.getfield 27, 3) := by decide +kernel
theorem d_Rep_store_121 : decode b_Rep_store 121 = .ok (.aaload, 1) := by decide +kernel
theorem d_Rep_store_122 : decode b_Rep_store 122 = .ok (.iload 8, 2) := by decide +kernel
theorem d_Rep_store_124 : decode b_Rep_store 124 = .ok (.aload_n 0, 1) := by decide +kernel
theorem d_Rep_store_125 : decode b_Rep_store 125 = .ok (.getfield 48, 3) := by decide +kernel
theorem d_Rep_store_128 : decode b_Rep_store 128 = .ok (.getfield 62, 3) := by decide +kernel
theorem d_Rep_store_131 : decode b_Rep_store 131 = .ok (.iload 7, 2) := by decide +kernel
theorem d_Rep_store_133 : decode b_Rep_store 133 = .ok (.invokevirtual 126, 3) := by decide +kernel
theorem d_Rep_store_136 : decode b_Rep_store 136 = .ok (.aload_n 0, 1) := by decide +kernel
theorem d_Rep_store_137 : decode b_Rep_store 137 = .ok (.getfield 22, 3) := by decide +kernel
theorem d_Rep_store_140 : decode b_Rep_store 140 = .ok (.aload_n 0, 1) := by decide +kernel
theorem d_Rep_store_141 : decode b_Rep_store 141 = .ok (.getfield 27, 3) := by decide +kernel
theorem d_Rep_store_144 : decode b_Rep_store 144 = .ok (.aaload, 1) := by decide +kernel
theorem d_Rep_store_145 : decode b_Rep_store 145 = .ok (.aload_n 1, 1) := by decide +kernel
theorem d_Rep_store_146 : decode b_Rep_store 146 = .ok (.getfield 62, 3) := by decide +kernel
theorem d_Rep_store_149 : decode b_Rep_store 149 = .ok (.iload_n 2, 1) := by decide +kernel
theorem d_Rep_store_150 : decode b_Rep_store 150 = .ok (.iload_n 3, 1) := by decide +kernel
theorem d_Rep_store_151 : decode b_Rep_store 151 = .ok (.lload 4, 2) := by decide +kernel
theorem d_Rep_store_153 : decode b_Rep_store 153 = .ok (.invokevirtual 130, 3) := by decide +kernel
theorem d_Rep_store_156 : decode b_Rep_store 156 = .ok (.aload_n 0, 1) := by decide +kernel
theorem d_Rep_store_157 : decode b_Rep_store 157 = .ok (.dup, 1) := by decide +kernel
theorem d_Rep_store_158 : decode b_Rep_store 158 = .ok (.getfield 27, 3) := by decide +kernel
theorem d_Rep_store_161 : decode b_Rep_store 161 = .ok (.iconst 1, 1) := by decide +kernel
theorem d_Rep_store_162 : decode b_Rep_store 162 = .ok (.iadd, 1) := by decide +kernel
theorem d_Rep_store_163 : decode b_Rep_store 163 = .ok (.putfield 27, 3) := by decide +kernel
theorem d_Rep_store_166 : decode b_Rep_store 166 = .ok (.aload_n 0, 1) := by decide +kernel
theorem d_Rep_store_167 : decode b_Rep_store 167 = .ok (.getfield 27, 3) := by decide +kernel
theorem d_Rep_store_170 : decode b_Rep_store 170 = .ok (.iconst 1, 1) := by decide +kernel
theorem d_Rep_store_171 : decode b_Rep_store 171 = .ok (.isub, 1) := by decide +kernel
theorem d_Rep_store_172 : decode b_Rep_store 172 = .ok (.ireturn, 1) := by decide +kernel
theorem d_Rep_takeFrom_0 : decode b_Rep_takeFrom 0 = .ok (.aload_n 0, 1) := by decide +kernel
theorem d_Rep_takeFrom_1 : decode b_Rep_takeFrom 1 = .ok (.getfield 38, 3) := by decide +kernel
theorem d_Rep_takeFrom_4 : decode b_Rep_takeFrom 4 = .ok (.istore_n 2, 1) := by decide +kernel
theorem d_Rep_takeFrom_5 : decode b_Rep_takeFrom 5 = .ok (.aload_n 0, 1) := by decide +kernel
theorem d_Rep_takeFrom_6 : decode b_Rep_takeFrom 6 = .ok (.invokevirtual 81, 3) := by decide +kernel
theorem d_Rep_takeFrom_9 : decode b_Rep_takeFrom 9 = .ok (.ifCond .ne 6, 3) := by decide +kernel
theorem d_Rep_takeFrom_12 : decode b_Rep_takeFrom 12 = .ok (.bipush (-2), 2) := by decide +kernel
theorem d_Rep_takeFrom_14 : decode b_Rep_takeFrom 14 = .ok (.ireturn, 1) := by decide +kernel
theorem d_Rep_takeFrom_15 : decode b_Rep_takeFrom 15 = .ok (.iconst 0, 1) := by decide +kernel
theorem d_Rep_takeFrom_16 : decode b_Rep_takeFrom 16 = .ok (.istore_n 3, 1) := by decide +kernel
theorem d_Rep_takeFrom_17 : decode b_Rep_takeFrom 17 = .ok (.iload_n 3, 1) := by decide +kernel
theorem d_Rep_takeFrom_18 : decode b_Rep_takeFrom 18 = .ok (.aload_n 1, 1) := by decide +kernel
theorem d_Rep_takeFrom_19 : decode b_Rep_takeFrom 19 = .ok (.getfield 27, 3) := by decide +kernel
theorem d_Rep_takeFrom_22 : decode b_Rep_takeFrom 22 = .ok (.if_icmp .ge 97, 3) := by decide +kernel
theorem d_Rep_takeFrom_25 : decode b_Rep_takeFrom 25 = .ok (.aload_n 1, 1) := by decide +kernel
theorem d_Rep_takeFrom_26 : decode b_Rep_takeFrom 26 = .ok (.getfield 22, 3) := by decide +kernel
theorem d_Rep_takeFrom_29 : decode b_Rep_takeFrom 29 = .ok (.iload_n 3, 1) := by decide +kernel
theorem d_Rep_takeFrom_30 : decode b_Rep_takeFrom 30 = .ok (.aaload, 1) := by decide +kernel
theorem d_Rep_takeFrom_31 : decode b_Rep_takeFrom 31 = .ok (.astore 4, 2) := by decide +kernel
theorem d_Rep_takeFrom_33 : decode b_Rep_takeFrom 33 = .ok (.aload_n 0, 1) := by decide +kernel
theorem d_Rep_takeFrom_34 : decode b_Rep_takeFrom 34 = .ok (.aload 4, 2) := by decide +kernel
theorem d_Rep_takeFrom_36 : decode b_Rep_takeFrom 36 = .ok (.getfield 84, 3) := by decide +kernel
theorem d_Rep_takeFrom_39 : decode b_Rep_takeFrom 39 = .ok (.invokevirtual 88, 3) := by decide +kernel
theorem d_Rep_takeFrom_42 : decode b_Rep_takeFrom 42 = .ok (.iconst (-1), 1) := by decide +kernel
theorem d_Rep_takeFrom_43 : decode b_Rep_takeFrom 43 = .ok (.if_icmp .ne 70, 3) := by decide +kernel
theorem d_Rep_takeFrom_46 : decode b_Rep_takeFrom 46 = .ok (.bipush (-3), 2) := by decide +kernel
theorem d_Rep_takeFrom_48 : decode b_Rep_takeFrom 48 = .ok (.istore 5, 2) := by decide +kernel
theorem d_Rep_takeFrom_50 : decode b_Rep_takeFrom 50 = .ok (.aload_n 1, 1) := by decide +kernel
theorem d_Rep_takeFrom_51 : decode b_Rep_takeFrom 51 = .ok (.iload_n 3, 1) := by decide +kernel
theorem d_Rep_takeFrom_52 : decode b_Rep_takeFrom 52 = .ok (.invokevirtual 92, 3) := by decide +kernel
theorem d_Rep_takeFrom_55 : decode b_Rep_takeFrom 55 = .ok (.ifCond .eq 33, 3) := by decide +kernel
theorem d_Rep_takeFrom_58 : decode b_Rep_takeFrom 58 = .ok (.aload_n 0, 1) := by decide +kernel
theorem d_Rep_takeFrom_59 : decode b_Rep_takeFrom 59 = .ok (.aload_n 1, 1) := by decide +kernel
theorem d_Rep_takeFrom_60 : decode b_Rep_takeFrom 60 = .ok (.getfield 41, 3) := by decide +kernel
theorem d_Rep_takeFrom_63 : decode b_Rep_takeFrom 63 = .ok (.aload_n 0, 1) := by decide +kernel
theorem d_Rep_takeFrom_64 : decode b_Rep_takeFrom 64 = .ok (.aload_n 1, 1) := by decide +kernel
theorem d_Rep_takeFrom_65 : decode b_Rep_takeFrom 65 = .ok (.aload 4, 2) := by decide +kernel
theorem d_Rep_takeFrom_67 : decode b_Rep_takeFrom 67 = .ok (.getfield 95, 3) := by decide +kernel
theorem d_Rep_takeFrom_70 : decode b_Rep_takeFrom 70 = .ok (.invokevirtual 98, 3) := by decide +kernel
theorem d_Rep_takeFrom_73 : decode b_Rep_takeFrom 73 = .ok (.aload_n 0, 1) := by decide +kernel
theorem d_Rep_takeFrom_74 : decode b_Rep_takeFrom 74 = .ok (.aload_n 1, 1) := by decide +kernel
theorem d_Rep_takeFrom_75 : decode b_Rep_takeFrom 75 = .ok (.aload 4, 2) := by decide +kernel
theorem d_Rep_takeFrom_77 : decode b_Rep_takeFrom 77 = .ok (.getfield 102, 3) := by decide +kernel
theorem d_Rep_takeFrom_80 : decode b_Rep_takeFrom 80 = .ok (.invokevirtual 98, 3) := by decide +kernel
theorem d_Rep_takeFrom_83 : decode b_Rep_takeFrom 83 = .ok (.invokevirtual 105, 3) := by decide +kernel
theorem d_Rep_takeFrom_86 : decode b_Rep_takeFrom 86 = .ok (.istore 5, 2) := by decide +kernel
theorem d_Rep_takeFrom_88 : decode b_Rep_takeFrom 88 = .ok (.iload 5, 2) := by decide +kernel
theorem d_Rep_takeFrom_90 : decode b_Rep_takeFrom 90 = .ok (.bipush (-2), 2) := by decide +kernel
theorem d_Rep_takeFrom_92 : decode b_Rep_takeFrom 92 = .ok (.if_icmp .ne 6, 3) := by decide +kernel
theorem d_Rep_takeFrom_95 : decode b_Rep_takeFrom 95 = .ok (.bipush (-2), 2) := by decide +kernel
theorem d_Rep_takeFrom_97 : decode b_Rep_takeFrom 97 = .ok (.ireturn, 1) := by decide +kernel
theorem d_Rep_takeFrom_98 : decode b_Rep_takeFrom 98 = .ok (.iload 5, 2) := by decide +kernel
theorem d_Rep_takeFrom_100 : decode b_Rep_takeFrom 100 = .ok (.bipush (-3), 2) := by decide +kernel
theorem d_Rep_takeFrom_102 : decode b_Rep_takeFrom 102 = .ok (.if_icmp .ne 11, 3) := by decide +kernel
theorem d_Rep_takeFrom_105 : decode b_Rep_takeFrom 105 = .ok (.aload_n 0, 1) := by decide +kernel
theorem d_Rep_takeFrom_106 : decode b_Rep_takeFrom 106 = .ok (.iload_n 2, 1) := by decide +kernel
theorem d_Rep_takeFrom_107 : decode b_Rep_takeFrom 107 = .ok (.invokevirtual 109, 3) := by decide +kernel
theorem d_Rep_takeFrom_110 : decode b_Rep_takeFrom 110 = .ok (.bipush (-3), 2) := by decide +kernel
theorem d_Rep_takeFrom_112 : decode b_Rep_takeFrom 112 = .ok (.ireturn, 1) := by decide +kernel
theorem d_Rep_takeFrom_113 : decode b_Rep_takeFrom 113 = .ok (.iinc 3 1, 3) := by decide +kernel
theorem d_Rep_takeFrom_116 : decode b_Rep_takeFrom 116 = .ok (.goto (-99), 3) := by decide +kernel
theorem d_Rep_takeFrom_119 : decode b_Rep_takeFrom 119 = .ok (.aload_n 0, 1) := by decide +kernel
theorem d_Rep_takeFrom_120 : decode b_Rep_takeFrom 120 = .ok (.getfield 27, 3) := by decide +kernel
theorem d_Rep_takeFrom_123 : decode b_Rep_takeFrom 123 = .ok (.aload_n 0, 1) := by decide +kernel
theorem d_Rep_takeFrom_124 : decode b_Rep_takeFrom 124 = .ok (.getfield 68, 3) := by decide +kernel
theorem d_Rep_takeFrom_127 : decode b_Rep_takeFrom 127 = .ok (.isub, 1) := by decide +kernel
theorem d_Rep_takeFrom_128 : decode b_Rep_takeFrom 128 = .ok (.istore_n 3, 1) := by decide +kernel
theorem d_Rep_takeFrom_129 : decode b_Rep_takeFrom 129 = .ok (.aload_n 0, 1) := by decide +kernel
theorem d_Rep_takeFrom_130 : decode b_Rep_takeFrom 130 = .ok (.invokevirtual 74, 3) := by decide +kernel
theorem d_Rep_takeFrom_133 : decode b_Rep_takeFrom 133 = .ok (.ifCond .eq 7, 3) := by decide +kernel
theorem d_Rep_takeFrom_136 : decode b_Rep_takeFrom 136 = .ok (.iload_n 3, 1) := by decide +kernel
theorem d_Rep_takeFrom_137 : decode b_Rep_takeFrom 137 = .ok (.goto 5, 3) := by decide +kernel
theorem d_Rep_takeFrom_140 : decode b_Rep_takeFrom 140 = .ok (.bipush (-2), 2) := by decide +kernel
theorem d_Rep_takeFrom_142 : decode b_Rep_takeFrom 142 = .ok (.ireturn, 1) := by decide +kernel
theorem d_Rep_twinOf_0 : decode b_Rep_twinOf 0 = .ok (.iload_n 2, 1) := by decide +kernel
theorem d_Rep_twinOf_1 : decode b_Rep_twinOf 1 = .ok (.iconst (-1), 1) := by decide +kernel
theorem d_Rep_twinOf_2 : decode b_Rep_twinOf 2 = .ok (.if_icmp .ne 7, 3) := by decide +kernel
theorem d_Rep_twinOf_5 : decode b_Rep_twinOf 5 = .ok (.iconst (-1), 1) := by decide +kernel
theorem d_Rep_twinOf_6 : decode b_Rep_twinOf 6 = .ok (.goto 16, 3) := by decide +kernel
theorem d_Rep_twinOf_9 : decode b_Rep_twinOf 9 = .ok (.aload_n 0, 1) := by decide +kernel
theorem d_Rep_twinOf_10 : decode b_Rep_twinOf 10 = .ok (.aload_n 1, 1) := by decide +kernel
theorem d_Rep_twinOf_11 : decode b_Rep_twinOf 11 = .ok (.getfield 22, 3) := by decide +kernel
theorem d_Rep_twinOf_14 : decode b_Rep_twinOf 14 = .ok (.iload_n 2, 1) := by decide +kernel
theorem d_Rep_twinOf_15 : decode b_Rep_twinOf 15 = .ok (.aaload, 1) := by decide +kernel
theorem d_Rep_twinOf_16 : decode b_Rep_twinOf 16 = .ok (.getfield 84, 3) := by decide +kernel
theorem d_Rep_twinOf_19 : decode b_Rep_twinOf 19 = .ok (.invokevirtual 88, 3) := by decide +kernel
theorem d_Rep_twinOf_22 : decode b_Rep_twinOf 22 = .ok (.ireturn, 1) := by decide +kernel
theorem d_Rep_undo_0 : decode b_Rep_undo 0 = .ok (.aload_n 0, 1) := by decide +kernel
theorem d_Rep_undo_1 : decode b_Rep_undo 1 = .ok (.getfield 14, 3) := by decide +kernel
theorem d_Rep_undo_4 : decode b_Rep_undo 4 = .ok (.aload_n 0, 1) := by decide +kernel
theorem d_Rep_undo_5 : decode b_Rep_undo 5 = .ok (.getfield 65, 3) := by decide +kernel
theorem d_Rep_undo_8 : decode b_Rep_undo 8 = .ok (.invokevirtual 71, 3) := by decide +kernel
theorem d_Rep_undo_11 : decode b_Rep_undo 11 = .ok (.aload_n 0, 1) := by decide +kernel
theorem d_Rep_undo_12 : decode b_Rep_undo 12 = .ok (.aload_n 0, 1) := by decide +kernel
theorem d_Rep_undo_13 : decode b_Rep_undo 13 = .ok (.getfield 68, 3) := by decide +kernel
theorem d_Rep_undo_16 : decode b_Rep_undo 16 = .ok (.putfield 27, 3) := by decide +kernel
theorem d_Rep_undo_19 : decode b_Rep_undo 19 = .ok (.aload_n 0, 1) := by decide +kernel
theorem d_Rep_undo_20 : decode b_Rep_undo 20 = .ok (.iconst 0, 1) := by decide +kernel
theorem d_Rep_undo_21 : decode b_Rep_undo 21 = .ok (.putfield 31, 3) := by decide +kernel
theorem d_Rep_undo_24 : decode b_Rep_undo 24 = .ok (.aload_n 0, 1) := by decide +kernel
theorem d_Rep_undo_25 : decode b_Rep_undo 25 = .ok (.iload_n 1, 1) := by decide +kernel
theorem d_Rep_undo_26 : decode b_Rep_undo 26 = .ok (.putfield 38, 3) := by decide +kernel
theorem d_Rep_undo_29 : decode b_Rep_undo 29 = .ok (.return_, 1) := by decide +kernel
theorem d_Row_add_0 : decode b_Row_add 0 = .ok (.aload_n 0, 1) := by decide +kernel
theorem d_Row_add_1 : decode b_Row_add 1 = .ok (.iconst 1, 1) := by decide +kernel
theorem d_Row_add_2 : decode b_Row_add 2 = .ok (.invokevirtual 21, 3) := by decide +kernel
theorem d_Row_add_5 : decode b_Row_add 5 = .ok (.ifCond .ne 5, 3) := by decide +kernel
theorem d_Row_add_8 : decode b_Row_add 8 = .ok (.iconst 0, 1) := by decide +kernel
theorem d_Row_add_9 : decode b_Row_add 9 = .ok (.ireturn, 1) := by decide +kernel
theorem d_Row_add_10 : decode b_Row_add 10 = .ok (.aload_n 0, 1) := by decide +kernel
theorem d_Row_add_11 : decode b_Row_add 11 = .ok (.getfield 7, 3) := by decide +kernel
theorem d_Row_add_14 : decode b_Row_add 14 = .ok (.aload_n 0, 1) := by decide +kernel
theorem d_Row_add_15 : decode b_Row_add 15 = .ok (.getfield 13, 3) := by decide +kernel
theorem d_Row_add_18 : decode b_Row_add 18 = .ok (.iload_n 1, 1) := by decide +kernel
theorem d_Row_add_19 : decode b_Row_add 19 = .ok (.iastore, 1) := by decide +kernel
theorem d_Row_add_20 : decode b_Row_add 20 = .ok (.aload_n 0, 1) := by decide +kernel
theorem d_Row_add_21 : decode b_Row_add 21 = .ok (.dup, 1) := by decide +kernel
theorem d_Row_add_22 : decode b_Row_add 22 = .ok (.getfield 13, 3) := by decide +kernel
theorem d_Row_add_25 : decode b_Row_add 25 = .ok (.iconst 1, 1) := by decide +kernel
theorem d_Row_add_26 : decode b_Row_add 26 = .ok (.iadd, 1) := by decide +kernel
theorem d_Row_add_27 : decode b_Row_add 27 = .ok (.putfield 13, 3) := by decide +kernel
theorem d_Row_add_30 : decode b_Row_add 30 = .ok (.iconst 1, 1) := by decide +kernel
theorem d_Row_add_31 : decode b_Row_add 31 = .ok (.ireturn, 1) := by decide +kernel
theorem d_Row_addPart_0 : decode b_Row_addPart 0 = .ok (.aload_n 0, 1) := by decide +kernel
theorem d_Row_addPart_1 : decode b_Row_addPart 1 = .ok (.iload_n 3, 1) := by decide +kernel
theorem d_Row_addPart_2 : decode b_Row_addPart 2 = .ok (.invokevirtual 21, 3) := by decide +kernel
theorem d_Row_addPart_5 : decode b_Row_addPart 5 = .ok (.ifCond .eq 17, 3) := by decide +kernel
theorem d_Row_addPart_8 : decode b_Row_addPart 8 = .ok (.iload_n 2, 1) := by decide +kernel
theorem d_Row_addPart_9 : decode b_Row_addPart 9 = .ok (.ifCond .lt 13, 3) := by decide +kernel
theorem d_Row_addPart_12 : decode b_Row_addPart 12 = .ok (.iload_n 3, 1) := by decide +kernel
theorem d_Row_addPart_13 : decode b_Row_addPart 13 = .ok (.aload_n 1, 1) := by decide +kernel
theorem d_Row_addPart_14 : decode b_Row_addPart 14 = .ok (.getfield 13, 3) := by decide +kernel
theorem d_Row_addPart_17 : decode b_Row_addPart 17 = .ok (.iload_n 2, 1) := by decide +kernel
theorem d_Row_addPart_18 : decode b_Row_addPart 18 = .ok (.isub, 1) := by decide +kernel
theorem d_Row_addPart_19 : decode b_Row_addPart 19 = .ok (.if_icmp .le 5, 3) := by decide +kernel
theorem d_Row_addPart_22 : decode b_Row_addPart 22 = .ok (.iconst 0, 1) := by decide +kernel
theorem d_Row_addPart_23 : decode b_Row_addPart 23 = .ok (.ireturn, 1) := by decide +kernel
theorem d_Row_addPart_24 : decode b_Row_addPart 24 = .ok (.aload_n 1, 1) := by decide +kernel
theorem d_Row_addPart_25 : decode b_Row_addPart 25 = .ok (.getfield 7, 3) := by decide +kernel
theorem d_Row_addPart_28 : decode b_Row_addPart 28 = .ok (.iload_n 2, 1) := by decide +kernel
theorem d_Row_addPart_29 : decode b_Row_addPart 29 = .ok (.aload_n 0, 1) := by decide +kernel
theorem d_Row_addPart_30 : decode b_Row_addPart 30 = .ok (.getfield 7, 3) := by decide +kernel
theorem d_Row_addPart_33 : decode b_Row_addPart 33 = .ok (.aload_n 0, 1) := by decide +kernel
theorem d_Row_addPart_34 : decode b_Row_addPart 34 = .ok (.getfield 13, 3) := by decide +kernel
theorem d_Row_addPart_37 : decode b_Row_addPart 37 = .ok (.iload_n 3, 1) := by decide +kernel
theorem d_Row_addPart_38 : decode b_Row_addPart 38 = .ok (.invokestatic 30, 3) := by decide +kernel
theorem d_Row_addPart_41 : decode b_Row_addPart 41 = .ok (.aload_n 0, 1) := by decide +kernel
theorem d_Row_addPart_42 : decode b_Row_addPart 42 = .ok (.dup, 1) := by decide +kernel
theorem d_Row_addPart_43 : decode b_Row_addPart 43 = .ok (.getfield 13, 3) := by decide +kernel
theorem d_Row_addPart_46 : decode b_Row_addPart 46 = .ok (.iload_n 3, 1) := by decide +kernel
theorem d_Row_addPart_47 : decode b_Row_addPart 47 = .ok (.iadd, 1) := by decide +kernel
theorem d_Row_addPart_48 : decode b_Row_addPart 48 = .ok (.putfield 13, 3) := by decide +kernel
theorem d_Row_addPart_51 : decode b_Row_addPart 51 = .ok (.iconst 1, 1) := by decide +kernel
theorem d_Row_addPart_52 : decode b_Row_addPart 52 = .ok (.ireturn, 1) := by decide +kernel
theorem d_Row_addRun_0 : decode b_Row_addRun 0 = .ok (.aload_n 0, 1) := by decide +kernel
theorem d_Row_addRun_1 : decode b_Row_addRun 1 = .ok (.iload_n 2, 1) := by decide +kernel
theorem d_Row_addRun_2 : decode b_Row_addRun 2 = .ok (.invokevirtual 21, 3) := by decide +kernel
theorem d_Row_addRun_5 : decode b_Row_addRun 5 = .ok (.ifCond .ne 5, 3) := by decide +kernel
theorem d_Row_addRun_8 : decode b_Row_addRun 8 = .ok (.iconst 0, 1) := by decide +kernel
theorem d_Row_addRun_9 : decode b_Row_addRun 9 = .ok (.ireturn, 1) := by decide +kernel
theorem d_Row_addRun_10 : decode b_Row_addRun 10 = .ok (.aload_n 0, 1) := by decide +kernel
theorem d_Row_addRun_11 : decode b_Row_addRun 11 = .ok (.getfield 7, 3) := by decide +kernel
theorem d_Row_addRun_14 : decode b_Row_addRun 14 = .ok (.aload_n 0, 1) := by decide +kernel
theorem d_Row_addRun_15 : decode b_Row_addRun 15 = .ok (.getfield 13, 3) := by decide +kernel
theorem d_Row_addRun_18 : decode b_Row_addRun 18 = .ok (.aload_n 0, 1) := by decide +kernel
theorem d_Row_addRun_19 : decode b_Row_addRun 19 = .ok (.getfield 13, 3) := by decide +kernel
theorem d_Row_addRun_22 : decode b_Row_addRun 22 = .ok (.iload_n 2, 1) := by decide +kernel
theorem d_Row_addRun_23 : decode b_Row_addRun 23 = .ok (.iadd, 1) := by decide +kernel
theorem d_Row_addRun_24 : decode b_Row_addRun 24 = .ok (.iload_n 1, 1) := by decide +kernel
theorem d_Row_addRun_25 : decode b_Row_addRun 25 = .ok (.invokestatic 24, 3) := by decide +kernel
theorem d_Row_addRun_28 : decode b_Row_addRun 28 = .ok (.aload_n 0, 1) := by decide +kernel
theorem d_Row_addRun_29 : decode b_Row_addRun 29 = .ok (.dup, 1) := by decide +kernel
theorem d_Row_addRun_30 : decode b_Row_addRun 30 = .ok (.getfield 13, 3) := by decide +kernel
theorem d_Row_addRun_33 : decode b_Row_addRun 33 = .ok (.iload_n 2, 1) := by decide +kernel
theorem d_Row_addRun_34 : decode b_Row_addRun 34 = .ok (.iadd, 1) := by decide +kernel
theorem d_Row_addRun_35 : decode b_Row_addRun 35 = .ok (.putfield 13, 3) := by decide +kernel
theorem d_Row_addRun_38 : decode b_Row_addRun 38 = .ok (.iconst 1, 1) := by decide +kernel
theorem d_Row_addRun_39 : decode b_Row_addRun 39 = .ok (.ireturn, 1) := by decide +kernel
theorem d_Row_at_0 : decode b_Row_at 0 = .ok (.aload_n 0, 1) := by decide +kernel
theorem d_Row_at_1 : decode b_Row_at 1 = .ok (.iload_n 1, 1) := by decide +kernel
theorem d_Row_at_2 : decode b_Row_at 2 = .ok (.invokevirtual 17, 3) := by decide +kernel
theorem d_Row_at_5 : decode b_Row_at 5 = .ok (.ifCond .eq 12, 3) := by decide +kernel
theorem d_Row_at_8 : decode b_Row_at 8 = .ok (.aload_n 0, 1) := by decide +kernel
theorem d_Row_at_9 : decode b_Row_at 9 = .ok (.getfield 7, 3) := by decide +kernel
theorem d_Row_at_12 : decode b_Row_at 12 = .ok (.iload_n 1, 1) := by decide +kernel
theorem d_Row_at_13 : decode b_Row_at 13 = .ok (.iaload, 1) := by decide +kernel
theorem d_Row_at_14 : decode b_Row_at 14 = .ok (.goto 4, 3) := by decide +kernel
theorem d_Row_at_17 : decode b_Row_at 17 = .ok (.iconst 0, 1) := by decide +kernel
theorem d_Row_at_18 : decode b_Row_at 18 = .ok (.ireturn, 1) := by decide +kernel
theorem d_Row_become_0 : decode b_Row_become 0 = .ok (.aload_n 0, 1) := by decide +kernel
theorem d_Row_become_1 : decode b_Row_become 1 = .ok (.iconst 0, 1) := by decide +kernel
theorem d_Row_become_2 : decode b_Row_become 2 = .ok (.putfield 13, 3) := by decide +kernel
theorem d_Row_become_5 : decode b_Row_become 5 = .ok (.aload_n 0, 1) := by decide +kernel
theorem d_Row_become_6 : decode b_Row_become 6 = .ok (.aload_n 1, 1) := by decide +kernel
theorem d_Row_become_7 : decode b_Row_become 7 = .ok (.iconst 0, 1) := by decide +kernel
theorem d_Row_become_8 : decode b_Row_become 8 = .ok (.aload_n 1, 1) := by decide +kernel
theorem d_Row_become_9 : decode b_Row_become 9 = .ok (.getfield 13, 3) := by decide +kernel
theorem d_Row_become_12 : decode b_Row_become 12 = .ok (.invokevirtual 36, 3) := by decide +kernel
theorem d_Row_become_15 : decode b_Row_become 15 = .ok (.pop, 1) := by decide +kernel
theorem d_Row_become_16 : decode b_Row_become 16 = .ok (.return_, 1) := by decide +kernel
theorem d_Row_cut_0 : decode b_Row_cut 0 = .ok (.iload_n 1, 1) := by decide +kernel
theorem d_Row_cut_1 : decode b_Row_cut 1 = .ok (.ifCond .lt 16, 3) := by decide +kernel
theorem d_Row_cut_4 : decode b_Row_cut 4 = .ok (.iload_n 1, 1) := by decide +kernel
theorem d_Row_cut_5 : decode b_Row_cut 5 = .ok (.aload_n 0, 1) := by decide +kernel
theorem d_Row_cut_6 : decode b_Row_cut 6 = .ok (.getfield 13, 3) := by decide +kernel
theorem d_Row_cut_9 : decode b_Row_cut 9 = .ok (.if_icmp .ge 8, 3) := by decide +kernel
theorem d_Row_cut_12 : decode b_Row_cut 12 = .ok (.aload_n 0, 1) := by decide +kernel
theorem d_Row_cut_13 : decode b_Row_cut 13 = .ok (.iload_n 1, 1) := by decide +kernel
theorem d_Row_cut_14 : decode b_Row_cut 14 = .ok (.putfield 13, 3) := by decide +kernel
theorem d_Row_cut_17 : decode b_Row_cut 17 = .ok (.return_, 1) := by decide +kernel
theorem d_Row_flip_0 : decode b_Row_flip 0 = .ok (.aload_n 0, 1) := by decide +kernel
theorem d_Row_flip_1 : decode b_Row_flip 1 = .ok (.iload_n 1, 1) := by decide +kernel
theorem d_Row_flip_2 : decode b_Row_flip 2 = .ok (.invokevirtual 17, 3) := by decide +kernel
theorem d_Row_flip_5 : decode b_Row_flip 5 = .ok (.ifCond .eq 13, 3) := by decide +kernel
theorem d_Row_flip_8 : decode b_Row_flip 8 = .ok (.aload_n 0, 1) := by decide +kernel
theorem d_Row_flip_9 : decode b_Row_flip 9 = .ok (.getfield 7, 3) := by decide +kernel
theorem d_Row_flip_12 : decode b_Row_flip 12 = .ok (.iload_n 1, 1) := by decide +kernel
theorem d_Row_flip_13 : decode b_Row_flip 13 = .ok (.dup2, 1) := by decide +kernel
theorem d_Row_flip_14 : decode b_Row_flip 14 = .ok (.iaload, 1) := by decide +kernel
theorem d_Row_flip_15 : decode b_Row_flip 15 = .ok (.iload_n 2, 1) := by decide +kernel
theorem d_Row_flip_16 : decode b_Row_flip 16 = .ok (.ixor, 1) := by decide +kernel
theorem d_Row_flip_17 : decode b_Row_flip 17 = .ok (.iastore, 1) := by decide +kernel
theorem d_Row_flip_18 : decode b_Row_flip 18 = .ok (.return_, 1) := by decide +kernel
theorem d_Row_has_0 : decode b_Row_has 0 = .ok (.iload_n 1, 1) := by decide +kernel
theorem d_Row_has_1 : decode b_Row_has 1 = .ok (.ifCond .lt 15, 3) := by decide +kernel
theorem d_Row_has_4 : decode b_Row_has 4 = .ok (.iload_n 1, 1) := by decide +kernel
theorem d_Row_has_5 : decode b_Row_has 5 = .ok (.aload_n 0, 1) := by decide +kernel
theorem d_Row_has_6 : decode b_Row_has 6 = .ok (.getfield 13, 3) := by decide +kernel
theorem d_Row_has_9 : decode b_Row_has 9 = .ok (.if_icmp .ge 7, 3) := by decide +kernel
theorem d_Row_has_12 : decode b_Row_has 12 = .ok (.iconst 1, 1) := by decide +kernel
theorem d_Row_has_13 : decode b_Row_has 13 = .ok (.goto 4, 3) := by decide +kernel
theorem d_Row_has_16 : decode b_Row_has 16 = .ok (.iconst 0, 1) := by decide +kernel
theorem d_Row_has_17 : decode b_Row_has 17 = .ok (.ireturn, 1) := by decide +kernel
theorem d_Row_hasRoomFor_0 : decode b_Row_hasRoomFor 0 = .ok (.iload_n 1, 1) := by decide +kernel
theorem d_Row_hasRoomFor_1 : decode b_Row_hasRoomFor 1 = .ok (.ifCond .lt 21, 3) := by decide +kernel
theorem d_Row_hasRoomFor_4 : decode b_Row_hasRoomFor 4 = .ok (.iload_n 1, 1) := by decide +kernel
theorem d_Row_hasRoomFor_5 : decode b_Row_hasRoomFor 5 = .ok (.aload_n 0, 1) := by decide +kernel
theorem d_Row_hasRoomFor_6 : decode b_Row_hasRoomFor 6 = .ok (.getfield 7, 3) := by decide +kernel
theorem d_Row_hasRoomFor_9 : decode b_Row_hasRoomFor 9 = .ok (.arraylength, 1) := by decide +kernel
theorem d_Row_hasRoomFor_10 : decode b_Row_hasRoomFor 10 = .ok (.aload_n 0, 1) := by decide +kernel
theorem d_Row_hasRoomFor_11 : decode b_Row_hasRoomFor 11 = .ok (.getfield 13, 3) := by decide +kernel
theorem d_Row_hasRoomFor_14 : decode b_Row_hasRoomFor 14 = .ok (.isub, 1) := by decide +kernel
theorem d_Row_hasRoomFor_15 : decode b_Row_hasRoomFor 15 = .ok (.if_icmp .gt 7, 3) := by decide +kernel
theorem d_Row_hasRoomFor_18 : decode b_Row_hasRoomFor 18 = .ok (.iconst 1, 1) := by decide +kernel
theorem d_Row_hasRoomFor_19 : decode b_Row_hasRoomFor 19 = .ok (.goto 4, 3) := by decide +kernel
theorem d_Row_hasRoomFor_22 : decode b_Row_hasRoomFor 22 = .ok (.iconst 0, 1) := by decide +kernel
theorem d_Row_hasRoomFor_23 : decode b_Row_hasRoomFor 23 = .ok (.ireturn, 1) := by decide +kernel
theorem d_Row_init_0 : decode b_Row_init 0 = .ok (.aload_n 0, 1) := by decide +kernel
theorem d_Row_init_1 : decode b_Row_init 1 = .ok (.invokespecial 1, 3) := by decide +kernel
theorem d_Row_init_4 : decode b_Row_init 4 = .ok (.aload_n 0, 1) := by decide +kernel
theorem d_Row_init_5 : decode b_Row_init 5 = .ok (.iload_n 1, 1) := by decide +kernel
theorem d_Row_init_6 : decode b_Row_init 6 = .ok (.newarray .int, 2) := by decide +kernel
theorem d_Row_init_8 : decode b_Row_init 8 = .ok (.putfield 7, 3) := by decide +kernel
theorem d_Row_init_11 : decode b_Row_init 11 = .ok (.aload_n 0, 1) := by decide +kernel
theorem d_Row_init_12 : decode b_Row_init 12 = .ok (.iconst 0, 1) := by decide +kernel
theorem d_Row_init_13 : decode b_Row_init 13 = .ok (.putfield 13, 3) := by decide +kernel
theorem d_Row_init_16 : decode b_Row_init 16 = .ok (.return_, 1) := by decide +kernel
theorem d_Row_replace_0 : decode b_Row_replace 0 = .ok (.iload_n 1, 1) := by decide +kernel
theorem d_Row_replace_1 : decode b_Row_replace 1 = .ok (.ifCond .lt 16, 3) := by decide +kernel
theorem d_Row_replace_4 : decode b_Row_replace 4 = .ok (.iload_n 1, 1) := by decide +kernel
theorem d_Row_replace_5 : decode b_Row_replace 5 = .ok (.iload_n 2, 1) := by decide +kernel
theorem d_Row_replace_6 : decode b_Row_replace 6 = .ok (.if_icmp .gt 11, 3) := by decide +kernel
theorem d_Row_replace_9 : decode b_Row_replace 9 = .ok (.iload_n 2, 1) := by decide +kernel
theorem d_Row_replace_10 : decode b_Row_replace 10 = .ok (.aload_n 0, 1) := by decide +kernel
theorem d_Row_replace_11 : decode b_Row_replace 11 = .ok (.getfield 13, 3) := by decide +kernel
theorem d_Row_replace_14 : decode b_Row_replace 14 = .ok (.if_icmp .le 5, 3) := by decide +kernel
theorem d_Row_replace_17 : decode b_Row_replace 17 = .ok (.iconst 0, 1) := by decide +kernel
theorem d_Row_replace_18 : decode b_Row_replace 18 = .ok (.ireturn, 1) := by decide +kernel
theorem d_Row_replace_19 : decode b_Row_replace 19 = .ok (.iload 4, 2) := by decide +kernel
theorem d_Row_replace_21 : decode b_Row_replace 21 = .ok (.ifCond .lt 20, 3) := by decide +kernel
theorem d_Row_replace_24 : decode b_Row_replace 24 = .ok (.iload 5, 2) := by decide +kernel
theorem d_Row_replace_26 : decode b_Row_replace 26 = .ok (.ifCond .lt 15, 3) := by decide +kernel
theorem d_Row_replace_29 : decode b_Row_replace 29 = .ok (.iload 5, 2) := by decide +kernel
theorem d_Row_replace_31 : decode b_Row_replace 31 = .ok (.aload_n 3, 1) := by decide +kernel
theorem d_Row_replace_32 : decode b_Row_replace 32 = .ok (.getfield 13, 3) := by decide +kernel
theorem d_Row_replace_35 : decode b_Row_replace 35 = .ok (.iload 4, 2) := by decide +kernel
theorem d_Row_replace_37 : decode b_Row_replace 37 = .ok (.isub, 1) := by decide +kernel
theorem d_Row_replace_38 : decode b_Row_replace 38 = .ok (.if_icmp .le 5, 3) := by decide +kernel
theorem d_Row_replace_41 : decode b_Row_replace 41 = .ok (.iconst 0, 1) := by decide +kernel
theorem d_Row_replace_42 : decode b_Row_replace 42 = .ok (.ireturn, 1) := by decide +kernel
theorem d_Row_replace_43 : decode b_Row_replace 43 = .ok (.aload_n 0, 1) := by decide +kernel
theorem d_Row_replace_44 : decode b_Row_replace 44 = .ok (.getfield 13, 3) := by decide +kernel
theorem d_Row_replace_47 : decode b_Row_replace 47 = .ok (.iload_n 2, 1) := by decide +kernel
theorem d_Row_replace_48 : decode b_Row_replace 48 = .ok (.iload_n 1, 1) := by decide +kernel
theorem d_Row_replace_49 : decode b_Row_replace 49 = .ok (.isub, 1) := by decide +kernel
theorem d_Row_replace_50 : decode b_Row_replace 50 = .ok (.isub, 1) := by decide +kernel
theorem d_Row_replace_51 : decode b_Row_replace 51 = .ok (.iload 5, 2) := by decide +kernel
theorem d_Row_replace_53 : decode b_Row_replace 53 = .ok (.iadd, 1) := by decide +kernel
theorem d_Row_replace_54 : decode b_Row_replace 54 = .ok (.istore 6, 2) := by decide +kernel
theorem d_Row_replace_56 : decode b_Row_replace 56 = .ok (.iload 6, 2) := by decide +kernel
theorem d_Row_replace_58 : decode b_Row_replace 58 = .ok (.aload_n 0, 1) := by decide +kernel
theorem d_Row_replace_59 : decode b_Row_replace 59 = .ok (.getfield 7, 3) := by decide +kernel
theorem d_Row_replace_62 : decode b_Row_replace 62 = .ok (.arraylength, 1) := by decide +kernel
theorem d_Row_replace_63 : decode b_Row_replace 63 = .ok (.if_icmp .le 5, 3) := by decide +kernel
theorem d_Row_replace_66 : decode b_Row_replace 66 = .ok (.iconst 0, 1) := by decide +kernel
theorem d_Row_replace_67 : decode b_Row_replace 67 = .ok (.ireturn, 1) := by decide +kernel
theorem d_Row_replace_68 : decode b_Row_replace 68 = .ok (.aload_n 0, 1) := by decide +kernel
theorem d_Row_replace_69 : decode b_Row_replace 69 = .ok (.getfield 7, 3) := by decide +kernel
theorem d_Row_replace_72 : decode b_Row_replace 72 = .ok (.iload_n 2, 1) := by decide +kernel
theorem d_Row_replace_73 : decode b_Row_replace 73 = .ok (.aload_n 0, 1) := by decide +kernel
theorem d_Row_replace_74 : decode b_Row_replace 74 = .ok (.getfield 7, 3) := by decide +kernel
theorem d_Row_replace_77 : decode b_Row_replace 77 = .ok (.iload_n 1, 1) := by decide +kernel
theorem d_Row_replace_78 : decode b_Row_replace 78 = .ok (.iload 5, 2) := by decide +kernel
theorem d_Row_replace_80 : decode b_Row_replace 80 = .ok (.iadd, 1) := by decide +kernel
theorem d_Row_replace_81 : decode b_Row_replace 81 = .ok (.aload_n 0, 1) := by decide +kernel
theorem d_Row_replace_82 : decode b_Row_replace 82 = .ok (.getfield 13, 3) := by decide +kernel
theorem d_Row_replace_85 : decode b_Row_replace 85 = .ok (.iload_n 2, 1) := by decide +kernel
theorem d_Row_replace_86 : decode b_Row_replace 86 = .ok (.isub, 1) := by decide +kernel
theorem d_Row_replace_87 : decode b_Row_replace 87 = .ok (.invokestatic 30, 3) := by decide +kernel
theorem d_Row_replace_90 : decode b_Row_replace 90 = .ok (.aload_n 3, 1) := by decide +kernel
theorem d_Row_replace_91 : decode b_Row_replace 91 = .ok (.getfield 7, 3) := by decide +kernel
theorem d_Row_replace_94 : decode b_Row_replace 94 = .ok (.iload 4, 2) := by decide +kernel
theorem d_Row_replace_96 : decode b_Row_replace 96 = .ok (.aload_n 0, 1) := by decide +kernel
theorem d_Row_replace_97 : decode b_Row_replace 97 = .ok (.getfield 7, 3) := by decide +kernel
theorem d_Row_replace_100 : decode b_Row_replace 100 = .ok (.iload_n 1, 1) := by decide +kernel
theorem d_Row_replace_101 : decode b_Row_replace 101 = .ok (.iload 5, 2) := by decide +kernel
theorem d_Row_replace_103 : decode b_Row_replace 103 = .ok (.invokestatic 30, 3) := by decide +kernel
theorem d_Row_replace_106 : decode b_Row_replace 106 = .ok (.aload_n 0, 1) := by decide +kernel
theorem d_Row_replace_107 : decode b_Row_replace 107 = .ok (.iload 6, 2) := by decide +kernel
theorem d_Row_replace_109 : decode b_Row_replace 109 = .ok (.putfield 13, 3) := by decide +kernel
theorem d_Row_replace_112 : decode b_Row_replace 112 = .ok (.iconst 1, 1) := by decide +kernel
theorem d_Row_replace_113 : decode b_Row_replace 113 = .ok (.ireturn, 1) := by decide +kernel
theorem d_V_abort_0 : decode b_V_abort 0 = .ok (.aload_n 0, 1) := by decide +kernel
theorem d_V_abort_1 : decode b_V_abort 1 = .ok (.iload_n 1, 1) := by decide +kernel
theorem d_V_abort_2 : decode b_V_abort 2 = .ok (.invokevirtual 61, 3) := by decide +kernel
theorem d_V_abort_5 : decode b_V_abort 5 = .ok (.invokevirtual 80, 3) := by decide +kernel
theorem d_V_abort_8 : decode b_V_abort 8 = .ok (.ireturn, 1) := by decide +kernel
theorem d_V_append_0 : decode b_V_append 0 = .ok (.aload_n 0, 1) := by decide +kernel
theorem d_V_append_1 : decode b_V_append 1 = .ok (.iload_n 1, 1) := by decide +kernel
theorem d_V_append_2 : decode b_V_append 2 = .ok (.invokevirtual 61, 3) := by decide +kernel
theorem d_V_append_5 : decode b_V_append 5 = .ok (.astore 4, 2) := by decide +kernel
theorem d_V_append_7 : decode b_V_append 7 = .ok (.aload 4, 2) := by decide +kernel
theorem d_V_append_9 : decode b_V_append 9 = .ok (.iload_n 2, 1) := by decide +kernel
theorem d_V_append_10 : decode b_V_append 10 = .ok (.invokevirtual 64, 3) := by decide +kernel
theorem d_V_append_13 : decode b_V_append 13 = .ok (.ifCond .eq 12, 3) := by decide +kernel
theorem d_V_append_16 : decode b_V_append 16 = .ok (.aload 4, 2) := by decide +kernel
theorem d_V_append_18 : decode b_V_append 18 = .ok (.iload_n 3, 1) := by decide +kernel
theorem d_V_append_19 : decode b_V_append 19 = .ok (.invokevirtual 64, 3) := by decide +kernel
theorem d_V_append_22 : decode b_V_append 22 = .ok (.ifCond .ne 11, 3) := by decide +kernel
theorem d_V_append_25 : decode b_V_append 25 = .ok (.new 67, 3) := by decide +kernel
theorem d_V_append_28 : decode b_V_append 28 = .ok (.dup, 1) := by decide +kernel
theorem d_V_append_29 : decode b_V_append 29 = .ok (.invokespecial 69, 3) := by decide +kernel
theorem d_V_append_32 : decode b_V_append 32 = .ok (.athrow, 1) := by decide +kernel
theorem d_V_append_33 : decode b_V_append 33 = .ok (.aload 4, 2) := by decide +kernel
theorem d_V_append_35 : decode b_V_append 35 = .ok (.aload_n 0, 1) := by decide +kernel
theorem d_V_append_36 : decode b_V_append 36 = .ok (.getfield 14, 3) := by decide +kernel
theorem d_V_append_39 : decode b_V_append 39 = .ok (.iload_n 2, 1) := by decide +kernel
theorem d_V_append_40 : decode b_V_append 40 = .ok (.iload_n 3, 1) := by decide +kernel
theorem d_V_append_41 : decode b_V_append 41 = .ok (.invokevirtual 70, 3) := by decide +kernel
theorem d_V_append_44 : decode b_V_append 44 = .ok (.istore 5, 2) := by decide +kernel
theorem d_V_append_46 : decode b_V_append 46 = .ok (.iload 5, 2) := by decide +kernel
theorem d_V_append_48 : decode b_V_append 48 = .ok (.bipush (-3), 2) := by decide +kernel
theorem d_V_append_50 : decode b_V_append 50 = .ok (.if_icmp .ne 11, 3) := by decide +kernel
theorem d_V_append_53 : decode b_V_append 53 = .ok (.new 74, 3) := by decide +kernel
theorem d_V_append_56 : decode b_V_append 56 = .ok (.dup, 1) := by decide +kernel
theorem d_V_append_57 : decode b_V_append 57 = .ok (.invokespecial 76, 3) := by decide +kernel
theorem d_V_append_60 : decode b_V_append 60 = .ok (.athrow, 1) := by decide +kernel
theorem d_V_append_61 : decode b_V_append 61 = .ok (.iload 5, 2) := by decide +kernel
theorem d_V_append_63 : decode b_V_append 63 = .ok (.ireturn, 1) := by decide +kernel
theorem d_V_barTo_0 : decode b_V_barTo 0 = .ok (.iload_n 1, 1) := by decide +kernel
theorem d_V_barTo_1 : decode b_V_barTo 1 = .ok (.invokestatic 149, 3) := by decide +kernel
theorem d_V_barTo_4 : decode b_V_barTo 4 = .ok (.ifCond .ne 5, 3) := by decide +kernel
theorem d_V_barTo_7 : decode b_V_barTo 7 = .ok (.iconst (-1), 1) := by decide +kernel
theorem d_V_barTo_8 : decode b_V_barTo 8 = .ok (.ireturn, 1) := by decide +kernel
theorem d_V_barTo_9 : decode b_V_barTo 9 = .ok (.aload_n 0, 1) := by decide +kernel
theorem d_V_barTo_10 : decode b_V_barTo 10 = .ok (.getfield 20, 3) := by decide +kernel
theorem d_V_barTo_13 : decode b_V_barTo 13 = .ok (.iload_n 1, 1) := by decide +kernel
theorem d_V_barTo_14 : decode b_V_barTo 14 = .ok (.aaload, 1) := by decide +kernel
theorem d_V_barTo_15 : decode b_V_barTo 15 = .ok (.getfield 47, 3) := by decide +kernel
theorem d_V_barTo_18 : decode b_V_barTo 18 = .ok (.ifCond .eq 8, 3) := by decide +kernel
theorem d_V_barTo_21 : decode b_V_barTo 21 = .ok (.bipush (-2), 2) := by decide +kernel
theorem d_V_barTo_23 : decode b_V_barTo 23 = .ok (.goto 4, 3) := by decide +kernel
theorem d_V_barTo_26 : decode b_V_barTo 26 = .ok (.iconst 0, 1) := by decide +kernel
theorem d_V_barTo_27 : decode b_V_barTo 27 = .ok (.ireturn, 1) := by decide +kernel
theorem d_V_begin_0 : decode b_V_begin 0 = .ok (.aload_n 0, 1) := by decide +kernel
theorem d_V_begin_1 : decode b_V_begin 1 = .ok (.iload_n 1, 1) := by decide +kernel
theorem d_V_begin_2 : decode b_V_begin 2 = .ok (.invokevirtual 43, 3) := by decide +kernel
theorem d_V_begin_5 : decode b_V_begin 5 = .ok (.astore_n 2, 1) := by decide +kernel
theorem d_V_begin_6 : decode b_V_begin 6 = .ok (.aload_n 2, 1) := by decide +kernel
theorem d_V_begin_7 : decode b_V_begin 7 = .ok (.getfield 47, 3) := by decide +kernel
theorem d_V_begin_10 : decode b_V_begin 10 = .ok (.ifCond .ne 10, 3) := by decide +kernel
theorem d_V_begin_13 : decode b_V_begin 13 = .ok (.aload_n 2, 1) := by decide +kernel
theorem d_V_begin_14 : decode b_V_begin 14 = .ok (.getfield 51, 3) := by decide +kernel
theorem d_V_begin_17 : decode b_V_begin 17 = .ok (.ifCond .eq 11, 3) := by decide +kernel
theorem d_V_begin_20 : decode b_V_begin 20 = .ok (.new 54, 3) := by decide +kernel
theorem d_V_begin_23 : decode b_V_begin 23 = .ok (.dup, 1) := by decide +kernel
theorem d_V_begin_24 : decode b_V_begin 24 = .ok (.invokespecial 56, 3) := by decide +kernel
theorem d_V_begin_27 : decode b_V_begin 27 = .ok (.athrow, 1) := by decide +kernel
theorem d_V_begin_28 : decode b_V_begin 28 = .ok (.aload_n 2, 1) := by decide +kernel
theorem d_V_begin_29 : decode b_V_begin 29 = .ok (.invokevirtual 57, 3) := by decide +kernel
theorem d_V_begin_32 : decode b_V_begin 32 = .ok (.ifCond .eq 7, 3) := by decide +kernel
theorem d_V_begin_35 : decode b_V_begin 35 = .ok (.iconst 0, 1) := by decide +kernel
theorem d_V_begin_36 : decode b_V_begin 36 = .ok (.goto 5, 3) := by decide +kernel
theorem d_V_begin_39 : decode b_V_begin 39 = .ok (.bipush (-2), 2) := by decide +kernel
theorem d_V_begin_41 : decode b_V_begin 41 = .ok (.ireturn, 1) := by decide +kernel
theorem d_V_byteAt_0 : decode b_V_byteAt 0 = .ok (.lload_n 0, 1) := by decide +kernel
theorem d_V_byteAt_1 : decode b_V_byteAt 1 = .ok (.iload_n 2, 1) := by decide +kernel
theorem d_V_byteAt_2 : decode b_V_byteAt 2 = .ok (.lushr, 1) := by decide +kernel
theorem d_V_byteAt_3 : decode b_V_byteAt 3 = .ok (.l2i, 1) := by decide +kernel
theorem d_V_byteAt_4 : decode b_V_byteAt 4 = .ok (.sipush 255, 3) := by decide +kernel
theorem d_V_byteAt_7 : decode b_V_byteAt 7 = .ok (.iand, 1) := by decide +kernel
theorem d_V_byteAt_8 : decode b_V_byteAt 8 = .ok (.ireturn, 1) := by decide +kernel
theorem d_V_commit_0 : decode b_V_commit 0 = .ok (.aload_n 0, 1) := by decide +kernel
theorem d_V_commit_1 : decode b_V_commit 1 = .ok (.iload_n 1, 1) := by decide +kernel
theorem d_V_commit_2 : decode b_V_commit 2 = .ok (.invokevirtual 61, 3) := by decide +kernel
theorem d_V_commit_5 : decode b_V_commit 5 = .ok (.invokevirtual 77, 3) := by decide +kernel
theorem d_V_commit_8 : decode b_V_commit 8 = .ok (.ifCond .eq 7, 3) := by decide +kernel
theorem d_V_commit_11 : decode b_V_commit 11 = .ok (.iconst 0, 1) := by decide +kernel
theorem d_V_commit_12 : decode b_V_commit 12 = .ok (.goto 5, 3) := by decide +kernel
theorem d_V_commit_15 : decode b_V_commit 15 = .ok (.bipush (-2), 2) := by decide +kernel
theorem d_V_commit_17 : decode b_V_commit 17 = .ok (.ireturn, 1) := by decide +kernel
theorem d_V_common_0 : decode b_V_common 0 = .ok (.aload_n 0, 1) := by decide +kernel
theorem d_V_common_1 : decode b_V_common 1 = .ok (.iload_n 1, 1) := by decide +kernel
theorem d_V_common_2 : decode b_V_common 2 = .ok (.invokevirtual 84, 3) := by decide +kernel
theorem d_V_common_5 : decode b_V_common 5 = .ok (.istore 4, 2) := by decide +kernel
theorem d_V_common_7 : decode b_V_common 7 = .ok (.iload 4, 2) := by decide +kernel
theorem d_V_common_9 : decode b_V_common 9 = .ok (.ifCond .eq 6, 3) := by decide +kernel
theorem d_V_common_12 : decode b_V_common 12 = .ok (.iload 4, 2) := by decide +kernel
theorem d_V_common_14 : decode b_V_common 14 = .ok (.ireturn, 1) := by decide +kernel
theorem d_V_common_15 : decode b_V_common 15 = .ok (.aload_n 0, 1) := by decide +kernel
theorem d_V_common_16 : decode b_V_common 16 = .ok (.getfield 20, 3) := by decide +kernel
theorem d_V_common_19 : decode b_V_common 19 = .ok (.iload_n 1, 1) := by decide +kernel
theorem d_V_common_20 : decode b_V_common 20 = .ok (.aaload, 1) := by decide +kernel
theorem d_V_common_21 : decode b_V_common 21 = .ok (.astore 5, 2) := by decide +kernel
theorem d_V_common_23 : decode b_V_common 23 = .ok (.aload 5, 2) := by decide +kernel
theorem d_V_common_25 : decode b_V_common 25 = .ok (.iload_n 2, 1) := by decide +kernel
theorem d_V_common_26 : decode b_V_common 26 = .ok (.invokevirtual 101, 3) := by decide +kernel
theorem d_V_common_29 : decode b_V_common 29 = .ok (.ifCond .eq 12, 3) := by decide +kernel
theorem d_V_common_32 : decode b_V_common 32 = .ok (.aload 5, 2) := by decide +kernel
theorem d_V_common_34 : decode b_V_common 34 = .ok (.iload_n 3, 1) := by decide +kernel
theorem d_V_common_35 : decode b_V_common 35 = .ok (.invokevirtual 101, 3) := by decide +kernel
theorem d_V_common_38 : decode b_V_common 38 = .ok (.ifCond .ne 5, 3) := by decide +kernel
theorem d_V_common_41 : decode b_V_common 41 = .ok (.iconst (-1), 1) := by decide +kernel
theorem d_V_common_42 : decode b_V_common 42 = .ok (.ireturn, 1) := by decide +kernel
theorem d_V_common_43 : decode b_V_common 43 = .ok (.aload 5, 2) := by decide +kernel
theorem d_V_common_45 : decode b_V_common 45 = .ok (.iload_n 2, 1) := by decide +kernel
theorem d_V_common_46 : decode b_V_common 46 = .ok (.iload_n 3, 1) := by decide +kernel
theorem d_V_common_47 : decode b_V_common 47 = .ok (.invokevirtual 145, 3) := by decide +kernel
theorem d_V_common_50 : decode b_V_common 50 = .ok (.ireturn, 1) := by decide +kernel
theorem d_V_damage_0 : decode b_V_damage 0 = .ok (.aload_n 0, 1) := by decide +kernel
theorem d_V_damage_1 : decode b_V_damage 1 = .ok (.iload_n 1, 1) := by decide +kernel
theorem d_V_damage_2 : decode b_V_damage 2 = .ok (.invokevirtual 84, 3) := by decide +kernel
theorem d_V_damage_5 : decode b_V_damage 5 = .ok (.ifCond .ne 31, 3) := by decide +kernel
theorem d_V_damage_8 : decode b_V_damage 8 = .ok (.iload_n 3, 1) := by decide +kernel
theorem d_V_damage_9 : decode b_V_damage 9 = .ok (.iconst 1, 1) := by decide +kernel
theorem d_V_damage_10 : decode b_V_damage 10 = .ok (.if_icmp .lt 26, 3) := by decide +kernel
theorem d_V_damage_13 : decode b_V_damage 13 = .ok (.iload_n 3, 1) := by decide +kernel
theorem d_V_damage_14 : decode b_V_damage 14 = .ok (.sipush 255, 3) := by decide +kernel
theorem d_V_damage_17 : decode b_V_damage 17 = .ok (.if_icmp .gt 19, 3) := by decide +kernel
theorem d_V_damage_20 : decode b_V_damage 20 = .ok (.aload_n 0, 1) := by decide +kernel
theorem d_V_damage_21 : decode b_V_damage 21 = .ok (.getfield 20, 3) := by decide +kernel
theorem d_V_damage_24 : decode b_V_damage 24 = .ok (.iload_n 1, 1) := by decide +kernel
theorem d_V_damage_25 : decode b_V_damage 25 = .ok (.aaload, 1) := by decide +kernel
theorem d_V_damage_26 : decode b_V_damage 26 = .ok (.getfield 129, 3) := by decide +kernel
theorem d_V_damage_29 : decode b_V_damage 29 = .ok (.iload_n 2, 1) := by decide +kernel
theorem d_V_damage_30 : decode b_V_damage 30 = .ok (.invokevirtual 132, 3) := by decide +kernel
theorem d_V_damage_33 : decode b_V_damage 33 = .ok (.ifCond .ne 5, 3) := by decide +kernel
theorem d_V_damage_36 : decode b_V_damage 36 = .ok (.iconst 0, 1) := by decide +kernel
theorem d_V_damage_37 : decode b_V_damage 37 = .ok (.ireturn, 1) := by decide +kernel
theorem d_V_damage_38 : decode b_V_damage 38 = .ok (.aload_n 0, 1) := by decide +kernel
theorem d_V_damage_39 : decode b_V_damage 39 = .ok (.getfield 20, 3) := by decide +kernel
theorem d_V_damage_42 : decode b_V_damage 42 = .ok (.iload_n 1, 1) := by decide +kernel
theorem d_V_damage_43 : decode b_V_damage 43 = .ok (.aaload, 1) := by decide +kernel
theorem d_V_damage_44 : decode b_V_damage 44 = .ok (.getfield 129, 3) := by decide +kernel
theorem d_V_damage_47 : decode b_V_damage 47 = .ok (.iload_n 2, 1) := by decide +kernel
theorem d_V_damage_48 : decode b_V_damage 48 = .ok (.iload_n 3, 1) := by decide +kernel
theorem d_V_damage_49 : decode b_V_damage 49 = .ok (.invokevirtual 135, 3) := by decide +kernel
theorem d_V_damage_52 : decode b_V_damage 52 = .ok (.iconst 1, 1) := by decide +kernel
theorem d_V_damage_53 : decode b_V_damage 53 = .ok (.ireturn, 1) := by decide +kernel
theorem d_V_data_0 : decode b_V_data 0 = .ok (.aload_n 0, 1) := by decide +kernel
theorem d_V_data_1 : decode b_V_data 1 = .ok (.iload_n 1, 1) := by decide +kernel
theorem d_V_data_2 : decode b_V_data 2 = .ok (.invokevirtual 84, 3) := by decide +kernel
theorem d_V_data_5 : decode b_V_data 5 = .ok (.istore_n 3, 1) := by decide +kernel
theorem d_V_data_6 : decode b_V_data 6 = .ok (.iload_n 3, 1) := by decide +kernel
theorem d_V_data_7 : decode b_V_data 7 = .ok (.ifCond .eq 5, 3) := by decide +kernel
theorem d_V_data_10 : decode b_V_data 10 = .ok (.iload_n 3, 1) := by decide +kernel
theorem d_V_data_11 : decode b_V_data 11 = .ok (.ireturn, 1) := by decide +kernel
theorem d_V_data_12 : decode b_V_data 12 = .ok (.aload_n 0, 1) := by decide +kernel
theorem d_V_data_13 : decode b_V_data 13 = .ok (.getfield 20, 3) := by decide +kernel
theorem d_V_data_16 : decode b_V_data 16 = .ok (.iload_n 1, 1) := by decide +kernel
theorem d_V_data_17 : decode b_V_data 17 = .ok (.aaload, 1) := by decide +kernel
theorem d_V_data_18 : decode b_V_data 18 = .ok (.getfield 129, 3) := by decide +kernel
theorem d_V_data_21 : decode b_V_data 21 = .ok (.astore 4, 2) := by decide +kernel
theorem d_V_data_23 : decode b_V_data 23 = .ok (.iload_n 2, 1) := by decide +kernel
theorem d_V_data_24 : decode b_V_data 24 = .ok (.iconst (-1), 1) := by decide +kernel
theorem d_V_data_25 : decode b_V_data 25 = .ok (.if_icmp .ne 9, 3) := by decide +kernel
theorem d_V_data_28 : decode b_V_data 28 = .ok (.aload 4, 2) := by decide +kernel
theorem d_V_data_30 : decode b_V_data 30 = .ok (.getfield 33, 3) := by decide +kernel
theorem d_V_data_33 : decode b_V_data 33 = .ok (.ireturn, 1) := by decide +kernel
theorem d_V_data_34 : decode b_V_data 34 = .ok (.aload 4, 2) := by decide +kernel
theorem d_V_data_36 : decode b_V_data 36 = .ok (.iload_n 2, 1) := by decide +kernel
theorem d_V_data_37 : decode b_V_data 37 = .ok (.invokevirtual 132, 3) := by decide +kernel
theorem d_V_data_40 : decode b_V_data 40 = .ok (.ifCond .eq 12, 3) := by decide +kernel
theorem d_V_data_43 : decode b_V_data 43 = .ok (.aload 4, 2) := by decide +kernel
theorem d_V_data_45 : decode b_V_data 45 = .ok (.iload_n 2, 1) := by decide +kernel
theorem d_V_data_46 : decode b_V_data 46 = .ok (.invokevirtual 110, 3) := by decide +kernel
theorem d_V_data_49 : decode b_V_data 49 = .ok (.goto 4, 3) := by decide +kernel
theorem d_V_data_52 : decode b_V_data 52 = .ok (.iconst (-1), 1) := by decide +kernel
theorem d_V_data_53 : decode b_V_data 53 = .ok (.ireturn, 1) := by decide +kernel
theorem d_V_fail_0 : decode b_V_fail 0 = .ok (.aload_n 0, 1) := by decide +kernel
theorem d_V_fail_1 : decode b_V_fail 1 = .ok (.iload_n 1, 1) := by decide +kernel
theorem d_V_fail_2 : decode b_V_fail 2 = .ok (.invokevirtual 84, 3) := by decide +kernel
theorem d_V_fail_5 : decode b_V_fail 5 = .ok (.ifCond .ne 13, 3) := by decide +kernel
theorem d_V_fail_8 : decode b_V_fail 8 = .ok (.iload_n 2, 1) := by decide +kernel
theorem d_V_fail_9 : decode b_V_fail 9 = .ok (.ifCond .lt 9, 3) := by decide +kernel
theorem d_V_fail_12 : decode b_V_fail 12 = .ok (.iload_n 2, 1) := by decide +kernel
theorem d_V_fail_13 : decode b_V_fail 13 = .ok (.bipush 100, 2) := by decide +kernel
theorem d_V_fail_15 : decode b_V_fail 15 = .ok (.if_icmp .le 5, 3) := by decide +kernel
theorem d_V_fail_18 : decode b_V_fail 18 = .ok (.iconst 0, 1) := by decide +kernel
theorem d_V_fail_19 : decode b_V_fail 19 = .ok (.ireturn, 1) := by decide +kernel
theorem d_V_fail_20 : decode b_V_fail 20 = .ok (.aload_n 0, 1) := by decide +kernel
theorem d_V_fail_21 : decode b_V_fail 21 = .ok (.getfield 20, 3) := by decide +kernel
theorem d_V_fail_24 : decode b_V_fail 24 = .ok (.iload_n 1, 1) := by decide +kernel
theorem d_V_fail_25 : decode b_V_fail 25 = .ok (.aaload, 1) := by decide +kernel
theorem d_V_fail_26 : decode b_V_fail 26 = .ok (.iload_n 2, 1) := by decide +kernel
theorem d_V_fail_27 : decode b_V_fail 27 = .ok (.putfield 88, 3) := by decide +kernel
theorem d_V_fail_30 : decode b_V_fail 30 = .ok (.iconst 1, 1) := by decide +kernel
theorem d_V_fail_31 : decode b_V_fail 31 = .ok (.ireturn, 1) := by decide +kernel
theorem d_V_heads_0 : decode b_V_heads 0 = .ok (.aload_n 0, 1) := by decide +kernel
theorem d_V_heads_1 : decode b_V_heads 1 = .ok (.iload_n 1, 1) := by decide +kernel
theorem d_V_heads_2 : decode b_V_heads 2 = .ok (.invokevirtual 84, 3) := by decide +kernel
theorem d_V_heads_5 : decode b_V_heads 5 = .ok (.istore_n 2, 1) := by decide +kernel
theorem d_V_heads_6 : decode b_V_heads 6 = .ok (.iload_n 2, 1) := by decide +kernel
theorem d_V_heads_7 : decode b_V_heads 7 = .ok (.ifCond .eq 7, 3) := by decide +kernel
theorem d_V_heads_10 : decode b_V_heads 10 = .ok (.iload_n 2, 1) := by decide +kernel
theorem d_V_heads_11 : decode b_V_heads 11 = .ok (.goto 12, 3) := by decide +kernel
theorem d_V_heads_14 : decode b_V_heads 14 = .ok (.aload_n 0, 1) := by decide +kernel
theorem d_V_heads_15 : decode b_V_heads 15 = .ok (.getfield 20, 3) := by decide +kernel
theorem d_V_heads_18 : decode b_V_heads 18 = .ok (.iload_n 1, 1) := by decide +kernel
theorem d_V_heads_19 : decode b_V_heads 19 = .ok (.aaload, 1) := by decide +kernel
theorem d_V_heads_20 : decode b_V_heads 20 = .ok (.invokevirtual 142, 3) := by decide +kernel
theorem d_V_heads_23 : decode b_V_heads 23 = .ok (.ireturn, 1) := by decide +kernel
theorem d_V_init_0 : decode b_V_init 0 = .ok (.aload_n 0, 1) := by decide +kernel
theorem d_V_init_1 : decode b_V_init 1 = .ok (.invokespecial 3, 3) := by decide +kernel
theorem d_V_init_4 : decode b_V_init 4 = .ok (.aload_n 0, 1) := by decide +kernel
theorem d_V_init_5 : decode b_V_init 5 = .ok (.new 9, 3) := by decide +kernel
theorem d_V_init_8 : decode b_V_init 8 = .ok (.dup, 1) := by decide +kernel
theorem d_V_init_9 : decode b_V_init 9 = .ok (.bipush 60, 2) := by decide +kernel
theorem d_V_init_11 : decode b_V_init 11 = .ok (.invokespecial 11, 3) := by decide +kernel
theorem d_V_init_14 : decode b_V_init 14 = .ok (.putfield 14, 3) := by decide +kernel
theorem d_V_init_17 : decode b_V_init 17 = .ok (.aload_n 0, 1) := by decide +kernel
theorem d_V_init_18 : decode b_V_init 18 = .ok (.iconst 2, 1) := by decide +kernel
theorem d_V_init_19 : decode b_V_init 19 = .ok (.anewarray 18, 3) := by decide +kernel
theorem d_V_init_22 : decode b_V_init 22 = .ok (.putfield 20, 3) := by decide +kernel
theorem d_V_init_25 : decode b_V_init 25 = .ok (.iconst 0, 1) := by decide +kernel
theorem d_V_init_26 : decode b_V_init 26 = .ok (.istore_n 1, 1) := by decide +kernel
theorem d_V_init_27 : decode b_V_init 27 = .ok (.iload_n 1, 1) := by decide +kernel
theorem d_V_init_28 : decode b_V_init 28 = .ok (.iconst 2, 1) := by decide +kernel
theorem d_V_init_29 : decode b_V_init 29 = .ok (.if_icmp .ge 22, 3) := by decide +kernel
theorem d_V_init_32 : decode b_V_init 32 = .ok (.aload_n 0, 1) := by decide +kernel
theorem d_V_init_33 : decode b_V_init 33 = .ok (.getfield 20, 3) := by decide +kernel
theorem d_V_init_36 : decode b_V_init 36 = .ok (.iload_n 1, 1) := by decide +kernel
theorem d_V_init_37 : decode b_V_init 37 = .ok (.new 18, 3) := by decide +kernel
theorem d_V_init_40 : decode b_V_init 40 = .ok (.dup, 1) := by decide +kernel
theorem d_V_init_41 : decode b_V_init 41 = .ok (.invokespecial 24, 3) := by decide +kernel
theorem d_V_init_44 : decode b_V_init 44 = .ok (.aastore, 1) := by decide +kernel
theorem d_V_init_45 : decode b_V_init 45 = .ok (.iinc 1 1, 3) := by decide +kernel
theorem d_V_init_48 : decode b_V_init 48 = .ok (.goto (-21), 3) := by decide +kernel
theorem d_V_init_51 : decode b_V_init 51 = .ok (.return_, 1) := by decide +kernel
theorem d_V_isCharacter_0 : decode b_V_isCharacter 0 = .ok (.iload_n 0, 1) := by decide +kernel
theorem d_V_isCharacter_1 : decode b_V_isCharacter 1 = .ok (.bipush 10, 2) := by decide +kernel
theorem d_V_isCharacter_3 : decode b_V_isCharacter 3 = .ok (.if_icmp .eq 15, 3) := by decide +kernel
theorem d_V_isCharacter_6 : decode b_V_isCharacter 6 = .ok (.iload_n 0, 1) := by decide +kernel
theorem d_V_isCharacter_7 : decode b_V_isCharacter 7 = .ok (.bipush 32, 2) := by decide +kernel
theorem d_V_isCharacter_9 : decode b_V_isCharacter 9 = .ok (.if_icmp .lt 13, 3) := by decide +kernel
theorem d_V_isCharacter_12 : decode b_V_isCharacter 12 = .ok (.iload_n 0, 1) := by decide +kernel
theorem d_V_isCharacter_13 : decode b_V_isCharacter 13 = .ok (.bipush 126, 2) := by decide +kernel
theorem d_V_isCharacter_15 : decode b_V_isCharacter 15 = .ok (.if_icmp .gt 7, 3) := by decide +kernel
theorem d_V_isCharacter_18 : decode b_V_isCharacter 18 = .ok (.iconst 1, 1) := by decide +kernel
theorem d_V_isCharacter_19 : decode b_V_isCharacter 19 = .ok (.goto 4, 3) := by decide +kernel
theorem d_V_isCharacter_22 : decode b_V_isCharacter 22 = .ok (.iconst 0, 1) := by decide +kernel
theorem d_V_isCharacter_23 : decode b_V_isCharacter 23 = .ok (.ireturn, 1) := by decide +kernel
theorem d_V_isRepository_0 : decode b_V_isRepository 0 = .ok (.iload_n 0, 1) := by decide +kernel
theorem d_V_isRepository_1 : decode b_V_isRepository 1 = .ok (.ifCond .lt 12, 3) := by decide +kernel
theorem d_V_isRepository_4 : decode b_V_isRepository 4 = .ok (.iload_n 0, 1) := by decide +kernel
theorem d_V_isRepository_5 : decode b_V_isRepository 5 = .ok (.iconst 2, 1) := by decide +kernel
theorem d_V_isRepository_6 : decode b_V_isRepository 6 = .ok (.if_icmp .ge 7, 3) := by decide +kernel
theorem d_V_isRepository_9 : decode b_V_isRepository 9 = .ok (.iconst 1, 1) := by decide +kernel
theorem d_V_isRepository_10 : decode b_V_isRepository 10 = .ok (.goto 4, 3) := by decide +kernel
theorem d_V_isRepository_13 : decode b_V_isRepository 13 = .ok (.iconst 0, 1) := by decide +kernel
theorem d_V_isRepository_14 : decode b_V_isRepository 14 = .ok (.ireturn, 1) := by decide +kernel
theorem d_V_node_0 : decode b_V_node 0 = .ok (.aload_n 0, 1) := by decide +kernel
theorem d_V_node_1 : decode b_V_node 1 = .ok (.iload_n 1, 1) := by decide +kernel
theorem d_V_node_2 : decode b_V_node 2 = .ok (.invokevirtual 84, 3) := by decide +kernel
theorem d_V_node_5 : decode b_V_node 5 = .ok (.ifCond .ne 16, 3) := by decide +kernel
theorem d_V_node_8 : decode b_V_node 8 = .ok (.aload_n 0, 1) := by decide +kernel
theorem d_V_node_9 : decode b_V_node 9 = .ok (.getfield 20, 3) := by decide +kernel
theorem d_V_node_12 : decode b_V_node 12 = .ok (.iload_n 1, 1) := by decide +kernel
theorem d_V_node_13 : decode b_V_node 13 = .ok (.aaload, 1) := by decide +kernel
theorem d_V_node_14 : decode b_V_node 14 = .ok (.iload_n 2, 1) := by decide +kernel
theorem d_V_node_15 : decode b_V_node 15 = .ok (.invokevirtual 101, 3) := by decide +kernel
theorem d_V_node_18 : decode b_V_node 18 = .ok (.ifCond .ne 5, 3) := by decide +kernel
theorem d_V_node_21 : decode b_V_node 21 = .ok (.lconst 0, 1) := by decide +kernel
theorem d_V_node_22 : decode b_V_node 22 = .ok (.lreturn, 1) := by decide +kernel
theorem d_V_node_23 : decode b_V_node 23 = .ok (.aload_n 0, 1) := by decide +kernel
theorem d_V_node_24 : decode b_V_node 24 = .ok (.getfield 20, 3) := by decide +kernel
theorem d_V_node_27 : decode b_V_node 27 = .ok (.iload_n 1, 1) := by decide +kernel
theorem d_V_node_28 : decode b_V_node 28 = .ok (.aaload, 1) := by decide +kernel
theorem d_V_node_29 : decode b_V_node 29 = .ok (.getfield 116, 3) := by decide +kernel
theorem d_V_node_32 : decode b_V_node 32 = .ok (.iload_n 2, 1) := by decide +kernel
theorem d_V_node_33 : decode b_V_node 33 = .ok (.aaload, 1) := by decide +kernel
theorem d_V_node_34 : decode b_V_node 34 = .ok (.getfield 125, 3) := by decide +kernel
theorem d_V_node_37 : decode b_V_node 37 = .ok (.lreturn, 1) := by decide +kernel
theorem d_V_pull_0 : decode b_V_pull 0 = .ok (.aload_n 0, 1) := by decide +kernel
theorem d_V_pull_1 : decode b_V_pull 1 = .ok (.iload_n 1, 1) := by decide +kernel
theorem d_V_pull_2 : decode b_V_pull 2 = .ok (.invokevirtual 43, 3) := by decide +kernel
theorem d_V_pull_5 : decode b_V_pull 5 = .ok (.astore_n 2, 1) := by decide +kernel
theorem d_V_pull_6 : decode b_V_pull 6 = .ok (.aload_n 0, 1) := by decide +kernel
theorem d_V_pull_7 : decode b_V_pull 7 = .ok (.iconst 1, 1) := by decide +kernel
theorem d_V_pull_8 : decode b_V_pull 8 = .ok (.iload_n 1, 1) := by decide +kernel
theorem d_V_pull_9 : decode b_V_pull 9 = .ok (.isub, 1) := by decide +kernel
theorem d_V_pull_10 : decode b_V_pull 10 = .ok (.invokevirtual 43, 3) := by decide +kernel
theorem d_V_pull_13 : decode b_V_pull 13 = .ok (.astore_n 3, 1) := by decide +kernel
theorem d_V_pull_14 : decode b_V_pull 14 = .ok (.aload_n 2, 1) := by decide +kernel
theorem d_V_pull_15 : decode b_V_pull 15 = .ok (.getfield 47, 3) := by decide +kernel
theorem d_V_pull_18 : decode b_V_pull 18 = .ok (.ifCond .ne 24, 3) := by decide +kernel
theorem d_V_pull_21 : decode b_V_pull 21 = .ok (.aload_n 2, 1) := by decide +kernel
theorem d_V_pull_22 : decode b_V_pull 22 = .ok (.getfield 51, 3) := by decide +kernel
theorem d_V_pull_25 : decode b_V_pull 25 = .ok (.ifCond .ne 17, 3) := by decide +kernel
theorem d_V_pull_28 : decode b_V_pull 28 = .ok (.aload_n 3, 1) := by decide +kernel
theorem d_V_pull_29 : decode b_V_pull 29 = .ok (.getfield 47, 3) := by decide +kernel
theorem d_V_pull_32 : decode b_V_pull 32 = .ok (.ifCond .ne 10, 3) := by decide +kernel
theorem d_V_pull_35 : decode b_V_pull 35 = .ok (.aload_n 3, 1) := by decide +kernel
theorem d_V_pull_36 : decode b_V_pull 36 = .ok (.getfield 51, 3) := by decide +kernel
theorem d_V_pull_39 : decode b_V_pull 39 = .ok (.ifCond .eq 11, 3) := by decide +kernel
theorem d_V_pull_42 : decode b_V_pull 42 = .ok (.new 54, 3) := by decide +kernel
theorem d_V_pull_45 : decode b_V_pull 45 = .ok (.dup, 1) := by decide +kernel
theorem d_V_pull_46 : decode b_V_pull 46 = .ok (.invokespecial 56, 3) := by decide +kernel
theorem d_V_pull_49 : decode b_V_pull 49 = .ok (.athrow, 1) := by decide +kernel
theorem d_V_pull_50 : decode b_V_pull 50 = .ok (.aload_n 2, 1) := by decide +kernel
theorem d_V_pull_51 : decode b_V_pull 51 = .ok (.aload_n 3, 1) := by decide +kernel
theorem d_V_pull_52 : decode b_V_pull 52 = .ok (.invokevirtual 97, 3) := by decide +kernel
theorem d_V_pull_55 : decode b_V_pull 55 = .ok (.istore 4, 2) := by decide +kernel
theorem d_V_pull_57 : decode b_V_pull 57 = .ok (.iload 4, 2) := by decide +kernel
theorem d_V_pull_59 : decode b_V_pull 59 = .ok (.bipush (-3), 2) := by decide +kernel
theorem d_V_pull_61 : decode b_V_pull 61 = .ok (.if_icmp .ne 11, 3) := by decide +kernel
theorem d_V_pull_64 : decode b_V_pull 64 = .ok (.new 74, 3) := by decide +kernel
theorem d_V_pull_67 : decode b_V_pull 67 = .ok (.dup, 1) := by decide +kernel
theorem d_V_pull_68 : decode b_V_pull 68 = .ok (.invokespecial 76, 3) := by decide +kernel
theorem d_V_pull_71 : decode b_V_pull 71 = .ok (.athrow, 1) := by decide +kernel
theorem d_V_pull_72 : decode b_V_pull 72 = .ok (.iload 4, 2) := by decide +kernel
theorem d_V_pull_74 : decode b_V_pull 74 = .ok (.ireturn, 1) := by decide +kernel
theorem d_V_record_0 : decode b_V_record 0 = .ok (.aload_n 0, 1) := by decide +kernel
theorem d_V_record_1 : decode b_V_record 1 = .ok (.iload_n 1, 1) := by decide +kernel
theorem d_V_record_2 : decode b_V_record 2 = .ok (.invokevirtual 84, 3) := by decide +kernel
theorem d_V_record_5 : decode b_V_record 5 = .ok (.istore 4, 2) := by decide +kernel
theorem d_V_record_7 : decode b_V_record 7 = .ok (.iload 4, 2) := by decide +kernel
theorem d_V_record_9 : decode b_V_record 9 = .ok (.ifCond .eq 6, 3) := by decide +kernel
theorem d_V_record_12 : decode b_V_record 12 = .ok (.iload 4, 2) := by decide +kernel
theorem d_V_record_14 : decode b_V_record 14 = .ok (.ireturn, 1) := by decide +kernel
theorem d_V_record_15 : decode b_V_record 15 = .ok (.aload_n 0, 1) := by decide +kernel
theorem d_V_record_16 : decode b_V_record 16 = .ok (.getfield 20, 3) := by decide +kernel
theorem d_V_record_19 : decode b_V_record 19 = .ok (.iload_n 1, 1) := by decide +kernel
theorem d_V_record_20 : decode b_V_record 20 = .ok (.aaload, 1) := by decide +kernel
theorem d_V_record_21 : decode b_V_record 21 = .ok (.iload_n 2, 1) := by decide +kernel
theorem d_V_record_22 : decode b_V_record 22 = .ok (.invokevirtual 101, 3) := by decide +kernel
theorem d_V_record_25 : decode b_V_record 25 = .ok (.ifCond .eq 21, 3) := by decide +kernel
theorem d_V_record_28 : decode b_V_record 28 = .ok (.aload_n 0, 1) := by decide +kernel
theorem d_V_record_29 : decode b_V_record 29 = .ok (.getfield 20, 3) := by decide +kernel
theorem d_V_record_32 : decode b_V_record 32 = .ok (.iload_n 1, 1) := by decide +kernel
theorem d_V_record_33 : decode b_V_record 33 = .ok (.aaload, 1) := by decide +kernel
theorem d_V_record_34 : decode b_V_record 34 = .ok (.getfield 116, 3) := by decide +kernel
theorem d_V_record_37 : decode b_V_record 37 = .ok (.iload_n 2, 1) := by decide +kernel
theorem d_V_record_38 : decode b_V_record 38 = .ok (.aaload, 1) := by decide +kernel
theorem d_V_record_39 : decode b_V_record 39 = .ok (.iload_n 3, 1) := by decide +kernel
theorem d_V_record_40 : decode b_V_record 40 = .ok (.invokevirtual 120, 3) := by decide +kernel
theorem d_V_record_43 : decode b_V_record 43 = .ok (.goto 4, 3) := by decide +kernel
theorem d_V_record_46 : decode b_V_record 46 = .ok (.iconst (-1), 1) := by decide +kernel
theorem d_V_record_47 : decode b_V_record 47 = .ok (.ireturn, 1) := by decide +kernel
theorem d_V_recover_0 : decode b_V_recover 0 = .ok (.aload_n 0, 1) := by decide +kernel
theorem d_V_recover_1 : decode b_V_recover 1 = .ok (.iload_n 1, 1) := by decide +kernel
theorem d_V_recover_2 : decode b_V_recover 2 = .ok (.invokevirtual 43, 3) := by decide +kernel
theorem d_V_recover_5 : decode b_V_recover 5 = .ok (.astore_n 3, 1) := by decide +kernel
theorem d_V_recover_6 : decode b_V_recover 6 = .ok (.iload_n 2, 1) := by decide +kernel
theorem d_V_recover_7 : decode b_V_recover 7 = .ok (.ifCond .lt 8, 3) := by decide +kernel
theorem d_V_recover_10 : decode b_V_recover 10 = .ok (.iload_n 2, 1) := by decide +kernel
theorem d_V_recover_11 : decode b_V_recover 11 = .ok (.iconst 3, 1) := by decide +kernel
theorem d_V_recover_12 : decode b_V_recover 12 = .ok (.if_icmp .le 11, 3) := by decide +kernel
theorem d_V_recover_15 : decode b_V_recover 15 = .ok (.new 91, 3) := by decide +kernel
theorem d_V_recover_18 : decode b_V_recover 18 = .ok (.dup, 1) := by decide +kernel
theorem d_V_recover_19 : decode b_V_recover 19 = .ok (.invokespecial 93, 3) := by decide +kernel
theorem d_V_recover_22 : decode b_V_recover 22 = .ok (.athrow, 1) := by decide +kernel
theorem d_V_recover_23 : decode b_V_recover 23 = .ok (.aload_n 3, 1) := by decide +kernel
theorem d_V_recover_24 : decode b_V_recover 24 = .ok (.getfield 47, 3) := by decide +kernel
theorem d_V_recover_27 : decode b_V_recover 27 = .ok (.ifCond .ne 11, 3) := by decide +kernel
theorem d_V_recover_30 : decode b_V_recover 30 = .ok (.new 54, 3) := by decide +kernel
theorem d_V_recover_33 : decode b_V_recover 33 = .ok (.dup, 1) := by decide +kernel
theorem d_V_recover_34 : decode b_V_recover 34 = .ok (.invokespecial 56, 3) := by decide +kernel
theorem d_V_recover_37 : decode b_V_recover 37 = .ok (.athrow, 1) := by decide +kernel
theorem d_V_recover_38 : decode b_V_recover 38 = .ok (.aload_n 3, 1) := by decide +kernel
theorem d_V_recover_39 : decode b_V_recover 39 = .ok (.iload_n 2, 1) := by decide +kernel
theorem d_V_recover_40 : decode b_V_recover 40 = .ok (.invokevirtual 94, 3) := by decide +kernel
theorem d_V_recover_43 : decode b_V_recover 43 = .ok (.ireturn, 1) := by decide +kernel
theorem d_V_repositoryAt_0 : decode b_V_repositoryAt 0 = .ok (.iload_n 1, 1) := by decide +kernel
theorem d_V_repositoryAt_1 : decode b_V_repositoryAt 1 = .ok (.invokestatic 149, 3) := by decide +kernel
theorem d_V_repositoryAt_4 : decode b_V_repositoryAt 4 = .ok (.ifCond .ne 11, 3) := by decide +kernel
theorem d_V_repositoryAt_7 : decode b_V_repositoryAt 7 = .ok (.new 91, 3) := by decide +kernel
theorem d_V_repositoryAt_10 : decode b_V_repositoryAt 10 = .ok (.dup, 1) := by decide +kernel
theorem d_V_repositoryAt_11 : decode b_V_repositoryAt 11 = .ok (.invokespecial 93, 3) := by decide +kernel
theorem d_V_repositoryAt_14 : decode b_V_repositoryAt 14 = .ok (.athrow, 1) := by decide +kernel
theorem d_V_repositoryAt_15 : decode b_V_repositoryAt 15 = .ok (.aload_n 0, 1) := by decide +kernel
theorem d_V_repositoryAt_16 : decode b_V_repositoryAt 16 = .ok (.getfield 20, 3) := by decide +kernel
theorem d_V_repositoryAt_19 : decode b_V_repositoryAt 19 = .ok (.iload_n 1, 1) := by decide +kernel
theorem d_V_repositoryAt_20 : decode b_V_repositoryAt 20 = .ok (.aaload, 1) := by decide +kernel
theorem d_V_repositoryAt_21 : decode b_V_repositoryAt 21 = .ok (.areturn, 1) := by decide +kernel
theorem d_V_repositoryInTransaction_0 : decode b_V_repositoryInTransaction 0 = .ok (.aload_n 0, 1) := by decide +kernel
theorem d_V_repositoryInTransaction_1 : decode b_V_repositoryInTransaction 1 = .ok (.iload_n 1, 1) := by decide +kernel
theorem d_V_repositoryInTransaction_2 : decode b_V_repositoryInTransaction 2 = .ok (.invokevirtual 43, 3) := by decide +kernel
theorem d_V_repositoryInTransaction_5 : decode b_V_repositoryInTransaction 5 = .ok (.astore_n 2, 1) := by decide +kernel
theorem d_V_repositoryInTransaction_6 : decode b_V_repositoryInTransaction 6 = .ok (.aload_n 2, 1) := by decide +kernel
theorem d_V_repositoryInTransaction_7 : decode b_V_repositoryInTransaction 7 = .ok (.getfield 47, 3) := by decide +kernel
theorem d_V_repositoryInTransaction_10 : decode b_V_repositoryInTransaction 10 = .ok (.ifCond .ne 10, 3) := by decide +kernel
theorem d_V_repositoryInTransaction_13 : decode b_V_repositoryInTransaction 13 = .ok (.aload_n 2, 1) := by decide +kernel
theorem d_V_repositoryInTransaction_14 : decode b_V_repositoryInTransaction 14 = .ok (.getfield 51, 3) := by decide +kernel
theorem d_V_repositoryInTransaction_17 : decode b_V_repositoryInTransaction 17 = .ok (.ifCond .ne 11, 3) := by decide +kernel
theorem d_V_repositoryInTransaction_20 : decode b_V_repositoryInTransaction 20 = .ok (.new 54, 3) := by decide +kernel
theorem d_V_repositoryInTransaction_23 : decode b_V_repositoryInTransaction 23 = .ok (.dup, 1) := by decide +kernel
theorem d_V_repositoryInTransaction_24 : decode b_V_repositoryInTransaction 24 = .ok (.invokespecial 56, 3) := by decide +kernel
theorem d_V_repositoryInTransaction_27 : decode b_V_repositoryInTransaction 27 = .ok (.athrow, 1) := by decide +kernel
theorem d_V_repositoryInTransaction_28 : decode b_V_repositoryInTransaction 28 = .ok (.aload_n 2, 1) := by decide +kernel
theorem d_V_repositoryInTransaction_29 : decode b_V_repositoryInTransaction 29 = .ok (.areturn, 1) := by decide +kernel
theorem d_V_revisions_0 : decode b_V_revisions 0 = .ok (.aload_n 0, 1) := by decide +kernel
theorem d_V_revisions_1 : decode b_V_revisions 1 = .ok (.iload_n 1, 1) := by decide +kernel
theorem d_V_revisions_2 : decode b_V_revisions 2 = .ok (.invokevirtual 84, 3) := by decide +kernel
theorem d_V_revisions_5 : decode b_V_revisions 5 = .ok (.istore_n 2, 1) := by decide +kernel
theorem d_V_revisions_6 : decode b_V_revisions 6 = .ok (.iload_n 2, 1) := by decide +kernel
theorem d_V_revisions_7 : decode b_V_revisions 7 = .ok (.ifCond .eq 7, 3) := by decide +kernel
theorem d_V_revisions_10 : decode b_V_revisions 10 = .ok (.iload_n 2, 1) := by decide +kernel
theorem d_V_revisions_11 : decode b_V_revisions 11 = .ok (.goto 12, 3) := by decide +kernel
theorem d_V_revisions_14 : decode b_V_revisions 14 = .ok (.aload_n 0, 1) := by decide +kernel
theorem d_V_revisions_15 : decode b_V_revisions 15 = .ok (.getfield 20, 3) := by decide +kernel
theorem d_V_revisions_18 : decode b_V_revisions 18 = .ok (.iload_n 1, 1) := by decide +kernel
theorem d_V_revisions_19 : decode b_V_revisions 19 = .ok (.aaload, 1) := by decide +kernel
theorem d_V_revisions_20 : decode b_V_revisions 20 = .ok (.getfield 113, 3) := by decide +kernel
theorem d_V_revisions_23 : decode b_V_revisions 23 = .ok (.ireturn, 1) := by decide +kernel
theorem d_V_text_0 : decode b_V_text 0 = .ok (.aload_n 0, 1) := by decide +kernel
theorem d_V_text_1 : decode b_V_text 1 = .ok (.iload_n 1, 1) := by decide +kernel
theorem d_V_text_2 : decode b_V_text 2 = .ok (.invokevirtual 43, 3) := by decide +kernel
theorem d_V_text_5 : decode b_V_text 5 = .ok (.astore 4, 2) := by decide +kernel
theorem d_V_text_7 : decode b_V_text 7 = .ok (.aload 4, 2) := by decide +kernel
theorem d_V_text_9 : decode b_V_text 9 = .ok (.iload_n 2, 1) := by decide +kernel
theorem d_V_text_10 : decode b_V_text 10 = .ok (.invokevirtual 101, 3) := by decide +kernel
theorem d_V_text_13 : decode b_V_text 13 = .ok (.ifCond .ne 11, 3) := by decide +kernel
theorem d_V_text_16 : decode b_V_text 16 = .ok (.new 91, 3) := by decide +kernel
theorem d_V_text_19 : decode b_V_text 19 = .ok (.dup, 1) := by decide +kernel
theorem d_V_text_20 : decode b_V_text 20 = .ok (.invokespecial 93, 3) := by decide +kernel
theorem d_V_text_23 : decode b_V_text 23 = .ok (.athrow, 1) := by decide +kernel
theorem d_V_text_24 : decode b_V_text 24 = .ok (.aload 4, 2) := by decide +kernel
theorem d_V_text_26 : decode b_V_text 26 = .ok (.getfield 47, 3) := by decide +kernel
theorem d_V_text_29 : decode b_V_text 29 = .ok (.ifCond .eq 11, 3) := by decide +kernel
theorem d_V_text_32 : decode b_V_text 32 = .ok (.new 54, 3) := by decide +kernel
theorem d_V_text_35 : decode b_V_text 35 = .ok (.dup, 1) := by decide +kernel
theorem d_V_text_36 : decode b_V_text 36 = .ok (.invokespecial 56, 3) := by decide +kernel
theorem d_V_text_39 : decode b_V_text 39 = .ok (.athrow, 1) := by decide +kernel
theorem d_V_text_40 : decode b_V_text 40 = .ok (.aload 4, 2) := by decide +kernel
theorem d_V_text_42 : decode b_V_text 42 = .ok (.iload_n 2, 1) := by decide +kernel
theorem d_V_text_43 : decode b_V_text 43 = .ok (.invokevirtual 104, 3) := by decide +kernel
theorem d_V_text_46 : decode b_V_text 46 = .ok (.ifCond .ne 11, 3) := by decide +kernel
theorem d_V_text_49 : decode b_V_text 49 = .ok (.new 74, 3) := by decide +kernel
theorem d_V_text_52 : decode b_V_text 52 = .ok (.dup, 1) := by decide +kernel
theorem d_V_text_53 : decode b_V_text 53 = .ok (.invokespecial 76, 3) := by decide +kernel
theorem d_V_text_56 : decode b_V_text 56 = .ok (.athrow, 1) := by decide +kernel
theorem d_V_text_57 : decode b_V_text 57 = .ok (.aload 4, 2) := by decide +kernel
theorem d_V_text_59 : decode b_V_text 59 = .ok (.getfield 107, 3) := by decide +kernel
theorem d_V_text_62 : decode b_V_text 62 = .ok (.iload_n 3, 1) := by decide +kernel
theorem d_V_text_63 : decode b_V_text 63 = .ok (.invokevirtual 110, 3) := by decide +kernel
theorem d_V_text_66 : decode b_V_text 66 = .ok (.ireturn, 1) := by decide +kernel
theorem d_V_type_0 : decode b_V_type 0 = .ok (.iconst 0, 1) := by decide +kernel
theorem d_V_type_1 : decode b_V_type 1 = .ok (.istore_n 3, 1) := by decide +kernel
theorem d_V_type_2 : decode b_V_type 2 = .ok (.bipush 56, 2) := by decide +kernel
theorem d_V_type_4 : decode b_V_type 4 = .ok (.istore 4, 2) := by decide +kernel
theorem d_V_type_6 : decode b_V_type 6 = .ok (.iload 4, 2) := by decide +kernel
theorem d_V_type_8 : decode b_V_type 8 = .ok (.ifCond .lt 35, 3) := by decide +kernel
theorem d_V_type_11 : decode b_V_type 11 = .ok (.lload_n 1, 1) := by decide +kernel
theorem d_V_type_12 : decode b_V_type 12 = .ok (.iload 4, 2) := by decide +kernel
theorem d_V_type_14 : decode b_V_type 14 = .ok (.invokestatic 25, 3) := by decide +kernel
theorem d_V_type_17 : decode b_V_type 17 = .ok (.istore 5, 2) := by decide +kernel
theorem d_V_type_19 : decode b_V_type 19 = .ok (.iload 5, 2) := by decide +kernel
theorem d_V_type_21 : decode b_V_type 21 = .ok (.ifCond .eq 16, 3) := by decide +kernel
theorem d_V_type_24 : decode b_V_type 24 = .ok (.iload 5, 2) := by decide +kernel
theorem d_V_type_26 : decode b_V_type 26 = .ok (.invokestatic 29, 3) := by decide +kernel
theorem d_V_type_29 : decode b_V_type 29 = .ok (.ifCond .ne 5, 3) := by decide +kernel
theorem d_V_type_32 : decode b_V_type 32 = .ok (.iconst 0, 1) := by decide +kernel
theorem d_V_type_33 : decode b_V_type 33 = .ok (.ireturn, 1) := by decide +kernel
theorem d_V_type_34 : decode b_V_type 34 = .ok (.iinc 3 1, 3) := by decide +kernel
theorem d_V_type_37 : decode b_V_type 37 = .ok (.iinc 4 (-8), 3) := by decide +kernel
theorem d_V_type_40 : decode b_V_type 40 = .ok (.goto (-34), 3) := by decide +kernel
theorem d_V_type_43 : decode b_V_type 43 = .ok (.iload_n 3, 1) := by decide +kernel
theorem d_V_type_44 : decode b_V_type 44 = .ok (.bipush 60, 2) := by decide +kernel
theorem d_V_type_46 : decode b_V_type 46 = .ok (.aload_n 0, 1) := by decide +kernel
theorem d_V_type_47 : decode b_V_type 47 = .ok (.getfield 14, 3) := by decide +kernel
theorem d_V_type_50 : decode b_V_type 50 = .ok (.getfield 33, 3) := by decide +kernel
theorem d_V_type_53 : decode b_V_type 53 = .ok (.isub, 1) := by decide +kernel
theorem d_V_type_54 : decode b_V_type 54 = .ok (.if_icmp .le 5, 3) := by decide +kernel
theorem d_V_type_57 : decode b_V_type 57 = .ok (.iconst 0, 1) := by decide +kernel
theorem d_V_type_58 : decode b_V_type 58 = .ok (.ireturn, 1) := by decide +kernel
theorem d_V_type_59 : decode b_V_type 59 = .ok (.bipush 56, 2) := by decide +kernel
theorem d_V_type_61 : decode b_V_type 61 = .ok (.istore 4, 2) := by decide +kernel
theorem d_V_type_63 : decode b_V_type 63 = .ok (.iload 4, 2) := by decide +kernel
theorem d_V_type_65 : decode b_V_type 65 = .ok (.ifCond .lt 32, 3) := by decide +kernel
theorem d_V_type_68 : decode b_V_type 68 = .ok (.lload_n 1, 1) := by decide +kernel
theorem d_V_type_69 : decode b_V_type 69 = .ok (.iload 4, 2) := by decide +kernel
theorem d_V_type_71 : decode b_V_type 71 = .ok (.invokestatic 25, 3) := by decide +kernel
theorem d_V_type_74 : decode b_V_type 74 = .ok (.istore 5, 2) := by decide +kernel
theorem d_V_type_76 : decode b_V_type 76 = .ok (.iload 5, 2) := by decide +kernel
theorem d_V_type_78 : decode b_V_type 78 = .ok (.ifCond .eq 13, 3) := by decide +kernel
theorem d_V_type_81 : decode b_V_type 81 = .ok (.aload_n 0, 1) := by decide +kernel
theorem d_V_type_82 : decode b_V_type 82 = .ok (.getfield 14, 3) := by decide +kernel
theorem d_V_type_85 : decode b_V_type 85 = .ok (.iload 5, 2) := by decide +kernel
theorem d_V_type_87 : decode b_V_type 87 = .ok (.invokevirtual 37, 3) := by decide +kernel
theorem d_V_type_90 : decode b_V_type 90 = .ok (.pop, 1) := by decide +kernel
theorem d_V_type_91 : decode b_V_type 91 = .ok (.iinc 4 (-8), 3) := by decide +kernel
theorem d_V_type_94 : decode b_V_type 94 = .ok (.goto (-31), 3) := by decide +kernel
theorem d_V_type_97 : decode b_V_type 97 = .ok (.iconst 1, 1) := by decide +kernel
theorem d_V_type_98 : decode b_V_type 98 = .ok (.ireturn, 1) := by decide +kernel
theorem d_V_wipe_0 : decode b_V_wipe 0 = .ok (.aload_n 0, 1) := by decide +kernel
theorem d_V_wipe_1 : decode b_V_wipe 1 = .ok (.getfield 14, 3) := by decide +kernel
theorem d_V_wipe_4 : decode b_V_wipe 4 = .ok (.iconst 0, 1) := by decide +kernel
theorem d_V_wipe_5 : decode b_V_wipe 5 = .ok (.invokevirtual 40, 3) := by decide +kernel
theorem d_V_wipe_8 : decode b_V_wipe 8 = .ok (.return_, 1) := by decide +kernel
theorem d_V_wrong_0 : decode b_V_wrong 0 = .ok (.aload_n 0, 1) := by decide +kernel
theorem d_V_wrong_1 : decode b_V_wrong 1 = .ok (.iload_n 1, 1) := by decide +kernel
theorem d_V_wrong_2 : decode b_V_wrong 2 = .ok (.invokevirtual 84, 3) := by decide +kernel
theorem d_V_wrong_5 : decode b_V_wrong 5 = .ok (.istore_n 2, 1) := by decide +kernel
theorem d_V_wrong_6 : decode b_V_wrong 6 = .ok (.iload_n 2, 1) := by decide +kernel
theorem d_V_wrong_7 : decode b_V_wrong 7 = .ok (.ifCond .eq 7, 3) := by decide +kernel
theorem d_V_wrong_10 : decode b_V_wrong 10 = .ok (.iload_n 2, 1) := by decide +kernel
theorem d_V_wrong_11 : decode b_V_wrong 11 = .ok (.goto 12, 3) := by decide +kernel
theorem d_V_wrong_14 : decode b_V_wrong 14 = .ok (.aload_n 0, 1) := by decide +kernel
theorem d_V_wrong_15 : decode b_V_wrong 15 = .ok (.getfield 20, 3) := by decide +kernel
theorem d_V_wrong_18 : decode b_V_wrong 18 = .ok (.iload_n 1, 1) := by decide +kernel
theorem d_V_wrong_19 : decode b_V_wrong 19 = .ok (.aaload, 1) := by decide +kernel
theorem d_V_wrong_20 : decode b_V_wrong 20 = .ok (.invokevirtual 139, 3) := by decide +kernel
theorem d_V_wrong_23 : decode b_V_wrong 23 = .ok (.ireturn, 1) := by decide +kernel

theorem dX7_moveTo_100 : decode cX7_moveTo 100 = .ok (.iastore, 1) := by decide +kernel
theorem dX7_moveTo_101 : decode cX7_moveTo 101 = .ok (.iinc 4 1, 3) := by decide +kernel
theorem dX7_moveTo_104 : decode cX7_moveTo 104 = .ok (.goto (-81), 3) := by decide +kernel
theorem dX7_moveTo_107 : decode cX7_moveTo 107 = .ok (.aload_n 0, 1) := by decide +kernel
theorem dX7_moveTo_108 : decode cX7_moveTo 108 = .ok (.getfield 25, 3) := by decide +kernel
theorem dX7_moveTo_111 : decode cX7_moveTo 111 = .ok (.iload_n 1, 1) := by decide +kernel
theorem dX7_moveTo_112 : decode cX7_moveTo 112 = .ok (.iload_n 2, 1) := by decide +kernel
theorem dX7_moveTo_113 : decode cX7_moveTo 113 = .ok (.iastore, 1) := by decide +kernel
theorem dX7_moveTo_114 : decode cX7_moveTo 114 = .ok (.return_, 1) := by decide +kernel
theorem dX7_nameByte_0 : decode cX7_nameByte 0 = .ok (.iload_n 1, 1) := by decide +kernel
theorem dX7_nameByte_1 : decode cX7_nameByte 1 = .ok (.ifCond .lt 29, 3) := by decide +kernel
theorem dX7_nameByte_4 : decode cX7_nameByte 4 = .ok (.iload_n 1, 1) := by decide +kernel
theorem dX7_nameByte_5 : decode cX7_nameByte 5 = .ok (.aload_n 0, 1) := by decide +kernel
theorem dX7_nameByte_6 : decode cX7_nameByte 6 = .ok (.getfield 35, 3) := by decide +kernel
theorem dX7_nameByte_9 : decode cX7_nameByte 9 = .ok (.if_icmp .ge 21, 3) := by decide +kernel
theorem dX7_nameByte_12 : decode cX7_nameByte 12 = .ok (.iload_n 2, 1) := by decide +kernel
theorem dX7_nameByte_13 : decode cX7_nameByte 13 = .ok (.ifCond .lt 17, 3) := by decide +kernel
theorem dX7_nameByte_16 : decode cX7_nameByte 16 = .ok (.iload_n 2, 1) := by decide +kernel
theorem dX7_nameByte_17 : decode cX7_nameByte 17 = .ok (.aload_n 0, 1) := by decide +kernel
theorem dX7_nameByte_18 : decode cX7_nameByte 18 = .ok (.getfield 15, 3) := by decide +kernel
theorem dX7_nameByte_21 : decode cX7_nameByte 21 = .ok (.iload_n 1, 1) := by decide +kernel
theorem dX7_nameByte_22 : decode cX7_nameByte 22 = .ok (.iaload, 1) := by decide +kernel
theorem dX7_nameByte_23 : decode cX7_nameByte 23 = .ok (.if_icmp .ge 7, 3) := by decide +kernel
theorem dX7_nameByte_26 : decode cX7_nameByte 26 = .ok (.iconst 1, 1) := by decide +kernel
theorem dX7_nameByte_27 : decode cX7_nameByte 27 = .ok (.goto 4, 3) := by decide +kernel
theorem dX7_nameByte_30 : decode cX7_nameByte 30 = .ok (.iconst 0, 1) := by decide +kernel
theorem dX7_nameByte_31 : decode cX7_nameByte 31 = .ok (.istore_n 3, 1) := by decide +kernel
theorem dX7_nameByte_32 : decode cX7_nameByte 32 = .ok (.iload_n 3, 1) := by decide +kernel
theorem dX7_nameByte_33 : decode cX7_nameByte 33 = .ok (.ifCond .eq 17, 3) := by decide +kernel
theorem dX7_nameByte_36 : decode cX7_nameByte 36 = .ok (.aload_n 0, 1) := by decide +kernel
theorem dX7_nameByte_37 : decode cX7_nameByte 37 = .ok (.getfield 9, 3) := by decide +kernel
theorem dX7_nameByte_40 : decode cX7_nameByte 40 = .ok (.iload_n 1, 1) := by decide +kernel
theorem dX7_nameByte_41 : decode cX7_nameByte 41 = .ok (.bipush 8, 2) := by decide +kernel
theorem dX7_nameByte_43 : decode cX7_nameByte 43 = .ok (.imul, 1) := by decide +kernel
theorem dX7_nameByte_44 : decode cX7_nameByte 44 = .ok (.iload_n 2, 1) := by decide +kernel
theorem dX7_nameByte_45 : decode cX7_nameByte 45 = .ok (.iadd, 1) := by decide +kernel
theorem dX7_nameByte_46 : decode cX7_nameByte 46 = .ok (.baload, 1) := by decide +kernel
theorem dX7_nameByte_47 : decode cX7_nameByte 47 = .ok (.goto 4, 3) := by decide +kernel
theorem dX7_nameByte_50 : decode cX7_nameByte 50 = .ok (.iconst 0, 1) := by decide +kernel
theorem dX7_nameByte_51 : decode cX7_nameByte 51 = .ok (.ireturn, 1) := by decide +kernel
theorem dX7_nameLength_0 : decode cX7_nameLength 0 = .ok (.iload_n 1, 1) := by decide +kernel
theorem dX7_nameLength_1 : decode cX7_nameLength 1 = .ok (.ifCond .lt 20, 3) := by decide +kernel
theorem dX7_nameLength_4 : decode cX7_nameLength 4 = .ok (.iload_n 1, 1) := by decide +kernel
theorem dX7_nameLength_5 : decode cX7_nameLength 5 = .ok (.aload_n 0, 1) := by decide +kernel
theorem dX7_nameLength_6 : decode cX7_nameLength 6 = .ok (.getfield 35, 3) := by decide +kernel
theorem dX7_nameLength_9 : decode cX7_nameLength 9 = .ok (.if_icmp .ge 12, 3) := by decide +kernel
theorem dX7_nameLength_12 : decode cX7_nameLength 12 = .ok (.aload_n 0, 1) := by decide +kernel
theorem dX7_nameLength_13 : decode cX7_nameLength 13 = .ok (.getfield 15, 3) := by decide +kernel
theorem dX7_nameLength_16 : decode cX7_nameLength 16 = .ok (.iload_n 1, 1) := by decide +kernel
theorem dX7_nameLength_17 : decode cX7_nameLength 17 = .ok (.iaload, 1) := by decide +kernel
theorem dX7_nameLength_18 : decode cX7_nameLength 18 = .ok (.goto 4, 3) := by decide +kernel
theorem dX7_nameLength_21 : decode cX7_nameLength 21 = .ok (.iconst 0, 1) := by decide +kernel
theorem dX7_nameLength_22 : decode cX7_nameLength 22 = .ok (.ireturn, 1) := by decide +kernel
theorem dX7_orderMode_0 : decode cX7_orderMode 0 = .ok (.aload_n 0, 1) := by decide +kernel
theorem dX7_orderMode_1 : decode cX7_orderMode 1 = .ok (.getfield 58, 3) := by decide +kernel
theorem dX7_orderMode_4 : decode cX7_orderMode 4 = .ok (.ifCond .eq 7, 3) := by decide +kernel
theorem dX7_orderMode_7 : decode cX7_orderMode 7 = .ok (.iconst 1, 1) := by decide +kernel
theorem dX7_orderMode_8 : decode cX7_orderMode 8 = .ok (.goto 4, 3) := by decide +kernel
theorem dX7_orderMode_11 : decode cX7_orderMode 11 = .ok (.iconst 0, 1) := by decide +kernel
theorem dX7_orderMode_12 : decode cX7_orderMode 12 = .ok (.ireturn, 1) := by decide +kernel
theorem dX7_rank_0 : decode cX7_rank 0 = .ok (.iload_n 1, 1) := by decide +kernel
theorem dX7_rank_1 : decode cX7_rank 1 = .ok (.ifCond .lt 20, 3) := by decide +kernel
theorem dX7_rank_4 : decode cX7_rank 4 = .ok (.iload_n 1, 1) := by decide +kernel
theorem dX7_rank_5 : decode cX7_rank 5 = .ok (.aload_n 0, 1) := by decide +kernel
theorem dX7_rank_6 : decode cX7_rank 6 = .ok (.getfield 35, 3) := by decide +kernel
theorem dX7_rank_9 : decode cX7_rank 9 = .ok (.if_icmp .ge 12, 3) := by decide +kernel
theorem dX7_rank_12 : decode cX7_rank 12 = .ok (.aload_n 0, 1) := by decide +kernel
theorem dX7_rank_13 : decode cX7_rank 13 = .ok (.getfield 25, 3) := by decide +kernel
theorem dX7_rank_16 : decode cX7_rank 16 = .ok (.iload_n 1, 1) := by decide +kernel
theorem dX7_rank_17 : decode cX7_rank 17 = .ok (.iaload, 1) := by decide +kernel
theorem dX7_rank_18 : decode cX7_rank 18 = .ok (.goto 4, 3) := by decide +kernel
theorem dX7_rank_21 : decode cX7_rank 21 = .ok (.iconst 0, 1) := by decide +kernel
theorem dX7_rank_22 : decode cX7_rank 22 = .ok (.ireturn, 1) := by decide +kernel
theorem dX7_variableOrdinal_0 : decode cX7_variableOrdinal 0 = .ok (.iload_n 1, 1) := by decide +kernel
theorem dX7_variableOrdinal_1 : decode cX7_variableOrdinal 1 = .ok (.ifCond .lt 20, 3) := by decide +kernel
theorem dX7_variableOrdinal_4 : decode cX7_variableOrdinal 4 = .ok (.iload_n 1, 1) := by decide +kernel
theorem dX7_variableOrdinal_5 : decode cX7_variableOrdinal 5 = .ok (.aload_n 0, 1) := by decide +kernel
theorem dX7_variableOrdinal_6 : decode cX7_variableOrdinal 6 = .ok (.getfield 35, 3) := by decide +kernel
theorem dX7_variableOrdinal_9 : decode cX7_variableOrdinal 9 = .ok (.if_icmp .ge 12, 3) := by decide +kernel
theorem dX7_variableOrdinal_12 : decode cX7_variableOrdinal 12 = .ok (.aload_n 0, 1) := by decide +kernel
theorem dX7_variableOrdinal_13 : decode cX7_variableOrdinal 13 = .ok (.getfield 28, 3) := by decide +kernel
theorem dX7_variableOrdinal_16 : decode cX7_variableOrdinal 16 = .ok (.iload_n 1, 1) := by decide +kernel
theorem dX7_variableOrdinal_17 : decode cX7_variableOrdinal 17 = .ok (.iaload, 1) := by decide +kernel
theorem dX7_variableOrdinal_18 : decode cX7_variableOrdinal 18 = .ok (.goto 4, 3) := by decide +kernel
theorem dX7_variableOrdinal_21 : decode cX7_variableOrdinal 21 = .ok (.iconst (-1), 1) := by decide +kernel
theorem dX7_variableOrdinal_22 : decode cX7_variableOrdinal 22 = .ok (.ireturn, 1) := by decide +kernel
theorem dX7_weight_0 : decode cX7_weight 0 = .ok (.iload_n 1, 1) := by decide +kernel
theorem dX7_weight_1 : decode cX7_weight 1 = .ok (.ifCond .lt 20, 3) := by decide +kernel
theorem dX7_weight_4 : decode cX7_weight 4 = .ok (.iload_n 1, 1) := by decide +kernel
theorem dX7_weight_5 : decode cX7_weight 5 = .ok (.aload_n 0, 1) := by decide +kernel
theorem dX7_weight_6 : decode cX7_weight 6 = .ok (.getfield 35, 3) := by decide +kernel
theorem dX7_weight_9 : decode cX7_weight 9 = .ok (.if_icmp .ge 12, 3) := by decide +kernel
theorem dX7_weight_12 : decode cX7_weight 12 = .ok (.aload_n 0, 1) := by decide +kernel
theorem dX7_weight_13 : decode cX7_weight 13 = .ok (.getfield 22, 3) := by decide +kernel
theorem dX7_weight_16 : decode cX7_weight 16 = .ok (.iload_n 1, 1) := by decide +kernel
theorem dX7_weight_17 : decode cX7_weight 17 = .ok (.iaload, 1) := by decide +kernel
theorem dX7_weight_18 : decode cX7_weight 18 = .ok (.goto 4, 3) := by decide +kernel
theorem dX7_weight_21 : decode cX7_weight 21 = .ok (.iconst 0, 1) := by decide +kernel
theorem dX7_weight_22 : decode cX7_weight 22 = .ok (.ireturn, 1) := by decide +kernel
theorem dX8_arity_0 : decode cX8_arity 0 = .ok (.aload_n 0, 1) := by decide +kernel
theorem dX8_arity_1 : decode cX8_arity 1 = .ok (.getfield 46, 3) := by decide +kernel
theorem dX8_arity_4 : decode cX8_arity 4 = .ok (.aload_n 0, 1) := by decide +kernel
theorem dX8_arity_5 : decode cX8_arity 5 = .ok (.getfield 15, 3) := by decide +kernel
theorem dX8_arity_8 : decode cX8_arity 8 = .ok (.iload_n 1, 1) := by decide +kernel
theorem dX8_arity_9 : decode cX8_arity 9 = .ok (.invokevirtual 50, 3) := by decide +kernel
theorem dX8_arity_12 : decode cX8_arity 12 = .ok (.invokevirtual 54, 3) := by decide +kernel
theorem dX8_arity_15 : decode cX8_arity 15 = .ok (.ireturn, 1) := by decide +kernel
theorem dX8_bucketOf_0 : decode cX8_bucketOf 0 = .ok (.iload_n 1, 1) := by decide +kernel
theorem dX8_bucketOf_1 : decode cX8_bucketOf 1 = .ok (.bipush 31, 2) := by decide +kernel
theorem dX8_bucketOf_3 : decode cX8_bucketOf 3 = .ok (.imul, 1) := by decide +kernel
theorem dX8_bucketOf_4 : decode cX8_bucketOf 4 = .ok (.iload_n 2, 1) := by decide +kernel
theorem dX8_bucketOf_5 : decode cX8_bucketOf 5 = .ok (.iadd, 1) := by decide +kernel
theorem dX8_bucketOf_6 : decode cX8_bucketOf 6 = .ok (.sipush 8191, 3) := by decide +kernel
theorem dX8_bucketOf_9 : decode cX8_bucketOf 9 = .ok (.imul, 1) := by decide +kernel
theorem dX8_bucketOf_10 : decode cX8_bucketOf 10 = .ok (.iload_n 3, 1) := by decide +kernel
theorem dX8_bucketOf_11 : decode cX8_bucketOf 11 = .ok (.iadd, 1) := by decide +kernel
theorem dX8_bucketOf_12 : decode cX8_bucketOf 12 = .ok (.ldc 83, 2) := by decide +kernel
theorem dX8_bucketOf_14 : decode cX8_bucketOf 14 = .ok (.imul, 1) := by decide +kernel
theorem dX8_bucketOf_15 : decode cX8_bucketOf 15 = .ok (.iload 4, 2) := by decide +kernel
theorem dX8_bucketOf_17 : decode cX8_bucketOf 17 = .ok (.iadd, 1) := by decide +kernel
theorem dX8_bucketOf_18 : decode cX8_bucketOf 18 = .ok (.istore 5, 2) := by decide +kernel
theorem dX8_bucketOf_20 : decode cX8_bucketOf 20 = .ok (.iload 5, 2) := by decide +kernel
theorem dX8_bucketOf_22 : decode cX8_bucketOf 22 = .ok (.iload 5, 2) := by decide +kernel
theorem dX8_bucketOf_24 : decode cX8_bucketOf 24 = .ok (.bipush 15, 2) := by decide +kernel
theorem dX8_bucketOf_26 : decode cX8_bucketOf 26 = .ok (.iushr, 1) := by decide +kernel
theorem dX8_bucketOf_27 : decode cX8_bucketOf 27 = .ok (.ixor, 1) := by decide +kernel
theorem dX8_bucketOf_28 : decode cX8_bucketOf 28 = .ok (.istore 5, 2) := by decide +kernel
theorem dX8_bucketOf_30 : decode cX8_bucketOf 30 = .ok (.iload 5, 2) := by decide +kernel
theorem dX8_bucketOf_32 : decode cX8_bucketOf 32 = .ok (.ldc 84, 2) := by decide +kernel
theorem dX8_bucketOf_34 : decode cX8_bucketOf 34 = .ok (.imul, 1) := by decide +kernel
theorem dX8_bucketOf_35 : decode cX8_bucketOf 35 = .ok (.istore 5, 2) := by decide +kernel
theorem dX8_bucketOf_37 : decode cX8_bucketOf 37 = .ok (.iload 5, 2) := by decide +kernel
theorem dX8_bucketOf_39 : decode cX8_bucketOf 39 = .ok (.iload 5, 2) := by decide +kernel
theorem dX8_bucketOf_41 : decode cX8_bucketOf 41 = .ok (.bipush 13, 2) := by decide +kernel
theorem dX8_bucketOf_43 : decode cX8_bucketOf 43 = .ok (.iushr, 1) := by decide +kernel
theorem dX8_bucketOf_44 : decode cX8_bucketOf 44 = .ok (.ixor, 1) := by decide +kernel
theorem dX8_bucketOf_45 : decode cX8_bucketOf 45 = .ok (.istore 5, 2) := by decide +kernel
theorem dX8_bucketOf_47 : decode cX8_bucketOf 47 = .ok (.iload 5, 2) := by decide +kernel
theorem dX8_bucketOf_49 : decode cX8_bucketOf 49 = .ok (.sipush 32767, 3) := by decide +kernel
theorem dX8_bucketOf_52 : decode cX8_bucketOf 52 = .ok (.iand, 1) := by decide +kernel
theorem dX8_bucketOf_53 : decode cX8_bucketOf 53 = .ok (.ireturn, 1) := by decide +kernel
theorem dX8_extentOver_0 : decode cX8_extentOver 0 = .ok (.iconst 1, 1) := by decide +kernel
theorem dX8_extentOver_1 : decode cX8_extentOver 1 = .ok (.iload_n 2, 1) := by decide +kernel
theorem dX8_extentOver_2 : decode cX8_extentOver 2 = .ok (.bipush 9, 2) := by decide +kernel
theorem dX8_extentOver_4 : decode cX8_extentOver 4 = .ok (.iushr, 1) := by decide +kernel
theorem dX8_extentOver_5 : decode cX8_extentOver 5 = .ok (.iadd, 1) := by decide +kernel
theorem dX8_extentOver_6 : decode cX8_extentOver 6 = .ok (.iload_n 3, 1) := by decide +kernel
theorem dX8_extentOver_7 : decode cX8_extentOver 7 = .ok (.bipush 9, 2) := by decide +kernel
theorem dX8_extentOver_9 : decode cX8_extentOver 9 = .ok (.iushr, 1) := by decide +kernel
theorem dX8_extentOver_10 : decode cX8_extentOver 10 = .ok (.iadd, 1) := by decide +kernel
theorem dX8_extentOver_11 : decode cX8_extentOver 11 = .ok (.iload 4, 2) := by decide +kernel
theorem dX8_extentOver_13 : decode cX8_extentOver 13 = .ok (.bipush 9, 2) := by decide +kernel
theorem dX8_extentOver_15 : decode cX8_extentOver 15 = .ok (.iushr, 1) := by decide +kernel
theorem dX8_extentOver_16 : decode cX8_extentOver 16 = .ok (.iadd, 1) := by decide +kernel
theorem dX8_extentOver_17 : decode cX8_extentOver 17 = .ok (.ldc 94, 2) := by decide +kernel
theorem dX8_extentOver_19 : decode cX8_extentOver 19 = .ok (.invokestatic 95, 3) := by decide +kernel
theorem dX8_extentOver_22 : decode cX8_extentOver 22 = .ok (.istore 5, 2) := by decide +kernel
theorem dX8_extentOver_24 : decode cX8_extentOver 24 = .ok (.iload_n 2, 1) := by decide +kernel
theorem dX8_extentOver_25 : decode cX8_extentOver 25 = .ok (.iconst 1, 1) := by decide +kernel
theorem dX8_extentOver_26 : decode cX8_extentOver 26 = .ok (.iushr, 1) := by decide +kernel
theorem dX8_extentOver_27 : decode cX8_extentOver 27 = .ok (.sipush 255, 3) := by decide +kernel
theorem dX8_extentOver_30 : decode cX8_extentOver 30 = .ok (.iand, 1) := by decide +kernel
theorem dX8_extentOver_31 : decode cX8_extentOver 31 = .ok (.iload_n 3, 1) := by decide +kernel
theorem dX8_extentOver_32 : decode cX8_extentOver 32 = .ok (.iconst 1, 1) := by decide +kernel
theorem dX8_extentOver_33 : decode cX8_extentOver 33 = .ok (.iushr, 1) := by decide +kernel
theorem dX8_extentOver_34 : decode cX8_extentOver 34 = .ok (.sipush 255, 3) := by decide +kernel
theorem dX8_extentOver_37 : decode cX8_extentOver 37 = .ok (.iand, 1) := by decide +kernel
theorem dX8_extentOver_38 : decode cX8_extentOver 38 = .ok (.invokestatic 101, 3) := by decide +kernel
theorem dX8_extentOver_41 : decode cX8_extentOver 41 = .ok (.istore 6, 2) := by decide +kernel
theorem dX8_extentOver_43 : decode cX8_extentOver 43 = .ok (.iconst 1, 1) := by decide +kernel
theorem dX8_extentOver_44 : decode cX8_extentOver 44 = .ok (.iload 6, 2) := by decide +kernel
theorem dX8_extentOver_46 : decode cX8_extentOver 46 = .ok (.iload 4, 2) := by decide +kernel
theorem dX8_extentOver_48 : decode cX8_extentOver 48 = .ok (.iconst 1, 1) := by decide +kernel
theorem dX8_extentOver_49 : decode cX8_extentOver 49 = .ok (.iushr, 1) := by decide +kernel
theorem dX8_extentOver_50 : decode cX8_extentOver 50 = .ok (.sipush 255, 3) := by decide +kernel
theorem dX8_extentOver_53 : decode cX8_extentOver 53 = .ok (.iand, 1) := by decide +kernel
theorem dX8_extentOver_54 : decode cX8_extentOver 54 = .ok (.invokestatic 101, 3) := by decide +kernel
theorem dX8_extentOver_57 : decode cX8_extentOver 57 = .ok (.iadd, 1) := by decide +kernel
theorem dX8_extentOver_58 : decode cX8_extentOver 58 = .ok (.sipush 255, 3) := by decide +kernel
theorem dX8_extentOver_61 : decode cX8_extentOver 61 = .ok (.invokestatic 95, 3) := by decide +kernel
theorem dX8_extentOver_64 : decode cX8_extentOver 64 = .ok (.istore 7, 2) := by decide +kernel
theorem dX8_extentOver_66 : decode cX8_extentOver 66 = .ok (.iload 5, 2) := by decide +kernel
theorem dX8_extentOver_68 : decode cX8_extentOver 68 = .ok (.bipush 9, 2) := by decide +kernel
theorem dX8_extentOver_70 : decode cX8_extentOver 70 = .ok (.ishl, 1) := by decide +kernel
theorem dX8_extentOver_71 : decode cX8_extentOver 71 = .ok (.iload 7, 2) := by decide +kernel
theorem dX8_extentOver_73 : decode cX8_extentOver 73 = .ok (.iconst 1, 1) := by decide +kernel
theorem dX8_extentOver_74 : decode cX8_extentOver 74 = .ok (.ishl, 1) := by decide +kernel
theorem dX8_extentOver_75 : decode cX8_extentOver 75 = .ok (.ior, 1) := by decide +kernel
theorem dX8_extentOver_76 : decode cX8_extentOver 76 = .ok (.iload_n 1, 1) := by decide +kernel
theorem dX8_extentOver_77 : decode cX8_extentOver 77 = .ok (.ior, 1) := by decide +kernel
theorem dX8_extentOver_78 : decode cX8_extentOver 78 = .ok (.iload_n 2, 1) := by decide +kernel
theorem dX8_extentOver_79 : decode cX8_extentOver 79 = .ok (.iload_n 3, 1) := by decide +kernel
theorem dX8_extentOver_80 : decode cX8_extentOver 80 = .ok (.ior, 1) := by decide +kernel
theorem dX8_extentOver_81 : decode cX8_extentOver 81 = .ok (.iload 4, 2) := by decide +kernel
theorem dX8_extentOver_83 : decode cX8_extentOver 83 = .ok (.ior, 1) := by decide +kernel
theorem dX8_extentOver_84 : decode cX8_extentOver 84 = .ok (.iconst 1, 1) := by decide +kernel
theorem dX8_extentOver_85 : decode cX8_extentOver 85 = .ok (.iand, 1) := by decide +kernel
theorem dX8_extentOver_86 : decode cX8_extentOver 86 = .ok (.ior, 1) := by decide +kernel
theorem dX8_extentOver_87 : decode cX8_extentOver 87 = .ok (.ireturn, 1) := by decide +kernel
theorem dX8_height_0 : decode cX8_height 0 = .ok (.aload_n 0, 1) := by decide +kernel
theorem dX8_height_1 : decode cX8_height 1 = .ok (.getfield 25, 3) := by decide +kernel
theorem dX8_height_4 : decode cX8_height 4 = .ok (.iload_n 1, 1) := by decide +kernel
theorem dX8_height_5 : decode cX8_height 5 = .ok (.invokevirtual 50, 3) := by decide +kernel
theorem dX8_height_8 : decode cX8_height 8 = .ok (.iconst 1, 1) := by decide +kernel
theorem dX8_height_9 : decode cX8_height 9 = .ok (.iushr, 1) := by decide +kernel
theorem dX8_height_10 : decode cX8_height 10 = .ok (.sipush 255, 3) := by decide +kernel
theorem dX8_height_13 : decode cX8_height 13 = .ok (.iand, 1) := by decide +kernel
theorem dX8_height_14 : decode cX8_height 14 = .ok (.ireturn, 1) := by decide +kernel
theorem dX8_init_0 : decode cX8_init 0 = .ok (.aload_n 0, 1) := by decide +kernel
theorem dX8_init_1 : decode cX8_init 1 = .ok (.invokespecial 3, 3) := by decide +kernel
theorem dX8_init_4 : decode cX8_init 4 = .ok (.aload_n 0, 1) := by decide +kernel
theorem dX8_init_5 : decode cX8_init 5 = .ok (.new 9, 3) := by decide +kernel
theorem dX8_init_8 : decode cX8_init 8 = .ok (.dup, 1) := by decide +kernel
theorem dX8_init_9 : decode cX8_init 9 = .ok (.ldc 11, 2) := by decide +kernel
theorem dX8_init_11 : decode cX8_init 11 = .ok (.invokespecial 12, 3) := by decide +kernel
theorem dX8_init_14 : decode cX8_init 14 = .ok (.putfield 15, 3) := by decide +kernel
theorem dX8_init_17 : decode cX8_init 17 = .ok (.aload_n 0, 1) := by decide +kernel
theorem dX8_init_18 : decode cX8_init 18 = .ok (.new 9, 3) := by decide +kernel
theorem dX8_init_21 : decode cX8_init 21 = .ok (.dup, 1) := by decide +kernel
theorem dX8_init_22 : decode cX8_init 22 = .ok (.ldc 21, 2) := by decide +kernel
theorem dX8_init_24 : decode cX8_init 24 = .ok (.invokespecial 12, 3) := by decide +kernel
theorem dX8_init_27 : decode cX8_init 27 = .ok (.putfield 22, 3) := by decide +kernel
theorem dX8_init_30 : decode cX8_init 30 = .ok (.aload_n 0, 1) := by decide +kernel
theorem dX8_init_31 : decode cX8_init 31 = .ok (.new 9, 3) := by decide +kernel
theorem dX8_init_34 : decode cX8_init 34 = .ok (.dup, 1) := by decide +kernel
theorem dX8_init_35 : decode cX8_init 35 = .ok (.ldc 11, 2) := by decide +kernel
theorem dX8_init_37 : decode cX8_init 37 = .ok (.invokespecial 12, 3) := by decide +kernel
theorem dX8_init_40 : decode cX8_init 40 = .ok (.putfield 25, 3) := by decide +kernel
theorem dX8_init_43 : decode cX8_init 43 = .ok (.aload_n 0, 1) := by decide +kernel
theorem dX8_init_44 : decode cX8_init 44 = .ok (.new 9, 3) := by decide +kernel
theorem dX8_init_47 : decode cX8_init 47 = .ok (.dup, 1) := by decide +kernel
theorem dX8_init_48 : decode cX8_init 48 = .ok (.ldc 11, 2) := by decide +kernel
theorem dX8_init_50 : decode cX8_init 50 = .ok (.invokespecial 12, 3) := by decide +kernel
theorem dX8_init_53 : decode cX8_init 53 = .ok (.putfield 28, 3) := by decide +kernel
theorem dX8_init_56 : decode cX8_init 56 = .ok (.aload_n 0, 1) := by decide +kernel
theorem dX8_init_57 : decode cX8_init 57 = .ok (.new 9, 3) := by decide +kernel
theorem dX8_init_60 : decode cX8_init 60 = .ok (.dup, 1) := by decide +kernel
theorem dX8_init_61 : decode cX8_init 61 = .ok (.ldc 11, 2) := by decide +kernel
theorem dX8_init_63 : decode cX8_init 63 = .ok (.invokespecial 12, 3) := by decide +kernel
theorem dX8_init_66 : decode cX8_init 66 = .ok (.putfield 31, 3) := by decide +kernel
theorem dX8_init_69 : decode cX8_init 69 = .ok (.aload_n 0, 1) := by decide +kernel
theorem dX8_init_70 : decode cX8_init 70 = .ok (.new 9, 3) := by decide +kernel
theorem dX8_init_73 : decode cX8_init 73 = .ok (.dup, 1) := by decide +kernel
theorem dX8_init_74 : decode cX8_init 74 = .ok (.ldc 34, 2) := by decide +kernel
theorem dX8_init_76 : decode cX8_init 76 = .ok (.invokespecial 12, 3) := by decide +kernel
theorem dX8_init_79 : decode cX8_init 79 = .ok (.putfield 35, 3) := by decide +kernel
theorem dX8_init_82 : decode cX8_init 82 = .ok (.aload_n 0, 1) := by decide +kernel
theorem dX8_init_83 : decode cX8_init 83 = .ok (.sipush 768, 3) := by decide +kernel
theorem dX8_init_86 : decode cX8_init 86 = .ok (.newarray .int, 2) := by decide +kernel
theorem dX8_init_88 : decode cX8_init 88 = .ok (.putfield 38, 3) := by decide +kernel
theorem dX8_init_91 : decode cX8_init 91 = .ok (.aload_n 0, 1) := by decide +kernel
theorem dX8_init_92 : decode cX8_init 92 = .ok (.sipush 4096, 3) := by decide +kernel
theorem dX8_init_95 : decode cX8_init 95 = .ok (.putfield 42, 3) := by decide +kernel
theorem dX8_init_98 : decode cX8_init 98 = .ok (.aload_n 0, 1) := by decide +kernel
theorem dX8_init_99 : decode cX8_init 99 = .ok (.aload_n 1, 1) := by decide +kernel
theorem dX8_init_100 : decode cX8_init 100 = .ok (.putfield 46, 3) := by decide +kernel
theorem dX8_init_103 : decode cX8_init 103 = .ok (.return_, 1) := by decide +kernel
theorem dX8_isCrowded_0 : decode cX8_isCrowded 0 = .ok (.aload_n 0, 1) := by decide +kernel
theorem dX8_isCrowded_1 : decode cX8_isCrowded 1 = .ok (.getfield 88, 3) := by decide +kernel
theorem dX8_isCrowded_4 : decode cX8_isCrowded 4 = .ok (.aload_n 0, 1) := by decide +kernel
theorem dX8_isCrowded_5 : decode cX8_isCrowded 5 = .ok (.getfield 42, 3) := by decide +kernel
theorem dX8_isCrowded_8 : decode cX8_isCrowded 8 = .ok (.if_icmp .le 7, 3) := by decide +kernel
theorem dX8_isCrowded_11 : decode cX8_isCrowded 11 = .ok (.iconst 1, 1) := by decide +kernel
theorem dX8_isCrowded_12 : decode cX8_isCrowded 12 = .ok (.goto 4, 3) := by decide +kernel
theorem dX8_isCrowded_15 : decode cX8_isCrowded 15 = .ok (.iconst 0, 1) := by decide +kernel
theorem dX8_isCrowded_16 : decode cX8_isCrowded 16 = .ok (.ireturn, 1) := by decide +kernel
theorem dX8_isGround_0 : decode cX8_isGround 0 = .ok (.aload_n 0, 1) := by decide +kernel
theorem dX8_isGround_1 : decode cX8_isGround 1 = .ok (.getfield 25, 3) := by decide +kernel
theorem dX8_isGround_4 : decode cX8_isGround 4 = .ok (.iload_n 1, 1) := by decide +kernel
theorem dX8_isGround_5 : decode cX8_isGround 5 = .ok (.invokevirtual 50, 3) := by decide +kernel
theorem dX8_isGround_8 : decode cX8_isGround 8 = .ok (.iconst 1, 1) := by decide +kernel
theorem dX8_isGround_9 : decode cX8_isGround 9 = .ok (.iand, 1) := by decide +kernel
theorem dX8_isGround_10 : decode cX8_isGround 10 = .ok (.ifCond .ne 7, 3) := by decide +kernel
theorem dX8_isGround_13 : decode cX8_isGround 13 = .ok (.iconst 1, 1) := by decide +kernel
theorem dX8_isGround_14 : decode cX8_isGround 14 = .ok (.goto 4, 3) := by decide +kernel
theorem dX8_isGround_17 : decode cX8_isGround 17 = .ok (.iconst 0, 1) := by decide +kernel
theorem dX8_isGround_18 : decode cX8_isGround 18 = .ok (.ireturn, 1) := by decide +kernel
theorem dX8_isTooLarge_0 : decode cX8_isTooLarge 0 = .ok (.aload_n 0, 1) := by decide +kernel
theorem dX8_isTooLarge_1 : decode cX8_isTooLarge 1 = .ok (.iload_n 1, 1) := by decide +kernel
theorem dX8_isTooLarge_2 : decode cX8_isTooLarge 2 = .ok (.invokevirtual 62, 3) := by decide +kernel
theorem dX8_isTooLarge_5 : decode cX8_isTooLarge 5 = .ok (.sipush 1000, 3) := by decide +kernel
theorem dX8_isTooLarge_8 : decode cX8_isTooLarge 8 = .ok (.if_icmp .gt 13, 3) := by decide +kernel
theorem dX8_isTooLarge_11 : decode cX8_isTooLarge 11 = .ok (.aload_n 0, 1) := by decide +kernel
theorem dX8_isTooLarge_12 : decode cX8_isTooLarge 12 = .ok (.iload_n 1, 1) := by decide +kernel
theorem dX8_isTooLarge_13 : decode cX8_isTooLarge 13 = .ok (.invokevirtual 65, 3) := by decide +kernel
theorem dX8_isTooLarge_16 : decode cX8_isTooLarge 16 = .ok (.bipush 60, 2) := by decide +kernel
theorem dX8_isTooLarge_18 : decode cX8_isTooLarge 18 = .ok (.if_icmp .le 7, 3) := by decide +kernel
theorem dX8_isTooLarge_21 : decode cX8_isTooLarge 21 = .ok (.iconst 1, 1) := by decide +kernel
theorem dX8_isTooLarge_22 : decode cX8_isTooLarge 22 = .ok (.goto 4, 3) := by decide +kernel
theorem dX8_isTooLarge_25 : decode cX8_isTooLarge 25 = .ok (.iconst 0, 1) := by decide +kernel
theorem dX8_isTooLarge_26 : decode cX8_isTooLarge 26 = .ok (.ireturn, 1) := by decide +kernel
theorem dX8_keep_0 : decode cX8_keep 0 = .ok (.aload_n 0, 1) := by decide +kernel
theorem dX8_keep_1 : decode cX8_keep 1 = .ok (.getfield 85, 3) := by decide +kernel
theorem dX8_keep_4 : decode cX8_keep 4 = .ok (.iconst 1, 1) := by decide +kernel
theorem dX8_keep_5 : decode cX8_keep 5 = .ok (.isub, 1) := by decide +kernel
theorem dX8_keep_6 : decode cX8_keep 6 = .ok (.istore 6, 2) := by decide +kernel
theorem dX8_keep_8 : decode cX8_keep 8 = .ok (.iload 6, 2) := by decide +kernel
theorem dX8_keep_10 : decode cX8_keep 10 = .ok (.ifCond .lt 19, 3) := by decide +kernel
theorem dX8_keep_13 : decode cX8_keep 13 = .ok (.aload_n 0, 1) := by decide +kernel
theorem dX8_keep_14 : decode cX8_keep 14 = .ok (.aload_n 0, 1) := by decide +kernel
theorem dX8_keep_15 : decode cX8_keep 15 = .ok (.getfield 31, 3) := by decide +kernel
theorem dX8_keep_18 : decode cX8_keep 18 = .ok (.iload 6, 2) := by decide +kernel
theorem dX8_keep_20 : decode cX8_keep 20 = .ok (.invokevirtual 50, 3) := by decide +kernel
theorem dX8_keep_23 : decode cX8_keep 23 = .ok (.putfield 85, 3) := by decide +kernel
theorem dX8_keep_26 : decode cX8_keep 26 = .ok (.goto 33, 3) := by decide +kernel
theorem dX8_keep_29 : decode cX8_keep 29 = .ok (.aload_n 0, 1) := by decide +kernel
theorem dX8_keep_30 : decode cX8_keep 30 = .ok (.getfield 76, 3) := by decide +kernel
theorem dX8_keep_33 : decode cX8_keep 33 = .ok (.ldc 11, 2) := by decide +kernel
theorem dX8_keep_35 : decode cX8_keep 35 = .ok (.if_icmp .ge 22, 3) := by decide +kernel
theorem dX8_keep_38 : decode cX8_keep 38 = .ok (.aload_n 0, 1) := by decide +kernel
theorem dX8_keep_39 : decode cX8_keep 39 = .ok (.getfield 76, 3) := by decide +kernel
theorem dX8_keep_42 : decode cX8_keep 42 = .ok (.istore 6, 2) := by decide +kernel
theorem dX8_keep_44 : decode cX8_keep 44 = .ok (.aload_n 0, 1) := by decide +kernel
theorem dX8_keep_45 : decode cX8_keep 45 = .ok (.dup, 1) := by decide +kernel
theorem dX8_keep_46 : decode cX8_keep 46 = .ok (.getfield 76, 3) := by decide +kernel
theorem dX8_keep_49 : decode cX8_keep 49 = .ok (.iconst 1, 1) := by decide +kernel
theorem dX8_keep_50 : decode cX8_keep 50 = .ok (.iadd, 1) := by decide +kernel
theorem dX8_keep_51 : decode cX8_keep 51 = .ok (.putfield 76, 3) := by decide +kernel
theorem dX8_keep_54 : decode cX8_keep 54 = .ok (.goto 5, 3) := by decide +kernel
theorem dX8_keep_57 : decode cX8_keep 57 = .ok (.iconst 0, 1) := by decide +kernel
theorem dX8_keep_58 : decode cX8_keep 58 = .ok (.ireturn, 1) := by decide +kernel
theorem dX8_keep_59 : decode cX8_keep 59 = .ok (.aload_n 0, 1) := by decide +kernel
theorem dX8_keep_60 : decode cX8_keep 60 = .ok (.dup, 1) := by decide +kernel
theorem dX8_keep_61 : decode cX8_keep 61 = .ok (.getfield 88, 3) := by decide +kernel
theorem dX8_keep_64 : decode cX8_keep 64 = .ok (.iconst 1, 1) := by decide +kernel
theorem dX8_keep_65 : decode cX8_keep 65 = .ok (.iadd, 1) := by decide +kernel
theorem dX8_keep_66 : decode cX8_keep 66 = .ok (.putfield 88, 3) := by decide +kernel
theorem dX8_keep_69 : decode cX8_keep 69 = .ok (.aload_n 0, 1) := by decide +kernel
theorem dX8_keep_70 : decode cX8_keep 70 = .ok (.getfield 15, 3) := by decide +kernel
theorem dX8_keep_73 : decode cX8_keep 73 = .ok (.iload 6, 2) := by decide +kernel
theorem dX8_keep_75 : decode cX8_keep 75 = .ok (.iload_n 1, 1) := by decide +kernel
theorem dX8_keep_76 : decode cX8_keep 76 = .ok (.invokevirtual 68, 3) := by decide +kernel
theorem dX8_keep_79 : decode cX8_keep 79 = .ok (.aload_n 0, 1) := by decide +kernel
theorem dX8_keep_80 : decode cX8_keep 80 = .ok (.getfield 22, 3) := by decide +kernel
theorem dX8_keep_83 : decode cX8_keep 83 = .ok (.iconst 3, 1) := by decide +kernel
theorem dX8_keep_84 : decode cX8_keep 84 = .ok (.iload 6, 2) := by decide +kernel
theorem dX8_keep_86 : decode cX8_keep 86 = .ok (.imul, 1) := by decide +kernel
theorem dX8_keep_87 : decode cX8_keep 87 = .ok (.iload_n 2, 1) := by decide +kernel
theorem dX8_keep_88 : decode cX8_keep 88 = .ok (.invokevirtual 68, 3) := by decide +kernel
theorem dX8_keep_91 : decode cX8_keep 91 = .ok (.aload_n 0, 1) := by decide +kernel
theorem dX8_keep_92 : decode cX8_keep 92 = .ok (.getfield 22, 3) := by decide +kernel
theorem dX8_keep_95 : decode cX8_keep 95 = .ok (.iconst 3, 1) := by decide +kernel
theorem dX8_keep_96 : decode cX8_keep 96 = .ok (.iload 6, 2) := by decide +kernel
theorem dX8_keep_98 : decode cX8_keep 98 = .ok (.imul, 1) := by decide +kernel
theorem dX8_keep_99 : decode cX8_keep 99 = .ok (.iconst 1, 1) := by decide +kernel
theorem dX8_keep_100 : decode cX8_keep 100 = .ok (.iadd, 1) := by decide +kernel
theorem dX8_keep_101 : decode cX8_keep 101 = .ok (.iload_n 3, 1) := by decide +kernel
theorem dX8_keep_102 : decode cX8_keep 102 = .ok (.invokevirtual 68, 3) := by decide +kernel
theorem dX8_keep_105 : decode cX8_keep 105 = .ok (.aload_n 0, 1) := by decide +kernel
theorem dX8_keep_106 : decode cX8_keep 106 = .ok (.getfield 22, 3) := by decide +kernel
theorem dX8_keep_109 : decode cX8_keep 109 = .ok (.iconst 3, 1) := by decide +kernel
theorem dX8_keep_110 : decode cX8_keep 110 = .ok (.iload 6, 2) := by decide +kernel
theorem dX8_keep_112 : decode cX8_keep 112 = .ok (.imul, 1) := by decide +kernel
theorem dX8_keep_113 : decode cX8_keep 113 = .ok (.iconst 2, 1) := by decide +kernel
theorem dX8_keep_114 : decode cX8_keep 114 = .ok (.iadd, 1) := by decide +kernel
theorem dX8_keep_115 : decode cX8_keep 115 = .ok (.iload 4, 2) := by decide +kernel
theorem dX8_keep_117 : decode cX8_keep 117 = .ok (.invokevirtual 68, 3) := by decide +kernel
theorem dX8_keep_120 : decode cX8_keep 120 = .ok (.aload_n 0, 1) := by decide +kernel
theorem dX8_keep_121 : decode cX8_keep 121 = .ok (.getfield 46, 3) := by decide +kernel
theorem dX8_keep_124 : decode cX8_keep 124 = .ok (.iload_n 1, 1) := by decide +kernel
theorem dX8_keep_125 : decode cX8_keep 125 = .ok (.invokevirtual 59, 3) := by decide +kernel
theorem dX8_keep_128 : decode cX8_keep 128 = .ok (.iconst (-1), 1) := by decide +kernel
theorem dX8_keep_129 : decode cX8_keep 129 = .ok (.if_icmp .ne 7, 3) := by decide +kernel
theorem dX8_keep_132 : decode cX8_keep 132 = .ok (.iconst 0, 1) := by decide +kernel
theorem dX8_keep_133 : decode cX8_keep 133 = .ok (.goto 4, 3) := by decide +kernel
theorem dX8_keep_136 : decode cX8_keep 136 = .ok (.iconst 1, 1) := by decide +kernel
theorem dX8_keep_137 : decode cX8_keep 137 = .ok (.istore 7, 2) := by decide +kernel
theorem dX8_keep_139 : decode cX8_keep 139 = .ok (.aload_n 0, 1) := by decide +kernel
theorem dX8_keep_140 : decode cX8_keep 140 = .ok (.getfield 25, 3) := by decide +kernel
theorem dX8_keep_143 : decode cX8_keep 143 = .ok (.iload 6, 2) := by decide +kernel
theorem dX8_keep_145 : decode cX8_keep 145 = .ok (.aload_n 0, 1) := by decide +kernel
theorem dX8_keep_146 : decode cX8_keep 146 = .ok (.iload 7, 2) := by decide +kernel
theorem dX8_keep_148 : decode cX8_keep 148 = .ok (.aload_n 0, 1) := by decide +kernel
theorem dX8_keep_149 : decode cX8_keep 149 = .ok (.getfield 25, 3) := by decide +kernel
theorem dX8_keep_152 : decode cX8_keep 152 = .ok (.iload_n 2, 1) := by decide +kernel
theorem dX8_keep_153 : decode cX8_keep 153 = .ok (.invokevirtual 50, 3) := by decide +kernel
theorem dX8_keep_156 : decode cX8_keep 156 = .ok (.aload_n 0, 1) := by decide +kernel
theorem dX8_keep_157 : decode cX8_keep 157 = .ok (.getfield 25, 3) := by decide +kernel
theorem dX8_keep_160 : decode cX8_keep 160 = .ok (.iload_n 3, 1) := by decide +kernel
theorem dX8_keep_161 : decode cX8_keep 161 = .ok (.invokevirtual 50, 3) := by decide +kernel
theorem dX8_keep_164 : decode cX8_keep 164 = .ok (.aload_n 0, 1) := by decide +kernel
theorem dX8_keep_165 : decode cX8_keep 165 = .ok (.getfield 25, 3) := by decide +kernel
theorem dX8_keep_168 : decode cX8_keep 168 = .ok (.iload 4, 2) := by decide +kernel
theorem dX8_keep_170 : decode cX8_keep 170 = .ok (.invokevirtual 50, 3) := by decide +kernel
theorem dX8_keep_173 : decode cX8_keep 173 = .ok (.invokevirtual 91, 3) := by decide +kernel
theorem dX8_keep_176 : decode cX8_keep 176 = .ok (.invokevirtual 68, 3) := by decide +kernel
theorem dX8_keep_179 : decode cX8_keep 179 = .ok (.aload_n 0, 1) := by decide +kernel
theorem dX8_keep_180 : decode cX8_keep 180 = .ok (.getfield 31, 3) := by decide +kernel
theorem dX8_keep_183 : decode cX8_keep 183 = .ok (.iload 6, 2) := by decide +kernel
theorem dX8_keep_185 : decode cX8_keep 185 = .ok (.aload_n 0, 1) := by decide +kernel
theorem dX8_keep_186 : decode cX8_keep 186 = .ok (.getfield 35, 3) := by decide +kernel
theorem dX8_keep_189 : decode cX8_keep 189 = .ok (.iload 5, 2) := by decide +kernel
theorem dX8_keep_191 : decode cX8_keep 191 = .ok (.invokevirtual 50, 3) := by decide +kernel
theorem dX8_keep_194 : decode cX8_keep 194 = .ok (.invokevirtual 68, 3) := by decide +kernel
theorem dX8_keep_197 : decode cX8_keep 197 = .ok (.aload_n 0, 1) := by decide +kernel
theorem dX8_keep_198 : decode cX8_keep 198 = .ok (.getfield 35, 3) := by decide +kernel
theorem dX8_keep_201 : decode cX8_keep 201 = .ok (.iload 5, 2) := by decide +kernel
theorem dX8_keep_203 : decode cX8_keep 203 = .ok (.iload 6, 2) := by decide +kernel
theorem dX8_keep_205 : decode cX8_keep 205 = .ok (.iconst 1, 1) := by decide +kernel
theorem dX8_keep_206 : decode cX8_keep 206 = .ok (.iadd, 1) := by decide +kernel
theorem dX8_keep_207 : decode cX8_keep 207 = .ok (.invokevirtual 68, 3) := by decide +kernel
theorem dX8_keep_210 : decode cX8_keep 210 = .ok (.iload 6, 2) := by decide +kernel
theorem dX8_keep_212 : decode cX8_keep 212 = .ok (.ireturn, 1) := by decide +kernel
theorem dX8_make_0 : decode cX8_make 0 = .ok (.aload_n 0, 1) := by decide +kernel
theorem dX8_make_1 : decode cX8_make 1 = .ok (.iload_n 1, 1) := by decide +kernel
theorem dX8_make_2 : decode cX8_make 2 = .ok (.iload_n 2, 1) := by decide +kernel
theorem dX8_make_3 : decode cX8_make 3 = .ok (.iload_n 3, 1) := by decide +kernel
theorem dX8_make_4 : decode cX8_make 4 = .ok (.iload 4, 2) := by decide +kernel
theorem dX8_make_6 : decode cX8_make 6 = .ok (.invokevirtual 72, 3) := by decide +kernel
theorem dX8_make_9 : decode cX8_make 9 = .ok (.istore 5, 2) := by decide +kernel
theorem dX8_make_11 : decode cX8_make 11 = .ok (.aload_n 0, 1) := by decide +kernel
theorem dX8_make_12 : decode cX8_make 12 = .ok (.getfield 35, 3) := by decide +kernel
theorem dX8_make_15 : decode cX8_make 15 = .ok (.iload 5, 2) := by decide +kernel
theorem dX8_make_17 : decode cX8_make 17 = .ok (.invokevirtual 50, 3) := by decide +kernel
theorem dX8_make_20 : decode cX8_make 20 = .ok (.iconst 1, 1) := by decide +kernel
theorem dX8_make_21 : decode cX8_make 21 = .ok (.isub, 1) := by decide +kernel
theorem dX8_make_22 : decode cX8_make 22 = .ok (.istore 6, 2) := by decide +kernel
theorem dX8_make_24 : decode cX8_make 24 = .ok (.iconst 0, 1) := by decide +kernel
theorem dX8_make_25 : decode cX8_make 25 = .ok (.istore 7, 2) := by decide +kernel
theorem dX8_make_27 : decode cX8_make 27 = .ok (.iload 7, 2) := by decide +kernel
theorem dX8_make_29 : decode cX8_make 29 = .ok (.aload_n 0, 1) := by decide +kernel
theorem dX8_make_30 : decode cX8_make 30 = .ok (.getfield 76, 3) := by decide +kernel
theorem dX8_make_33 : decode cX8_make 33 = .ok (.if_icmp .ge 93, 3) := by decide +kernel
theorem dX8_make_36 : decode cX8_make 36 = .ok (.iload 6, 2) := by decide +kernel
theorem dX8_make_38 : decode cX8_make 38 = .ok (.ifCond .lt 88, 3) := by decide +kernel
theorem dX8_make_41 : decode cX8_make 41 = .ok (.iconst 3, 1) := by decide +kernel
theorem dX8_make_42 : decode cX8_make 42 = .ok (.iload 6, 2) := by decide +kernel
theorem dX8_make_44 : decode cX8_make 44 = .ok (.imul, 1) := by decide +kernel
theorem dX8_make_45 : decode cX8_make 45 = .ok (.istore 8, 2) := by decide +kernel
theorem dX8_make_47 : decode cX8_make 47 = .ok (.aload_n 0, 1) := by decide +kernel
theorem dX8_make_48 : decode cX8_make 48 = .ok (.getfield 15, 3) := by decide +kernel
theorem dX8_make_51 : decode cX8_make 51 = .ok (.iload 6, 2) := by decide +kernel
theorem dX8_make_53 : decode cX8_make 53 = .ok (.invokevirtual 50, 3) := by decide +kernel
theorem dX8_make_56 : decode cX8_make 56 = .ok (.iload_n 1, 1) := by decide +kernel
theorem dX8_make_57 : decode cX8_make 57 = .ok (.if_icmp .ne 50, 3) := by decide +kernel
theorem dX8_make_60 : decode cX8_make 60 = .ok (.aload_n 0, 1) := by decide +kernel
theorem dX8_make_61 : decode cX8_make 61 = .ok (.getfield 22, 3) := by decide +kernel
theorem dX8_make_64 : decode cX8_make 64 = .ok (.iload 8, 2) := by decide +kernel
theorem dX8_make_66 : decode cX8_make 66 = .ok (.invokevirtual 50, 3) := by decide +kernel
theorem dX8_make_69 : decode cX8_make 69 = .ok (.iload_n 2, 1) := by decide +kernel
theorem dX8_make_70 : decode cX8_make 70 = .ok (.if_icmp .ne 37, 3) := by decide +kernel
theorem dX8_make_73 : decode cX8_make 73 = .ok (.aload_n 0, 1) := by decide +kernel
theorem dX8_make_74 : decode cX8_make 74 = .ok (.getfield 22, 3) := by decide +kernel
theorem dX8_make_77 : decode cX8_make 77 = .ok (.iload 8, 2) := by decide +kernel
theorem dX8_make_79 : decode cX8_make 79 = .ok (.iconst 1, 1) := by decide +kernel
theorem dX8_make_80 : decode cX8_make 80 = .ok (.iadd, 1) := by decide +kernel
theorem dX8_make_81 : decode cX8_make 81 = .ok (.invokevirtual 50, 3) := by decide +kernel
theorem dX8_make_84 : decode cX8_make 84 = .ok (.iload_n 3, 1) := by decide +kernel
theorem dX8_make_85 : decode cX8_make 85 = .ok (.if_icmp .ne 22, 3) := by decide +kernel
theorem dX8_make_88 : decode cX8_make 88 = .ok (.aload_n 0, 1) := by decide +kernel
theorem dX8_make_89 : decode cX8_make 89 = .ok (.getfield 22, 3) := by decide +kernel
theorem dX8_make_92 : decode cX8_make 92 = .ok (.iload 8, 2) := by decide +kernel
theorem dX8_make_94 : decode cX8_make 94 = .ok (.iconst 2, 1) := by decide +kernel
theorem dX8_make_95 : decode cX8_make 95 = .ok (.iadd, 1) := by decide +kernel
theorem dX8_make_96 : decode cX8_make 96 = .ok (.invokevirtual 50, 3) := by decide +kernel
theorem dX8_make_99 : decode cX8_make 99 = .ok (.iload 4, 2) := by decide +kernel
theorem dX8_make_101 : decode cX8_make 101 = .ok (.if_icmp .ne 6, 3) := by decide +kernel
theorem dX8_make_104 : decode cX8_make 104 = .ok (.iload 6, 2) := by decide +kernel
theorem dX8_make_106 : decode cX8_make 106 = .ok (.ireturn, 1) := by decide +kernel
theorem dX8_make_107 : decode cX8_make 107 = .ok (.aload_n 0, 1) := by decide +kernel
theorem dX8_make_108 : decode cX8_make 108 = .ok (.getfield 31, 3) := by decide +kernel
theorem dX8_make_111 : decode cX8_make 111 = .ok (.iload 6, 2) := by decide +kernel
theorem dX8_make_113 : decode cX8_make 113 = .ok (.invokevirtual 50, 3) := by decide +kernel
theorem dX8_make_116 : decode cX8_make 116 = .ok (.iconst 1, 1) := by decide +kernel
theorem dX8_make_117 : decode cX8_make 117 = .ok (.isub, 1) := by decide +kernel
theorem dX8_make_118 : decode cX8_make 118 = .ok (.istore 6, 2) := by decide +kernel
theorem dX8_make_120 : decode cX8_make 120 = .ok (.iinc 7 1, 3) := by decide +kernel
theorem dX8_make_123 : decode cX8_make 123 = .ok (.goto (-96), 3) := by decide +kernel
theorem dX8_make_126 : decode cX8_make 126 = .ok (.aload_n 0, 1) := by decide +kernel
theorem dX8_make_127 : decode cX8_make 127 = .ok (.iload_n 1, 1) := by decide +kernel
theorem dX8_make_128 : decode cX8_make 128 = .ok (.iload_n 2, 1) := by decide +kernel
theorem dX8_make_129 : decode cX8_make 129 = .ok (.iload_n 3, 1) := by decide +kernel
theorem dX8_make_130 : decode cX8_make 130 = .ok (.iload 4, 2) := by decide +kernel
theorem dX8_make_132 : decode cX8_make 132 = .ok (.iload 5, 2) := by decide +kernel
theorem dX8_make_134 : decode cX8_make 134 = .ok (.invokevirtual 79, 3) := by decide +kernel
theorem dX8_make_137 : decode cX8_make 137 = .ok (.ireturn, 1) := by decide +kernel
theorem dX8_number_0 : decode cX8_number 0 = .ok (.aload_n 0, 1) := by decide +kernel
theorem dX8_number_1 : decode cX8_number 1 = .ok (.getfield 28, 3) := by decide +kernel
theorem dX8_number_4 : decode cX8_number 4 = .ok (.iload_n 1, 1) := by decide +kernel
theorem dX8_number_5 : decode cX8_number 5 = .ok (.invokevirtual 50, 3) := by decide +kernel
theorem dX8_number_8 : decode cX8_number 8 = .ok (.iconst 1, 1) := by decide +kernel
theorem dX8_number_9 : decode cX8_number 9 = .ok (.isub, 1) := by decide +kernel
theorem dX8_number_10 : decode cX8_number 10 = .ok (.ireturn, 1) := by decide +kernel
theorem dX8_part_0 : decode cX8_part 0 = .ok (.iload_n 1, 1) := by decide +kernel
theorem dX8_part_1 : decode cX8_part 1 = .ok (.ifCond .ge 7, 3) := by decide +kernel
theorem dX8_part_4 : decode cX8_part 4 = .ok (.iconst (-1), 1) := by decide +kernel
theorem dX8_part_5 : decode cX8_part 5 = .ok (.goto 15, 3) := by decide +kernel
theorem dX8_part_8 : decode cX8_part 8 = .ok (.aload_n 0, 1) := by decide +kernel
theorem dX8_part_9 : decode cX8_part 9 = .ok (.getfield 22, 3) := by decide +kernel
theorem dX8_part_12 : decode cX8_part 12 = .ok (.iconst 3, 1) := by decide +kernel
theorem dX8_part_13 : decode cX8_part 13 = .ok (.iload_n 1, 1) := by decide +kernel
theorem dX8_part_14 : decode cX8_part 14 = .ok (.imul, 1) := by decide +kernel
theorem dX8_part_15 : decode cX8_part 15 = .ok (.iload_n 2, 1) := by decide +kernel
theorem dX8_part_16 : decode cX8_part 16 = .ok (.iadd, 1) := by decide +kernel
theorem dX8_part_17 : decode cX8_part 17 = .ok (.invokevirtual 50, 3) := by decide +kernel
theorem dX8_part_20 : decode cX8_part 20 = .ok (.ireturn, 1) := by decide +kernel
theorem dX8_setNumber_0 : decode cX8_setNumber 0 = .ok (.aload_n 0, 1) := by decide +kernel
theorem dX8_setNumber_1 : decode cX8_setNumber 1 = .ok (.getfield 28, 3) := by decide +kernel
theorem dX8_setNumber_4 : decode cX8_setNumber 4 = .ok (.iload_n 1, 1) := by decide +kernel
theorem dX8_setNumber_5 : decode cX8_setNumber 5 = .ok (.iload_n 2, 1) := by decide +kernel
theorem dX8_setNumber_6 : decode cX8_setNumber 6 = .ok (.iconst 1, 1) := by decide +kernel
theorem dX8_setNumber_7 : decode cX8_setNumber 7 = .ok (.iadd, 1) := by decide +kernel
theorem dX8_setNumber_8 : decode cX8_setNumber 8 = .ok (.invokevirtual 68, 3) := by decide +kernel
theorem dX8_setNumber_11 : decode cX8_setNumber 11 = .ok (.return_, 1) := by decide +kernel
theorem dX8_symbol_0 : decode cX8_symbol 0 = .ok (.aload_n 0, 1) := by decide +kernel
theorem dX8_symbol_1 : decode cX8_symbol 1 = .ok (.getfield 15, 3) := by decide +kernel
theorem dX8_symbol_4 : decode cX8_symbol 4 = .ok (.iload_n 1, 1) := by decide +kernel
theorem dX8_symbol_5 : decode cX8_symbol 5 = .ok (.invokevirtual 50, 3) := by decide +kernel
theorem dX8_symbol_8 : decode cX8_symbol 8 = .ok (.ireturn, 1) := by decide +kernel
theorem dX8_width_0 : decode cX8_width 0 = .ok (.aload_n 0, 1) := by decide +kernel
theorem dX8_width_1 : decode cX8_width 1 = .ok (.getfield 25, 3) := by decide +kernel
theorem dX8_width_4 : decode cX8_width 4 = .ok (.iload_n 1, 1) := by decide +kernel
theorem dX8_width_5 : decode cX8_width 5 = .ok (.invokevirtual 50, 3) := by decide +kernel
theorem dX8_width_8 : decode cX8_width 8 = .ok (.bipush 9, 2) := by decide +kernel
theorem dX8_width_10 : decode cX8_width 10 = .ok (.iushr, 1) := by decide +kernel
theorem dX8_width_11 : decode cX8_width 11 = .ok (.ireturn, 1) := by decide +kernel
theorem dX9_addEquation_0 : decode cX9_addEquation 0 = .ok (.aload_n 0, 1) := by decide +kernel
theorem dX9_addEquation_1 : decode cX9_addEquation 1 = .ok (.getfield 71, 3) := by decide +kernel
theorem dX9_addEquation_4 : decode cX9_addEquation 4 = .ok (.ifCond .lt 42, 3) := by decide +kernel
theorem dX9_addEquation_7 : decode cX9_addEquation 7 = .ok (.aload_n 0, 1) := by decide +kernel
theorem dX9_addEquation_8 : decode cX9_addEquation 8 = .ok (.getfield 71, 3) := by decide +kernel
theorem dX9_addEquation_11 : decode cX9_addEquation 11 = .ok (.bipush 30, 2) := by decide +kernel
theorem dX9_addEquation_13 : decode cX9_addEquation 13 = .ok (.if_icmp .ge 33, 3) := by decide +kernel
theorem dX9_addEquation_16 : decode cX9_addEquation 16 = .ok (.aload_n 0, 1) := by decide +kernel
theorem dX9_addEquation_17 : decode cX9_addEquation 17 = .ok (.getfield 9, 3) := by decide +kernel
theorem dX9_addEquation_20 : decode cX9_addEquation 20 = .ok (.aload_n 0, 1) := by decide +kernel
theorem dX9_addEquation_21 : decode cX9_addEquation 21 = .ok (.getfield 71, 3) := by decide +kernel
theorem dX9_addEquation_24 : decode cX9_addEquation 24 = .ok (.iload_n 1, 1) := by decide +kernel
theorem dX9_addEquation_25 : decode cX9_addEquation 25 = .ok (.iastore, 1) := by decide +kernel
theorem dX9_addEquation_26 : decode cX9_addEquation 26 = .ok (.aload_n 0, 1) := by decide +kernel
theorem dX9_addEquation_27 : decode cX9_addEquation 27 = .ok (.getfield 15, 3) := by decide +kernel
theorem dX9_addEquation_30 : decode cX9_addEquation 30 = .ok (.aload_n 0, 1) := by decide +kernel
theorem dX9_addEquation_31 : decode cX9_addEquation 31 = .ok (.getfield 71, 3) := by decide +kernel
theorem dX9_addEquation_34 : decode cX9_addEquation 34 = .ok (.iload_n 2, 1) := by decide +kernel
theorem dX9_addEquation_35 : decode cX9_addEquation 35 = .ok (.iastore, 1) := by decide +kernel
theorem dX9_addEquation_36 : decode cX9_addEquation 36 = .ok (.aload_n 0, 1) := by decide +kernel
theorem dX9_addEquation_37 : decode cX9_addEquation 37 = .ok (.dup, 1) := by decide +kernel
theorem dX9_addEquation_38 : decode cX9_addEquation 38 = .ok (.getfield 71, 3) := by decide +kernel
theorem dX9_addEquation_41 : decode cX9_addEquation 41 = .ok (.iconst 1, 1) := by decide +kernel
theorem dX9_addEquation_42 : decode cX9_addEquation 42 = .ok (.iadd, 1) := by decide +kernel
theorem dX9_addEquation_43 : decode cX9_addEquation 43 = .ok (.putfield 71, 3) := by decide +kernel
theorem dX9_addEquation_46 : decode cX9_addEquation 46 = .ok (.return_, 1) := by decide +kernel
theorem dX9_addRule_0 : decode cX9_addRule 0 = .ok (.aload_n 0, 1) := by decide +kernel
theorem dX9_addRule_1 : decode cX9_addRule 1 = .ok (.getfield 168, 3) := by decide +kernel
theorem dX9_addRule_4 : decode cX9_addRule 4 = .ok (.ifCond .lt 54, 3) := by decide +kernel
theorem dX9_addRule_7 : decode cX9_addRule 7 = .ok (.aload_n 0, 1) := by decide +kernel
theorem dX9_addRule_8 : decode cX9_addRule 8 = .ok (.getfield 168, 3) := by decide +kernel
theorem dX9_addRule_11 : decode cX9_addRule 11 = .ok (.bipush 30, 2) := by decide +kernel
theorem dX9_addRule_13 : decode cX9_addRule 13 = .ok (.if_icmp .ge 45, 3) := by decide +kernel
theorem dX9_addRule_16 : decode cX9_addRule 16 = .ok (.aload_n 0, 1) := by decide +kernel
theorem dX9_addRule_17 : decode cX9_addRule 17 = .ok (.getfield 30, 3) := by decide +kernel
theorem dX9_addRule_20 : decode cX9_addRule 20 = .ok (.aload_n 0, 1) := by decide +kernel
theorem dX9_addRule_21 : decode cX9_addRule 21 = .ok (.getfield 168, 3) := by decide +kernel
theorem dX9_addRule_24 : decode cX9_addRule 24 = .ok (.iload_n 1, 1) := by decide +kernel
theorem dX9_addRule_25 : decode cX9_addRule 25 = .ok (.iastore, 1) := by decide +kernel
theorem dX9_addRule_26 : decode cX9_addRule 26 = .ok (.aload_n 0, 1) := by decide +kernel
theorem dX9_addRule_27 : decode cX9_addRule 27 = .ok (.getfield 33, 3) := by decide +kernel
theorem dX9_addRule_30 : decode cX9_addRule 30 = .ok (.aload_n 0, 1) := by decide +kernel
theorem dX9_addRule_31 : decode cX9_addRule 31 = .ok (.getfield 168, 3) := by decide +kernel
theorem dX9_addRule_34 : decode cX9_addRule 34 = .ok (.iload_n 2, 1) := by decide +kernel
theorem dX9_addRule_35 : decode cX9_addRule 35 = .ok (.iastore, 1) := by decide +kernel
theorem dX9_addRule_36 : decode cX9_addRule 36 = .ok (.aload_n 0, 1) := by decide +kernel
theorem dX9_addRule_37 : decode cX9_addRule 37 = .ok (.getfield 42, 3) := by decide +kernel
theorem dX9_addRule_40 : decode cX9_addRule 40 = .ok (.iload_n 1, 1) := by decide +kernel
theorem dX9_addRule_41 : decode cX9_addRule 41 = .ok (.aload_n 0, 1) := by decide +kernel
theorem dX9_addRule_42 : decode cX9_addRule 42 = .ok (.getfield 168, 3) := by decide +kernel
theorem dX9_addRule_45 : decode cX9_addRule 45 = .ok (.invokevirtual 187, 3) := by decide +kernel
theorem dX9_addRule_48 : decode cX9_addRule 48 = .ok (.aload_n 0, 1) := by decide +kernel
theorem dX9_addRule_49 : decode cX9_addRule 49 = .ok (.dup, 1) := by decide +kernel
theorem dX9_addRule_50 : decode cX9_addRule 50 = .ok (.getfield 168, 3) := by decide +kernel
theorem dX9_addRule_53 : decode cX9_addRule 53 = .ok (.iconst 1, 1) := by decide +kernel
theorem dX9_addRule_54 : decode cX9_addRule 54 = .ok (.iadd, 1) := by decide +kernel
theorem dX9_addRule_55 : decode cX9_addRule 55 = .ok (.putfield 168, 3) := by decide +kernel
theorem dX9_addRule_58 : decode cX9_addRule 58 = .ok (.return_, 1) := by decide +kernel
theorem dX9_closeLevel_0 : decode cX9_closeLevel 0 = .ok (.aload_n 0, 1) := by decide +kernel
theorem dX9_closeLevel_1 : decode cX9_closeLevel 1 = .ok (.getfield 85, 3) := by decide +kernel
theorem dX9_closeLevel_4 : decode cX9_closeLevel 4 = .ok (.ifCond .le 44, 3) := by decide +kernel
theorem dX9_closeLevel_7 : decode cX9_closeLevel 7 = .ok (.aload_n 0, 1) := by decide +kernel
theorem dX9_closeLevel_8 : decode cX9_closeLevel 8 = .ok (.getfield 85, 3) := by decide +kernel
theorem dX9_closeLevel_11 : decode cX9_closeLevel 11 = .ok (.bipush 8, 2) := by decide +kernel
theorem dX9_closeLevel_13 : decode cX9_closeLevel 13 = .ok (.if_icmp .gt 35, 3) := by decide +kernel
theorem dX9_closeLevel_16 : decode cX9_closeLevel 16 = .ok (.aload_n 0, 1) := by decide +kernel
theorem dX9_closeLevel_17 : decode cX9_closeLevel 17 = .ok (.dup, 1) := by decide +kernel
theorem dX9_closeLevel_18 : decode cX9_closeLevel 18 = .ok (.getfield 85, 3) := by decide +kernel
theorem dX9_closeLevel_21 : decode cX9_closeLevel 21 = .ok (.iconst 1, 1) := by decide +kernel
theorem dX9_closeLevel_22 : decode cX9_closeLevel 22 = .ok (.isub, 1) := by decide +kernel
theorem dX9_closeLevel_23 : decode cX9_closeLevel 23 = .ok (.putfield 85, 3) := by decide +kernel
theorem dX9_closeLevel_26 : decode cX9_closeLevel 26 = .ok (.aload_n 0, 1) := by decide +kernel
theorem dX9_closeLevel_27 : decode cX9_closeLevel 27 = .ok (.aload_n 0, 1) := by decide +kernel
theorem dX9_closeLevel_28 : decode cX9_closeLevel 28 = .ok (.getfield 24, 3) := by decide +kernel
theorem dX9_closeLevel_31 : decode cX9_closeLevel 31 = .ok (.aload_n 0, 1) := by decide +kernel
theorem dX9_closeLevel_32 : decode cX9_closeLevel 32 = .ok (.getfield 85, 3) := by decide +kernel
theorem dX9_closeLevel_35 : decode cX9_closeLevel 35 = .ok (.iaload, 1) := by decide +kernel
theorem dX9_closeLevel_36 : decode cX9_closeLevel 36 = .ok (.aload_n 0, 1) := by decide +kernel
theorem dX9_closeLevel_37 : decode cX9_closeLevel 37 = .ok (.getfield 27, 3) := by decide +kernel
theorem dX9_closeLevel_40 : decode cX9_closeLevel 40 = .ok (.aload_n 0, 1) := by decide +kernel
theorem dX9_closeLevel_41 : decode cX9_closeLevel 41 = .ok (.getfield 85, 3) := by decide +kernel
theorem dX9_closeLevel_44 : decode cX9_closeLevel 44 = .ok (.iaload, 1) := by decide +kernel
theorem dX9_closeLevel_45 : decode cX9_closeLevel 45 = .ok (.invokevirtual 88, 3) := by decide +kernel
theorem dX9_closeLevel_48 : decode cX9_closeLevel 48 = .ok (.return_, 1) := by decide +kernel
theorem dX9_complete_0 : decode cX9_complete 0 = .ok (.aload_n 0, 1) := by decide +kernel
theorem dX9_complete_1 : decode cX9_complete 1 = .ok (.iconst (-1), 1) := by decide +kernel
theorem dX9_complete_2 : decode cX9_complete 2 = .ok (.iconst (-1), 1) := by decide +kernel
theorem dX9_complete_3 : decode cX9_complete 3 = .ok (.iconst (-1), 1) := by decide +kernel
theorem dX9_complete_4 : decode cX9_complete 4 = .ok (.invokevirtual 91, 3) := by decide +kernel
theorem dX9_complete_7 : decode cX9_complete 7 = .ok (.aload_n 0, 1) := by decide +kernel
theorem dX9_complete_8 : decode cX9_complete 8 = .ok (.getfield 67, 3) := by decide +kernel
theorem dX9_complete_11 : decode cX9_complete 11 = .ok (.invokevirtual 95, 3) := by decide +kernel
theorem dX9_complete_14 : decode cX9_complete 14 = .ok (.aload_n 0, 1) := by decide +kernel
theorem dX9_complete_15 : decode cX9_complete 15 = .ok (.getfield 67, 3) := by decide +kernel
theorem dX9_complete_18 : decode cX9_complete 18 = .ok (.aload_n 0, 1) := by decide +kernel
theorem dX9_complete_19 : decode cX9_complete 19 = .ok (.getfield 58, 3) := by decide +kernel
theorem dX9_complete_22 : decode cX9_complete 22 = .ok (.invokevirtual 98, 3) := by decide +kernel
theorem dX9_complete_25 : decode cX9_complete 25 = .ok (.aload_n 0, 1) := by decide +kernel
theorem dX9_complete_26 : decode cX9_complete 26 = .ok (.getfield 58, 3) := by decide +kernel
theorem dX9_complete_29 : decode cX9_complete 29 = .ok (.aload_n 0, 1) := by decide +kernel
theorem dX9_complete_30 : decode cX9_complete 30 = .ok (.getfield 46, 3) := by decide +kernel
theorem dX9_complete_33 : decode cX9_complete 33 = .ok (.invokevirtual 102, 3) := by decide +kernel
theorem dX9_complete_36 : decode cX9_complete 36 = .ok (.invokevirtual 108, 3) := by decide +kernel
theorem dX9_complete_39 : decode cX9_complete 39 = .ok (.iconst 0, 1) := by decide +kernel
theorem dX9_complete_40 : decode cX9_complete 40 = .ok (.istore_n 1, 1) := by decide +kernel
theorem dX9_complete_41 : decode cX9_complete 41 = .ok (.iload_n 1, 1) := by decide +kernel
theorem dX9_complete_42 : decode cX9_complete 42 = .ok (.aload_n 0, 1) := by decide +kernel
theorem dX9_complete_43 : decode cX9_complete 43 = .ok (.getfield 58, 3) := by decide +kernel
theorem dX9_complete_46 : decode cX9_complete 46 = .ok (.invokevirtual 113, 3) := by decide +kernel
theorem dX9_complete_49 : decode cX9_complete 49 = .ok (.if_icmp .ge 57, 3) := by decide +kernel
theorem dX9_complete_52 : decode cX9_complete 52 = .ok (.aload_n 0, 1) := by decide +kernel
theorem dX9_complete_53 : decode cX9_complete 53 = .ok (.getfield 58, 3) := by decide +kernel
theorem dX9_complete_56 : decode cX9_complete 56 = .ok (.iload_n 1, 1) := by decide +kernel
theorem dX9_complete_57 : decode cX9_complete 57 = .ok (.invokevirtual 116, 3) := by decide +kernel
theorem dX9_complete_60 : decode cX9_complete 60 = .ok (.istore_n 2, 1) := by decide +kernel
theorem dX9_complete_61 : decode cX9_complete 61 = .ok (.aload_n 0, 1) := by decide +kernel
theorem dX9_complete_62 : decode cX9_complete 62 = .ok (.getfield 58, 3) := by decide +kernel
theorem dX9_complete_65 : decode cX9_complete 65 = .ok (.aload_n 0, 1) := by decide +kernel
theorem dX9_complete_66 : decode cX9_complete 66 = .ok (.getfield 58, 3) := by decide +kernel
theorem dX9_complete_69 : decode cX9_complete 69 = .ok (.iload_n 2, 1) := by decide +kernel
theorem dX9_complete_70 : decode cX9_complete 70 = .ok (.invokevirtual 120, 3) := by decide +kernel
theorem dX9_complete_73 : decode cX9_complete 73 = .ok (.invokevirtual 123, 3) := by decide +kernel
theorem dX9_complete_76 : decode cX9_complete 76 = .ok (.istore_n 3, 1) := by decide +kernel
theorem dX9_complete_77 : decode cX9_complete 77 = .ok (.iload_n 2, 1) := by decide +kernel
theorem dX9_complete_78 : decode cX9_complete 78 = .ok (.iload_n 3, 1) := by decide +kernel
theorem dX9_complete_79 : decode cX9_complete 79 = .ok (.if_icmp .eq 21, 3) := by decide +kernel
theorem dX9_complete_82 : decode cX9_complete 82 = .ok (.aload_n 0, 1) := by decide +kernel
theorem dX9_complete_83 : decode cX9_complete 83 = .ok (.iload_n 2, 1) := by decide +kernel
theorem dX9_complete_84 : decode cX9_complete 84 = .ok (.invokevirtual 126, 3) := by decide +kernel
theorem dX9_complete_87 : decode cX9_complete 87 = .ok (.ifCond .ne 11, 3) := by decide +kernel
theorem dX9_complete_90 : decode cX9_complete 90 = .ok (.aload_n 0, 1) := by decide +kernel
theorem dX9_complete_91 : decode cX9_complete 91 = .ok (.iload_n 3, 1) := by decide +kernel
theorem dX9_complete_92 : decode cX9_complete 92 = .ok (.invokevirtual 126, 3) := by decide +kernel
theorem dX9_complete_95 : decode cX9_complete 95 = .ok (.ifCond .eq 5, 3) := by decide +kernel
theorem dX9_complete_98 : decode cX9_complete 98 = .ok (.iconst 0, 1) := by decide +kernel
theorem dX9_complete_99 : decode cX9_complete 99 = .ok (.ireturn, 1) := by decide +kernel
theorem dX9_complete_100 : decode cX9_complete 100 = .ok (.iinc 1 1, 3) := by decide +kernel
theorem dX9_complete_103 : decode cX9_complete 103 = .ok (.goto (-62), 3) := by decide +kernel
theorem dX9_complete_106 : decode cX9_complete 106 = .ok (.aload_n 0, 1) := by decide +kernel
theorem dX9_complete_107 : decode cX9_complete 107 = .ok (.invokevirtual 130, 3) := by decide +kernel
theorem dX9_complete_110 : decode cX9_complete 110 = .ok (.iconst 1, 1) := by decide +kernel
theorem dX9_complete_111 : decode cX9_complete 111 = .ok (.ireturn, 1) := by decide +kernel
theorem dX9_countSteps_0 : decode cX9_countSteps 0 = .ok (.aload_n 0, 1) := by decide +kernel
theorem dX9_countSteps_1 : decode cX9_countSteps 1 = .ok (.iload_n 1, 1) := by decide +kernel
theorem dX9_countSteps_2 : decode cX9_countSteps 2 = .ok (.invokevirtual 217, 3) := by decide +kernel
theorem dX9_countSteps_5 : decode cX9_countSteps 5 = .ok (.pop, 1) := by decide +kernel
theorem dX9_countSteps_6 : decode cX9_countSteps 6 = .ok (.aload_n 0, 1) := by decide +kernel
theorem dX9_countSteps_7 : decode cX9_countSteps 7 = .ok (.getfield 54, 3) := by decide +kernel
theorem dX9_countSteps_10 : decode cX9_countSteps 10 = .ok (.aload_n 0, 1) := by decide +kernel
theorem dX9_countSteps_11 : decode cX9_countSteps 11 = .ok (.getfield 54, 3) := by decide +kernel
theorem dX9_countSteps_14 : decode cX9_countSteps 14 = .ok (.invokevirtual 193, 3) := by decide +kernel
theorem dX9_countSteps_17 : decode cX9_countSteps 17 = .ok (.iconst 1, 1) := by decide +kernel
theorem dX9_countSteps_18 : decode cX9_countSteps 18 = .ok (.isub, 1) := by decide +kernel
theorem dX9_countSteps_19 : decode cX9_countSteps 19 = .ok (.invokevirtual 223, 3) := by decide +kernel
theorem dX9_countSteps_22 : decode cX9_countSteps 22 = .ok (.ireturn, 1) := by decide +kernel
theorem dX9_gather_0 : decode cX9_gather 0 = .ok (.aload_n 0, 1) := by decide +kernel
theorem dX9_gather_1 : decode cX9_gather 1 = .ok (.getfield 54, 3) := by decide +kernel
theorem dX9_gather_4 : decode cX9_gather 4 = .ok (.invokevirtual 133, 3) := by decide +kernel
theorem dX9_gather_7 : decode cX9_gather 7 = .ok (.iconst 0, 1) := by decide +kernel
theorem dX9_gather_8 : decode cX9_gather 8 = .ok (.istore 4, 2) := by decide +kernel
theorem dX9_gather_10 : decode cX9_gather 10 = .ok (.iload 4, 2) := by decide +kernel
theorem dX9_gather_12 : decode cX9_gather 12 = .ok (.aload_n 0, 1) := by decide +kernel
theorem dX9_gather_13 : decode cX9_gather 13 = .ok (.getfield 71, 3) := by decide +kernel
theorem dX9_gather_16 : decode cX9_gather 16 = .ok (.if_icmp .ge 50, 3) := by decide +kernel
theorem dX9_gather_19 : decode cX9_gather 19 = .ok (.iload 4, 2) := by decide +kernel
theorem dX9_gather_21 : decode cX9_gather 21 = .ok (.bipush 30, 2) := by decide +kernel
theorem dX9_gather_23 : decode cX9_gather 23 = .ok (.if_icmp .ge 43, 3) := by decide +kernel
theorem dX9_gather_26 : decode cX9_gather 26 = .ok (.iload 4, 2) := by decide +kernel
theorem dX9_gather_28 : decode cX9_gather 28 = .ok (.iload_n 1, 1) := by decide +kernel
theorem dX9_gather_29 : decode cX9_gather 29 = .ok (.if_icmp .eq 31, 3) := by decide +kernel
theorem dX9_gather_32 : decode cX9_gather 32 = .ok (.aload_n 0, 1) := by decide +kernel
theorem dX9_gather_33 : decode cX9_gather 33 = .ok (.getfield 54, 3) := by decide +kernel
theorem dX9_gather_36 : decode cX9_gather 36 = .ok (.aload_n 0, 1) := by decide +kernel
theorem dX9_gather_37 : decode cX9_gather 37 = .ok (.getfield 9, 3) := by decide +kernel
theorem dX9_gather_40 : decode cX9_gather 40 = .ok (.iload 4, 2) := by decide +kernel
theorem dX9_gather_42 : decode cX9_gather 42 = .ok (.iaload, 1) := by decide +kernel
theorem dX9_gather_43 : decode cX9_gather 43 = .ok (.invokevirtual 138, 3) := by decide +kernel
theorem dX9_gather_46 : decode cX9_gather 46 = .ok (.aload_n 0, 1) := by decide +kernel
theorem dX9_gather_47 : decode cX9_gather 47 = .ok (.getfield 54, 3) := by decide +kernel
theorem dX9_gather_50 : decode cX9_gather 50 = .ok (.aload_n 0, 1) := by decide +kernel
theorem dX9_gather_51 : decode cX9_gather 51 = .ok (.getfield 15, 3) := by decide +kernel
theorem dX9_gather_54 : decode cX9_gather 54 = .ok (.iload 4, 2) := by decide +kernel
theorem dX9_gather_56 : decode cX9_gather 56 = .ok (.iaload, 1) := by decide +kernel
theorem dX9_gather_57 : decode cX9_gather 57 = .ok (.invokevirtual 138, 3) := by decide +kernel
theorem dX9_gather_60 : decode cX9_gather 60 = .ok (.iinc 4 1, 3) := by decide +kernel
theorem dX9_gather_63 : decode cX9_gather 63 = .ok (.goto (-53), 3) := by decide +kernel
theorem dX9_gather_66 : decode cX9_gather 66 = .ok (.aload_n 0, 1) := by decide +kernel
theorem dX9_gather_67 : decode cX9_gather 67 = .ok (.getfield 54, 3) := by decide +kernel
theorem dX9_gather_70 : decode cX9_gather 70 = .ok (.iload_n 2, 1) := by decide +kernel
theorem dX9_gather_71 : decode cX9_gather 71 = .ok (.invokevirtual 138, 3) := by decide +kernel
theorem dX9_gather_74 : decode cX9_gather 74 = .ok (.aload_n 0, 1) := by decide +kernel
theorem dX9_gather_75 : decode cX9_gather 75 = .ok (.getfield 54, 3) := by decide +kernel
theorem dX9_gather_78 : decode cX9_gather 78 = .ok (.iload_n 3, 1) := by decide +kernel
theorem dX9_gather_79 : decode cX9_gather 79 = .ok (.invokevirtual 138, 3) := by decide +kernel
theorem dX9_gather_82 : decode cX9_gather 82 = .ok (.aload_n 0, 1) := by decide +kernel
theorem dX9_gather_83 : decode cX9_gather 83 = .ok (.getfield 67, 3) := by decide +kernel
theorem dX9_gather_86 : decode cX9_gather 86 = .ok (.invokevirtual 141, 3) := by decide +kernel
theorem dX9_gather_89 : decode cX9_gather 89 = .ok (.iconst 0, 1) := by decide +kernel
theorem dX9_gather_90 : decode cX9_gather 90 = .ok (.istore 4, 2) := by decide +kernel
theorem dX9_gather_92 : decode cX9_gather 92 = .ok (.iload 4, 2) := by decide +kernel
theorem dX9_gather_94 : decode cX9_gather 94 = .ok (.aload_n 0, 1) := by decide +kernel
theorem dX9_gather_95 : decode cX9_gather 95 = .ok (.getfield 71, 3) := by decide +kernel
theorem dX9_gather_98 : decode cX9_gather 98 = .ok (.if_icmp .ge 57, 3) := by decide +kernel
theorem dX9_gather_101 : decode cX9_gather 101 = .ok (.iload 4, 2) := by decide +kernel
theorem dX9_gather_103 : decode cX9_gather 103 = .ok (.bipush 30, 2) := by decide +kernel
theorem dX9_gather_105 : decode cX9_gather 105 = .ok (.if_icmp .ge 50, 3) := by decide +kernel
theorem dX9_gather_108 : decode cX9_gather 108 = .ok (.iload 4, 2) := by decide +kernel
theorem dX9_gather_110 : decode cX9_gather 110 = .ok (.iload_n 1, 1) := by decide +kernel
theorem dX9_gather_111 : decode cX9_gather 111 = .ok (.if_icmp .eq 38, 3) := by decide +kernel
theorem dX9_gather_114 : decode cX9_gather 114 = .ok (.aload_n 0, 1) := by decide +kernel
theorem dX9_gather_115 : decode cX9_gather 115 = .ok (.getfield 67, 3) := by decide +kernel
theorem dX9_gather_118 : decode cX9_gather 118 = .ok (.aload_n 0, 1) := by decide +kernel
theorem dX9_gather_119 : decode cX9_gather 119 = .ok (.getfield 54, 3) := by decide +kernel
theorem dX9_gather_122 : decode cX9_gather 122 = .ok (.aload_n 0, 1) := by decide +kernel
theorem dX9_gather_123 : decode cX9_gather 123 = .ok (.getfield 9, 3) := by decide +kernel
theorem dX9_gather_126 : decode cX9_gather 126 = .ok (.iload 4, 2) := by decide +kernel
theorem dX9_gather_128 : decode cX9_gather 128 = .ok (.iaload, 1) := by decide +kernel
theorem dX9_gather_129 : decode cX9_gather 129 = .ok (.invokevirtual 144, 3) := by decide +kernel
theorem dX9_gather_132 : decode cX9_gather 132 = .ok (.aload_n 0, 1) := by decide +kernel
theorem dX9_gather_133 : decode cX9_gather 133 = .ok (.getfield 54, 3) := by decide +kernel
theorem dX9_gather_136 : decode cX9_gather 136 = .ok (.aload_n 0, 1) := by decide +kernel
theorem dX9_gather_137 : decode cX9_gather 137 = .ok (.getfield 15, 3) := by decide +kernel
theorem dX9_gather_140 : decode cX9_gather 140 = .ok (.iload 4, 2) := by decide +kernel
theorem dX9_gather_142 : decode cX9_gather 142 = .ok (.iaload, 1) := by decide +kernel
theorem dX9_gather_143 : decode cX9_gather 143 = .ok (.invokevirtual 144, 3) := by decide +kernel
theorem dX9_gather_146 : decode cX9_gather 146 = .ok (.invokevirtual 147, 3) := by decide +kernel
theorem dX9_gather_149 : decode cX9_gather 149 = .ok (.iinc 4 1, 3) := by decide +kernel
theorem dX9_gather_152 : decode cX9_gather 152 = .ok (.goto (-60), 3) := by decide +kernel
theorem dX9_gather_155 : decode cX9_gather 155 = .ok (.return_, 1) := by decide +kernel
theorem dX9_goBack_0 : decode cX9_goBack 0 = .ok (.aload_n 0, 1) := by decide +kernel
theorem dX9_goBack_1 : decode cX9_goBack 1 = .ok (.iload_n 1, 1) := by decide +kernel
theorem dX9_goBack_2 : decode cX9_goBack 2 = .ok (.putfield 71, 3) := by decide +kernel
theorem dX9_goBack_5 : decode cX9_goBack 5 = .ok (.aload_n 0, 1) := by decide +kernel
theorem dX9_goBack_6 : decode cX9_goBack 6 = .ok (.iload_n 2, 1) := by decide +kernel
theorem dX9_goBack_7 : decode cX9_goBack 7 = .ok (.putfield 75, 3) := by decide +kernel
theorem dX9_goBack_10 : decode cX9_goBack 10 = .ok (.return_, 1) := by decide +kernel
theorem dX9_init_0 : decode cX9_init 0 = .ok (.aload_n 0, 1) := by decide +kernel
theorem dX9_init_1 : decode cX9_init 1 = .ok (.invokespecial 3, 3) := by decide +kernel
theorem dX9_init_4 : decode cX9_init 4 = .ok (.aload_n 0, 1) := by decide +kernel
theorem dX9_init_5 : decode cX9_init 5 = .ok (.bipush 30, 2) := by decide +kernel
theorem dX9_init_7 : decode cX9_init 7 = .ok (.newarray .int, 2) := by decide +kernel
theorem dX9_init_9 : decode cX9_init 9 = .ok (.putfield 9, 3) := by decide +kernel
theorem dX9_init_12 : decode cX9_init 12 = .ok (.aload_n 0, 1) := by decide +kernel
theorem dX9_init_13 : decode cX9_init 13 = .ok (.bipush 30, 2) := by decide +kernel
theorem dX9_init_15 : decode cX9_init 15 = .ok (.newarray .int, 2) := by decide +kernel
theorem dX9_init_17 : decode cX9_init 17 = .ok (.putfield 15, 3) := by decide +kernel
theorem dX9_init_20 : decode cX9_init 20 = .ok (.aload_n 0, 1) := by decide +kernel
theorem dX9_init_21 : decode cX9_init 21 = .ok (.bipush 30, 2) := by decide +kernel
theorem dX9_init_23 : decode cX9_init 23 = .ok (.newarray .int, 2) := by decide +kernel
theorem dX9_init_25 : decode cX9_init 25 = .ok (.putfield 18, 3) := by decide +kernel
theorem dX9_init_28 : decode cX9_init 28 = .ok (.aload_n 0, 1) := by decide +kernel
theorem dX9_init_29 : decode cX9_init 29 = .ok (.bipush 30, 2) := by decide +kernel
theorem dX9_init_31 : decode cX9_init 31 = .ok (.newarray .int, 2) := by decide +kernel
theorem dX9_init_33 : decode cX9_init 33 = .ok (.putfield 21, 3) := by decide +kernel
theorem dX9_init_36 : decode cX9_init 36 = .ok (.aload_n 0, 1) := by decide +kernel
theorem dX9_init_37 : decode cX9_init 37 = .ok (.bipush 8, 2) := by decide +kernel
theorem dX9_init_39 : decode cX9_init 39 = .ok (.newarray .int, 2) := by decide +kernel
theorem dX9_init_41 : decode cX9_init 41 = .ok (.putfield 24, 3) := by decide +kernel
theorem dX9_init_44 : decode cX9_init 44 = .ok (.aload_n 0, 1) := by decide +kernel
theorem dX9_init_45 : decode cX9_init 45 = .ok (.bipush 8, 2) := by decide +kernel
theorem dX9_init_47 : decode cX9_init 47 = .ok (.newarray .int, 2) := by decide +kernel
theorem dX9_init_49 : decode cX9_init 49 = .ok (.putfield 27, 3) := by decide +kernel
theorem dX9_init_52 : decode cX9_init 52 = .ok (.aload_n 0, 1) := by decide +kernel
theorem dX9_init_53 : decode cX9_init 53 = .ok (.bipush 30, 2) := by decide +kernel
theorem dX9_init_55 : decode cX9_init 55 = .ok (.newarray .int, 2) := by decide +kernel
theorem dX9_init_57 : decode cX9_init 57 = .ok (.putfield 30, 3) := by decide +kernel
theorem dX9_init_60 : decode cX9_init 60 = .ok (.aload_n 0, 1) := by decide +kernel
theorem dX9_init_61 : decode cX9_init 61 = .ok (.bipush 30, 2) := by decide +kernel
theorem dX9_init_63 : decode cX9_init 63 = .ok (.newarray .int, 2) := by decide +kernel
theorem dX9_init_65 : decode cX9_init 65 = .ok (.putfield 33, 3) := by decide +kernel
theorem dX9_init_68 : decode cX9_init 68 = .ok (.aload_n 0, 1) := by decide +kernel
theorem dX9_init_69 : decode cX9_init 69 = .ok (.new 36, 3) := by decide +kernel
theorem dX9_init_72 : decode cX9_init 72 = .ok (.dup, 1) := by decide +kernel
theorem dX9_init_73 : decode cX9_init 73 = .ok (.ldc 38, 2) := by decide +kernel
theorem dX9_init_75 : decode cX9_init 75 = .ok (.invokespecial 39, 3) := by decide +kernel
theorem dX9_init_78 : decode cX9_init 78 = .ok (.putfield 42, 3) := by decide +kernel
theorem dX9_init_81 : decode cX9_init 81 = .ok (.aload_n 0, 1) := by decide +kernel
theorem dX9_init_82 : decode cX9_init 82 = .ok (.aload_n 1, 1) := by decide +kernel
theorem dX9_init_83 : decode cX9_init 83 = .ok (.putfield 46, 3) := by decide +kernel
theorem dX9_init_86 : decode cX9_init 86 = .ok (.aload_n 0, 1) := by decide +kernel
theorem dX9_init_87 : decode cX9_init 87 = .ok (.aload_n 2, 1) := by decide +kernel
theorem dX9_init_88 : decode cX9_init 88 = .ok (.putfield 50, 3) := by decide +kernel
theorem dX9_init_91 : decode cX9_init 91 = .ok (.aload_n 0, 1) := by decide +kernel
theorem dX9_init_92 : decode cX9_init 92 = .ok (.aload_n 3, 1) := by decide +kernel
theorem dX9_init_93 : decode cX9_init 93 = .ok (.putfield 54, 3) := by decide +kernel
theorem dX9_init_96 : decode cX9_init 96 = .ok (.aload_n 0, 1) := by decide +kernel
theorem dX9_init_97 : decode cX9_init 97 = .ok (.aload 4, 2) := by decide +kernel
theorem dX9_init_99 : decode cX9_init 99 = .ok (.putfield 58, 3) := by decide +kernel
theorem dX9_init_102 : decode cX9_init 102 = .ok (.aload_n 0, 1) := by decide +kernel
theorem dX9_init_103 : decode cX9_init 103 = .ok (.new 62, 3) := by decide +kernel
theorem dX9_init_106 : decode cX9_init 106 = .ok (.dup, 1) := by decide +kernel
theorem dX9_init_107 : decode cX9_init 107 = .ok (.aload_n 2, 1) := by decide +kernel
theorem dX9_init_108 : decode cX9_init 108 = .ok (.aload_n 3, 1) := by decide +kernel
theorem dX9_init_109 : decode cX9_init 109 = .ok (.invokespecial 64, 3) := by decide +kernel
theorem dX9_init_112 : decode cX9_init 112 = .ok (.putfield 67, 3) := by decide +kernel
theorem dX9_init_115 : decode cX9_init 115 = .ok (.return_, 1) := by decide +kernel
theorem dX9_isTooLargeSide_0 : decode cX9_isTooLargeSide 0 = .ok (.aload_n 0, 1) := by decide +kernel
theorem dX9_isTooLargeSide_1 : decode cX9_isTooLargeSide 1 = .ok (.getfield 58, 3) := by decide +kernel
theorem dX9_isTooLargeSide_4 : decode cX9_isTooLargeSide 4 = .ok (.iload_n 1, 1) := by decide +kernel
theorem dX9_isTooLargeSide_5 : decode cX9_isTooLargeSide 5 = .ok (.invokevirtual 150, 3) := by decide +kernel
theorem dX9_isTooLargeSide_8 : decode cX9_isTooLargeSide 8 = .ok (.sipush 300, 3) := by decide +kernel
theorem dX9_isTooLargeSide_11 : decode cX9_isTooLargeSide 11 = .ok (.if_icmp .gt 16, 3) := by decide +kernel
theorem dX9_isTooLargeSide_14 : decode cX9_isTooLargeSide 14 = .ok (.aload_n 0, 1) := by decide +kernel
theorem dX9_isTooLargeSide_15 : decode cX9_isTooLargeSide 15 = .ok (.getfield 58, 3) := by decide +kernel
theorem dX9_isTooLargeSide_18 : decode cX9_isTooLargeSide 18 = .ok (.iload_n 1, 1) := by decide +kernel
theorem dX9_isTooLargeSide_19 : decode cX9_isTooLargeSide 19 = .ok (.invokevirtual 153, 3) := by decide +kernel
theorem dX9_isTooLargeSide_22 : decode cX9_isTooLargeSide 22 = .ok (.bipush 40, 2) := by decide +kernel
theorem dX9_isTooLargeSide_24 : decode cX9_isTooLargeSide 24 = .ok (.if_icmp .le 7, 3) := by decide +kernel
theorem dX9_isTooLargeSide_27 : decode cX9_isTooLargeSide 27 = .ok (.iconst 1, 1) := by decide +kernel
theorem dX9_isTooLargeSide_28 : decode cX9_isTooLargeSide 28 = .ok (.goto 4, 3) := by decide +kernel
theorem dX9_isTooLargeSide_31 : decode cX9_isTooLargeSide 31 = .ok (.iconst 0, 1) := by decide +kernel
theorem dX9_isTooLargeSide_32 : decode cX9_isTooLargeSide 32 = .ok (.ireturn, 1) := by decide +kernel
theorem dX9_makesEqual_0 : decode cX9_makesEqual 0 = .ok (.iload_n 1, 1) := by decide +kernel
theorem dX9_makesEqual_1 : decode cX9_makesEqual 1 = .ok (.iload_n 2, 1) := by decide +kernel
theorem dX9_makesEqual_2 : decode cX9_makesEqual 2 = .ok (.if_icmp .eq 16, 3) := by decide +kernel
theorem dX9_makesEqual_5 : decode cX9_makesEqual 5 = .ok (.aload_n 0, 1) := by decide +kernel
theorem dX9_makesEqual_6 : decode cX9_makesEqual 6 = .ok (.iload_n 1, 1) := by decide +kernel
theorem dX9_makesEqual_7 : decode cX9_makesEqual 7 = .ok (.invokevirtual 217, 3) := by decide +kernel
theorem dX9_makesEqual_10 : decode cX9_makesEqual 10 = .ok (.aload_n 0, 1) := by decide +kernel
theorem dX9_makesEqual_11 : decode cX9_makesEqual 11 = .ok (.iload_n 2, 1) := by decide +kernel
theorem dX9_makesEqual_12 : decode cX9_makesEqual 12 = .ok (.invokevirtual 217, 3) := by decide +kernel
theorem dX9_makesEqual_15 : decode cX9_makesEqual 15 = .ok (.if_icmp .ne 7, 3) := by decide +kernel
theorem dX9_makesEqual_18 : decode cX9_makesEqual 18 = .ok (.iconst 1, 1) := by decide +kernel
theorem dX9_makesEqual_19 : decode cX9_makesEqual 19 = .ok (.goto 4, 3) := by decide +kernel
theorem dX9_makesEqual_22 : decode cX9_makesEqual 22 = .ok (.iconst 0, 1) := by decide +kernel
theorem dX9_makesEqual_23 : decode cX9_makesEqual 23 = .ok (.ireturn, 1) := by decide +kernel
theorem dX9_normalize_0 : decode cX9_normalize 0 = .ok (.aload_n 0, 1) := by decide +kernel
theorem dX9_normalize_1 : decode cX9_normalize 1 = .ok (.getfield 54, 3) := by decide +kernel
theorem dX9_normalize_4 : decode cX9_normalize 4 = .ok (.invokevirtual 133, 3) := by decide +kernel
theorem dX9_normalize_7 : decode cX9_normalize 7 = .ok (.aload_n 0, 1) := by decide +kernel
theorem dX9_normalize_8 : decode cX9_normalize 8 = .ok (.getfield 54, 3) := by decide +kernel
theorem dX9_normalize_11 : decode cX9_normalize 11 = .ok (.iload_n 1, 1) := by decide +kernel
theorem dX9_normalize_12 : decode cX9_normalize 12 = .ok (.invokevirtual 138, 3) := by decide +kernel
theorem dX9_normalize_15 : decode cX9_normalize 15 = .ok (.iconst 0, 1) := by decide +kernel
theorem dX9_normalize_16 : decode cX9_normalize 16 = .ok (.istore_n 2, 1) := by decide +kernel
theorem dX9_normalize_17 : decode cX9_normalize 17 = .ok (.iload_n 2, 1) := by decide +kernel
theorem dX9_normalize_18 : decode cX9_normalize 18 = .ok (.aload_n 0, 1) := by decide +kernel
theorem dX9_normalize_19 : decode cX9_normalize 19 = .ok (.getfield 54, 3) := by decide +kernel
theorem dX9_normalize_22 : decode cX9_normalize 22 = .ok (.invokevirtual 193, 3) := by decide +kernel
theorem dX9_normalize_25 : decode cX9_normalize 25 = .ok (.if_icmp .ge 77, 3) := by decide +kernel
theorem dX9_normalize_28 : decode cX9_normalize 28 = .ok (.aload_n 0, 1) := by decide +kernel
theorem dX9_normalize_29 : decode cX9_normalize 29 = .ok (.getfield 54, 3) := by decide +kernel
theorem dX9_normalize_32 : decode cX9_normalize 32 = .ok (.iload_n 2, 1) := by decide +kernel
theorem dX9_normalize_33 : decode cX9_normalize 33 = .ok (.invokevirtual 196, 3) := by decide +kernel
theorem dX9_normalize_36 : decode cX9_normalize 36 = .ok (.istore_n 3, 1) := by decide +kernel
theorem dX9_normalize_37 : decode cX9_normalize 37 = .ok (.aload_n 0, 1) := by decide +kernel
theorem dX9_normalize_38 : decode cX9_normalize 38 = .ok (.iload_n 3, 1) := by decide +kernel
theorem dX9_normalize_39 : decode cX9_normalize 39 = .ok (.invokevirtual 199, 3) := by decide +kernel
theorem dX9_normalize_42 : decode cX9_normalize 42 = .ok (.istore 4, 2) := by decide +kernel
theorem dX9_normalize_44 : decode cX9_normalize 44 = .ok (.aload_n 0, 1) := by decide +kernel
theorem dX9_normalize_45 : decode cX9_normalize 45 = .ok (.getfield 54, 3) := by decide +kernel
theorem dX9_normalize_48 : decode cX9_normalize 48 = .ok (.iload_n 2, 1) := by decide +kernel
theorem dX9_normalize_49 : decode cX9_normalize 49 = .ok (.iload 4, 2) := by decide +kernel
theorem dX9_normalize_51 : decode cX9_normalize 51 = .ok (.iconst (-1), 1) := by decide +kernel
theorem dX9_normalize_52 : decode cX9_normalize 52 = .ok (.if_icmp .ne 7, 3) := by decide +kernel
theorem dX9_normalize_55 : decode cX9_normalize 55 = .ok (.iload_n 3, 1) := by decide +kernel
theorem dX9_normalize_56 : decode cX9_normalize 56 = .ok (.goto 9, 3) := by decide +kernel
theorem dX9_normalize_59 : decode cX9_normalize 59 = .ok (.aload_n 0, 1) := by decide +kernel
theorem dX9_normalize_60 : decode cX9_normalize 60 = .ok (.iload 4, 2) := by decide +kernel
theorem dX9_normalize_62 : decode cX9_normalize 62 = .ok (.invokevirtual 202, 3) := by decide +kernel
theorem dX9_normalize_65 : decode cX9_normalize 65 = .ok (.invokevirtual 205, 3) := by decide +kernel
theorem dX9_normalize_68 : decode cX9_normalize 68 = .ok (.aload_n 0, 1) := by decide +kernel
theorem dX9_normalize_69 : decode cX9_normalize 69 = .ok (.getfield 54, 3) := by decide +kernel
theorem dX9_normalize_72 : decode cX9_normalize 72 = .ok (.iload_n 2, 1) := by decide +kernel
theorem dX9_normalize_73 : decode cX9_normalize 73 = .ok (.aload_n 0, 1) := by decide +kernel
theorem dX9_normalize_74 : decode cX9_normalize 74 = .ok (.getfield 54, 3) := by decide +kernel
theorem dX9_normalize_77 : decode cX9_normalize 77 = .ok (.iload_n 2, 1) := by decide +kernel
theorem dX9_normalize_78 : decode cX9_normalize 78 = .ok (.invokevirtual 208, 3) := by decide +kernel
theorem dX9_normalize_81 : decode cX9_normalize 81 = .ok (.iload 4, 2) := by decide +kernel
theorem dX9_normalize_83 : decode cX9_normalize 83 = .ok (.iconst (-1), 1) := by decide +kernel
theorem dX9_normalize_84 : decode cX9_normalize 84 = .ok (.if_icmp .ne 7, 3) := by decide +kernel
theorem dX9_normalize_87 : decode cX9_normalize 87 = .ok (.iconst 0, 1) := by decide +kernel
theorem dX9_normalize_88 : decode cX9_normalize 88 = .ok (.goto 4, 3) := by decide +kernel
theorem dX9_normalize_91 : decode cX9_normalize 91 = .ok (.iconst 1, 1) := by decide +kernel
theorem dX9_normalize_92 : decode cX9_normalize 92 = .ok (.iadd, 1) := by decide +kernel
theorem dX9_normalize_93 : decode cX9_normalize 93 = .ok (.invokevirtual 211, 3) := by decide +kernel
theorem dX9_normalize_96 : decode cX9_normalize 96 = .ok (.iinc 2 1, 3) := by decide +kernel
theorem dX9_normalize_99 : decode cX9_normalize 99 = .ok (.goto (-82), 3) := by decide +kernel
theorem dX9_normalize_102 : decode cX9_normalize 102 = .ok (.aload_n 0, 1) := by decide +kernel
theorem dX9_normalize_103 : decode cX9_normalize 103 = .ok (.getfield 54, 3) := by decide +kernel
theorem dX9_normalize_106 : decode cX9_normalize 106 = .ok (.aload_n 0, 1) := by decide +kernel
theorem dX9_normalize_107 : decode cX9_normalize 107 = .ok (.getfield 54, 3) := by decide +kernel
theorem dX9_normalize_110 : decode cX9_normalize 110 = .ok (.invokevirtual 193, 3) := by decide +kernel
theorem dX9_normalize_113 : decode cX9_normalize 113 = .ok (.iconst 1, 1) := by decide +kernel

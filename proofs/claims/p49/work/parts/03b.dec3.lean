theorem dX5_append_33 : decode cX5_append 33 = .ok (.iload_n 2, 1) := by decide +kernel
theorem dX5_append_34 : decode cX5_append 34 = .ok (.ishr, 1) := by decide +kernel
theorem dX5_append_35 : decode cX5_append 35 = .ok (.i2b, 1) := by decide +kernel
theorem dX5_append_36 : decode cX5_append 36 = .ok (.bastore, 1) := by decide +kernel
theorem dX5_append_37 : decode cX5_append 37 = .ok (.aload_n 0, 1) := by decide +kernel
theorem dX5_append_38 : decode cX5_append 38 = .ok (.dup, 1) := by decide +kernel
theorem dX5_append_39 : decode cX5_append 39 = .ok (.getfield 50, 3) := by decide +kernel
theorem dX5_append_42 : decode cX5_append 42 = .ok (.iconst 1, 1) := by decide +kernel
theorem dX5_append_43 : decode cX5_append 43 = .ok (.iadd, 1) := by decide +kernel
theorem dX5_append_44 : decode cX5_append 44 = .ok (.putfield 50, 3) := by decide +kernel
theorem dX5_append_47 : decode cX5_append 47 = .ok (.iinc 2 (-8), 3) := by decide +kernel
theorem dX5_append_50 : decode cX5_append 50 = .ok (.goto (-47), 3) := by decide +kernel
theorem dX5_append_53 : decode cX5_append 53 = .ok (.return_, 1) := by decide +kernel
theorem dX5_bytes_0 : decode cX5_bytes 0 = .ok (.aload_n 0, 1) := by decide +kernel
theorem dX5_bytes_1 : decode cX5_bytes 1 = .ok (.getfield 9, 3) := by decide +kernel
theorem dX5_bytes_4 : decode cX5_bytes 4 = .ok (.areturn, 1) := by decide +kernel
theorem dX5_drain_0 : decode cX5_drain 0 = .ok (.aload_n 0, 1) := by decide +kernel
theorem dX5_drain_1 : decode cX5_drain 1 = .ok (.getfield 50, 3) := by decide +kernel
theorem dX5_drain_4 : decode cX5_drain 4 = .ok (.istore_n 1, 1) := by decide +kernel
theorem dX5_drain_5 : decode cX5_drain 5 = .ok (.aload_n 0, 1) := by decide +kernel
theorem dX5_drain_6 : decode cX5_drain 6 = .ok (.iconst 0, 1) := by decide +kernel
theorem dX5_drain_7 : decode cX5_drain 7 = .ok (.putfield 50, 3) := by decide +kernel
theorem dX5_drain_10 : decode cX5_drain 10 = .ok (.iload_n 1, 1) := by decide +kernel
theorem dX5_drain_11 : decode cX5_drain 11 = .ok (.ireturn, 1) := by decide +kernel
theorem dX5_heldSymbol_0 : decode cX5_heldSymbol 0 = .ok (.aload_n 0, 1) := by decide +kernel
theorem dX5_heldSymbol_1 : decode cX5_heldSymbol 1 = .ok (.getfield 42, 3) := by decide +kernel
theorem dX5_heldSymbol_4 : decode cX5_heldSymbol 4 = .ok (.aload_n 0, 1) := by decide +kernel
theorem dX5_heldSymbol_5 : decode cX5_heldSymbol 5 = .ok (.getfield 9, 3) := by decide +kernel
theorem dX5_heldSymbol_8 : decode cX5_heldSymbol 8 = .ok (.iconst 0, 1) := by decide +kernel
theorem dX5_heldSymbol_9 : decode cX5_heldSymbol 9 = .ok (.aload_n 0, 1) := by decide +kernel
theorem dX5_heldSymbol_10 : decode cX5_heldSymbol 10 = .ok (.getfield 50, 3) := by decide +kernel
theorem dX5_heldSymbol_13 : decode cX5_heldSymbol 13 = .ok (.invokevirtual 66, 3) := by decide +kernel
theorem dX5_heldSymbol_16 : decode cX5_heldSymbol 16 = .ok (.ireturn, 1) := by decide +kernel
theorem dX5_holdsName_0 : decode cX5_holdsName 0 = .ok (.aload_n 0, 1) := by decide +kernel
theorem dX5_holdsName_1 : decode cX5_holdsName 1 = .ok (.getfield 50, 3) := by decide +kernel
theorem dX5_holdsName_4 : decode cX5_holdsName 4 = .ok (.iconst 1, 1) := by decide +kernel
theorem dX5_holdsName_5 : decode cX5_holdsName 5 = .ok (.if_icmp .lt 25, 3) := by decide +kernel
theorem dX5_holdsName_8 : decode cX5_holdsName 8 = .ok (.aload_n 0, 1) := by decide +kernel
theorem dX5_holdsName_9 : decode cX5_holdsName 9 = .ok (.getfield 50, 3) := by decide +kernel
theorem dX5_holdsName_12 : decode cX5_holdsName 12 = .ok (.bipush 8, 2) := by decide +kernel
theorem dX5_holdsName_14 : decode cX5_holdsName 14 = .ok (.if_icmp .gt 16, 3) := by decide +kernel
theorem dX5_holdsName_17 : decode cX5_holdsName 17 = .ok (.aload_n 0, 1) := by decide +kernel
theorem dX5_holdsName_18 : decode cX5_holdsName 18 = .ok (.aload_n 0, 1) := by decide +kernel
theorem dX5_holdsName_19 : decode cX5_holdsName 19 = .ok (.getfield 9, 3) := by decide +kernel
theorem dX5_holdsName_22 : decode cX5_holdsName 22 = .ok (.iconst 0, 1) := by decide +kernel
theorem dX5_holdsName_23 : decode cX5_holdsName 23 = .ok (.baload, 1) := by decide +kernel
theorem dX5_holdsName_24 : decode cX5_holdsName 24 = .ok (.invokevirtual 59, 3) := by decide +kernel
theorem dX5_holdsName_27 : decode cX5_holdsName 27 = .ok (.ifCond .ne 5, 3) := by decide +kernel
theorem dX5_holdsName_30 : decode cX5_holdsName 30 = .ok (.iconst 0, 1) := by decide +kernel
theorem dX5_holdsName_31 : decode cX5_holdsName 31 = .ok (.ireturn, 1) := by decide +kernel
theorem dX5_holdsName_32 : decode cX5_holdsName 32 = .ok (.iconst 1, 1) := by decide +kernel
theorem dX5_holdsName_33 : decode cX5_holdsName 33 = .ok (.istore_n 1, 1) := by decide +kernel
theorem dX5_holdsName_34 : decode cX5_holdsName 34 = .ok (.iload_n 1, 1) := by decide +kernel
theorem dX5_holdsName_35 : decode cX5_holdsName 35 = .ok (.aload_n 0, 1) := by decide +kernel
theorem dX5_holdsName_36 : decode cX5_holdsName 36 = .ok (.getfield 50, 3) := by decide +kernel
theorem dX5_holdsName_39 : decode cX5_holdsName 39 = .ok (.if_icmp .ge 24, 3) := by decide +kernel
theorem dX5_holdsName_42 : decode cX5_holdsName 42 = .ok (.aload_n 0, 1) := by decide +kernel
theorem dX5_holdsName_43 : decode cX5_holdsName 43 = .ok (.aload_n 0, 1) := by decide +kernel
theorem dX5_holdsName_44 : decode cX5_holdsName 44 = .ok (.getfield 9, 3) := by decide +kernel
theorem dX5_holdsName_47 : decode cX5_holdsName 47 = .ok (.iload_n 1, 1) := by decide +kernel
theorem dX5_holdsName_48 : decode cX5_holdsName 48 = .ok (.baload, 1) := by decide +kernel
theorem dX5_holdsName_49 : decode cX5_holdsName 49 = .ok (.invokevirtual 63, 3) := by decide +kernel
theorem dX5_holdsName_52 : decode cX5_holdsName 52 = .ok (.ifCond .ne 5, 3) := by decide +kernel
theorem dX5_holdsName_55 : decode cX5_holdsName 55 = .ok (.iconst 0, 1) := by decide +kernel
theorem dX5_holdsName_56 : decode cX5_holdsName 56 = .ok (.ireturn, 1) := by decide +kernel
theorem dX5_holdsName_57 : decode cX5_holdsName 57 = .ok (.iinc 1 1, 3) := by decide +kernel
theorem dX5_holdsName_60 : decode cX5_holdsName 60 = .ok (.goto (-26), 3) := by decide +kernel
theorem dX5_holdsName_63 : decode cX5_holdsName 63 = .ok (.iconst 1, 1) := by decide +kernel
theorem dX5_holdsName_64 : decode cX5_holdsName 64 = .ok (.ireturn, 1) := by decide +kernel
theorem dX5_isLetter_0 : decode cX5_isLetter 0 = .ok (.iload_n 1, 1) := by decide +kernel
theorem dX5_isLetter_1 : decode cX5_isLetter 1 = .ok (.bipush 97, 2) := by decide +kernel
theorem dX5_isLetter_3 : decode cX5_isLetter 3 = .ok (.if_icmp .lt 13, 3) := by decide +kernel
theorem dX5_isLetter_6 : decode cX5_isLetter 6 = .ok (.iload_n 1, 1) := by decide +kernel
theorem dX5_isLetter_7 : decode cX5_isLetter 7 = .ok (.bipush 122, 2) := by decide +kernel
theorem dX5_isLetter_9 : decode cX5_isLetter 9 = .ok (.if_icmp .gt 7, 3) := by decide +kernel
theorem dX5_isLetter_12 : decode cX5_isLetter 12 = .ok (.iconst 1, 1) := by decide +kernel
theorem dX5_isLetter_13 : decode cX5_isLetter 13 = .ok (.goto 4, 3) := by decide +kernel
theorem dX5_isLetter_16 : decode cX5_isLetter 16 = .ok (.iconst 0, 1) := by decide +kernel
theorem dX5_isLetter_17 : decode cX5_isLetter 17 = .ok (.ireturn, 1) := by decide +kernel
theorem dX5_isNamePart_0 : decode cX5_isNamePart 0 = .ok (.aload_n 0, 1) := by decide +kernel
theorem dX5_isNamePart_1 : decode cX5_isNamePart 1 = .ok (.iload_n 1, 1) := by decide +kernel
theorem dX5_isNamePart_2 : decode cX5_isNamePart 2 = .ok (.invokevirtual 59, 3) := by decide +kernel
theorem dX5_isNamePart_5 : decode cX5_isNamePart 5 = .ok (.ifCond .ne 15, 3) := by decide +kernel
theorem dX5_isNamePart_8 : decode cX5_isNamePart 8 = .ok (.iload_n 1, 1) := by decide +kernel
theorem dX5_isNamePart_9 : decode cX5_isNamePart 9 = .ok (.bipush 48, 2) := by decide +kernel
theorem dX5_isNamePart_11 : decode cX5_isNamePart 11 = .ok (.if_icmp .lt 13, 3) := by decide +kernel
theorem dX5_isNamePart_14 : decode cX5_isNamePart 14 = .ok (.iload_n 1, 1) := by decide +kernel
theorem dX5_isNamePart_15 : decode cX5_isNamePart 15 = .ok (.bipush 57, 2) := by decide +kernel
theorem dX5_isNamePart_17 : decode cX5_isNamePart 17 = .ok (.if_icmp .gt 7, 3) := by decide +kernel
theorem dX5_isNamePart_20 : decode cX5_isNamePart 20 = .ok (.iconst 1, 1) := by decide +kernel
theorem dX5_isNamePart_21 : decode cX5_isNamePart 21 = .ok (.goto 4, 3) := by decide +kernel
theorem dX5_isNamePart_24 : decode cX5_isNamePart 24 = .ok (.iconst 0, 1) := by decide +kernel
theorem dX5_isNamePart_25 : decode cX5_isNamePart 25 = .ok (.ireturn, 1) := by decide +kernel
theorem dX5_length_0 : decode cX5_length 0 = .ok (.aload_n 0, 1) := by decide +kernel
theorem dX5_length_1 : decode cX5_length 1 = .ok (.getfield 50, 3) := by decide +kernel
theorem dX5_length_4 : decode cX5_length 4 = .ok (.ireturn, 1) := by decide +kernel
theorem dX5_shorten_0 : decode cX5_shorten 0 = .ok (.aload_n 0, 1) := by decide +kernel
theorem dX5_shorten_1 : decode cX5_shorten 1 = .ok (.iload_n 1, 1) := by decide +kernel
theorem dX5_shorten_2 : decode cX5_shorten 2 = .ok (.putfield 50, 3) := by decide +kernel
theorem dX5_shorten_5 : decode cX5_shorten 5 = .ok (.return_, 1) := by decide +kernel
theorem dX6_get_0 : decode cX6_get 0 = .ok (.iload_n 1, 1) := by decide +kernel
theorem dX6_get_1 : decode cX6_get 1 = .ok (.bipush 10, 2) := by decide +kernel
theorem dX6_get_3 : decode cX6_get 3 = .ok (.ishr, 1) := by decide +kernel
theorem dX6_get_4 : decode cX6_get 4 = .ok (.istore_n 2, 1) := by decide +kernel
theorem dX6_get_5 : decode cX6_get 5 = .ok (.iload_n 2, 1) := by decide +kernel
theorem dX6_get_6 : decode cX6_get 6 = .ok (.ifCond .lt 21, 3) := by decide +kernel
theorem dX6_get_9 : decode cX6_get 9 = .ok (.iload_n 2, 1) := by decide +kernel
theorem dX6_get_10 : decode cX6_get 10 = .ok (.aload_n 0, 1) := by decide +kernel
theorem dX6_get_11 : decode cX6_get 11 = .ok (.getfield 17, 3) := by decide +kernel
theorem dX6_get_14 : decode cX6_get 14 = .ok (.arraylength, 1) := by decide +kernel
theorem dX6_get_15 : decode cX6_get 15 = .ok (.if_icmp .ge 12, 3) := by decide +kernel
theorem dX6_get_18 : decode cX6_get 18 = .ok (.aload_n 0, 1) := by decide +kernel
theorem dX6_get_19 : decode cX6_get 19 = .ok (.getfield 17, 3) := by decide +kernel
theorem dX6_get_22 : decode cX6_get 22 = .ok (.iload_n 2, 1) := by decide +kernel
theorem dX6_get_23 : decode cX6_get 23 = .ok (.aaload, 1) := by decide +kernel
theorem dX6_get_24 : decode cX6_get 24 = .ok (.ifnonnull 5, 3) := by decide +kernel
theorem dX6_get_27 : decode cX6_get 27 = .ok (.iconst 0, 1) := by decide +kernel
theorem dX6_get_28 : decode cX6_get 28 = .ok (.ireturn, 1) := by decide +kernel
theorem dX6_get_29 : decode cX6_get 29 = .ok (.aload_n 0, 1) := by decide +kernel
theorem dX6_get_30 : decode cX6_get 30 = .ok (.getfield 17, 3) := by decide +kernel
theorem dX6_get_33 : decode cX6_get 33 = .ok (.iload_n 2, 1) := by decide +kernel
theorem dX6_get_34 : decode cX6_get 34 = .ok (.aaload, 1) := by decide +kernel
theorem dX6_get_35 : decode cX6_get 35 = .ok (.iload_n 1, 1) := by decide +kernel
theorem dX6_get_36 : decode cX6_get 36 = .ok (.sipush 1023, 3) := by decide +kernel
theorem dX6_get_39 : decode cX6_get 39 = .ok (.iand, 1) := by decide +kernel
theorem dX6_get_40 : decode cX6_get 40 = .ok (.iaload, 1) := by decide +kernel
theorem dX6_get_41 : decode cX6_get 41 = .ok (.ireturn, 1) := by decide +kernel
theorem dX6_set_0 : decode cX6_set 0 = .ok (.iload_n 1, 1) := by decide +kernel
theorem dX6_set_1 : decode cX6_set 1 = .ok (.bipush 10, 2) := by decide +kernel
theorem dX6_set_3 : decode cX6_set 3 = .ok (.ishr, 1) := by decide +kernel
theorem dX6_set_4 : decode cX6_set 4 = .ok (.istore_n 3, 1) := by decide +kernel
theorem dX6_set_5 : decode cX6_set 5 = .ok (.iload_n 3, 1) := by decide +kernel
theorem dX6_set_6 : decode cX6_set 6 = .ok (.ifCond .lt 12, 3) := by decide +kernel
theorem dX6_set_9 : decode cX6_set 9 = .ok (.iload_n 3, 1) := by decide +kernel
theorem dX6_set_10 : decode cX6_set 10 = .ok (.aload_n 0, 1) := by decide +kernel
theorem dX6_set_11 : decode cX6_set 11 = .ok (.getfield 17, 3) := by decide +kernel
theorem dX6_set_14 : decode cX6_set 14 = .ok (.arraylength, 1) := by decide +kernel
theorem dX6_set_15 : decode cX6_set 15 = .ok (.if_icmp .lt 4, 3) := by decide +kernel
theorem dX6_set_18 : decode cX6_set 18 = .ok (.return_, 1) := by decide +kernel
theorem dX6_set_19 : decode cX6_set 19 = .ok (.aload_n 0, 1) := by decide +kernel
theorem dX6_set_20 : decode cX6_set 20 = .ok (.getfield 17, 3) := by decide +kernel
theorem dX6_set_23 : decode cX6_set 23 = .ok (.iload_n 3, 1) := by decide +kernel
theorem dX6_set_24 : decode cX6_set 24 = .ok (.aaload, 1) := by decide +kernel
theorem dX6_set_25 : decode cX6_set 25 = .ok (.ifnonnull 14, 3) := by decide +kernel
theorem dX6_set_28 : decode cX6_set 28 = .ok (.aload_n 0, 1) := by decide +kernel
theorem dX6_set_29 : decode cX6_set 29 = .ok (.getfield 17, 3) := by decide +kernel
theorem dX6_set_32 : decode cX6_set 32 = .ok (.iload_n 3, 1) := by decide +kernel
theorem dX6_set_33 : decode cX6_set 33 = .ok (.sipush 1024, 3) := by decide +kernel
theorem dX6_set_36 : decode cX6_set 36 = .ok (.newarray .int, 2) := by decide +kernel
theorem dX6_set_38 : decode cX6_set 38 = .ok (.aastore, 1) := by decide +kernel
theorem dX6_set_39 : decode cX6_set 39 = .ok (.aload_n 0, 1) := by decide +kernel
theorem dX6_set_40 : decode cX6_set 40 = .ok (.getfield 17, 3) := by decide +kernel
theorem dX6_set_43 : decode cX6_set 43 = .ok (.iload_n 3, 1) := by decide +kernel
theorem dX6_set_44 : decode cX6_set 44 = .ok (.aaload, 1) := by decide +kernel
theorem dX6_set_45 : decode cX6_set 45 = .ok (.iload_n 1, 1) := by decide +kernel
theorem dX6_set_46 : decode cX6_set 46 = .ok (.sipush 1023, 3) := by decide +kernel
theorem dX6_set_49 : decode cX6_set 49 = .ok (.iand, 1) := by decide +kernel
theorem dX6_set_50 : decode cX6_set 50 = .ok (.iload_n 2, 1) := by decide +kernel
theorem dX6_set_51 : decode cX6_set 51 = .ok (.iastore, 1) := by decide +kernel
theorem dX6_set_52 : decode cX6_set 52 = .ok (.return_, 1) := by decide +kernel
theorem dX7_add_0 : decode cX7_add 0 = .ok (.aload_n 0, 1) := by decide +kernel
theorem dX7_add_1 : decode cX7_add 1 = .ok (.getfield 35, 3) := by decide +kernel
theorem dX7_add_4 : decode cX7_add 4 = .ok (.bipush 24, 2) := by decide +kernel
theorem dX7_add_6 : decode cX7_add 6 = .ok (.if_icmp .ge 15, 3) := by decide +kernel
theorem dX7_add_9 : decode cX7_add 9 = .ok (.iload_n 2, 1) := by decide +kernel
theorem dX7_add_10 : decode cX7_add 10 = .ok (.bipush 8, 2) := by decide +kernel
theorem dX7_add_12 : decode cX7_add 12 = .ok (.if_icmp .gt 9, 3) := by decide +kernel
theorem dX7_add_15 : decode cX7_add 15 = .ok (.iload_n 2, 1) := by decide +kernel
theorem dX7_add_16 : decode cX7_add 16 = .ok (.aload_n 1, 1) := by decide +kernel
theorem dX7_add_17 : decode cX7_add 17 = .ok (.arraylength, 1) := by decide +kernel
theorem dX7_add_18 : decode cX7_add 18 = .ok (.if_icmp .le 5, 3) := by decide +kernel
theorem dX7_add_21 : decode cX7_add 21 = .ok (.iconst (-1), 1) := by decide +kernel
theorem dX7_add_22 : decode cX7_add 22 = .ok (.ireturn, 1) := by decide +kernel
theorem dX7_add_23 : decode cX7_add 23 = .ok (.aload_n 0, 1) := by decide +kernel
theorem dX7_add_24 : decode cX7_add 24 = .ok (.getfield 35, 3) := by decide +kernel
theorem dX7_add_27 : decode cX7_add 27 = .ok (.istore 5, 2) := by decide +kernel
theorem dX7_add_29 : decode cX7_add 29 = .ok (.iconst 0, 1) := by decide +kernel
theorem dX7_add_30 : decode cX7_add 30 = .ok (.istore 6, 2) := by decide +kernel
theorem dX7_add_32 : decode cX7_add 32 = .ok (.iload 6, 2) := by decide +kernel
theorem dX7_add_34 : decode cX7_add 34 = .ok (.iload_n 2, 1) := by decide +kernel
theorem dX7_add_35 : decode cX7_add 35 = .ok (.if_icmp .ge 26, 3) := by decide +kernel
theorem dX7_add_38 : decode cX7_add 38 = .ok (.aload_n 0, 1) := by decide +kernel
theorem dX7_add_39 : decode cX7_add 39 = .ok (.getfield 9, 3) := by decide +kernel
theorem dX7_add_42 : decode cX7_add 42 = .ok (.iload 5, 2) := by decide +kernel
theorem dX7_add_44 : decode cX7_add 44 = .ok (.bipush 8, 2) := by decide +kernel
theorem dX7_add_46 : decode cX7_add 46 = .ok (.imul, 1) := by decide +kernel
theorem dX7_add_47 : decode cX7_add 47 = .ok (.iload 6, 2) := by decide +kernel
theorem dX7_add_49 : decode cX7_add 49 = .ok (.iadd, 1) := by decide +kernel
theorem dX7_add_50 : decode cX7_add 50 = .ok (.aload_n 1, 1) := by decide +kernel
theorem dX7_add_51 : decode cX7_add 51 = .ok (.iload 6, 2) := by decide +kernel
theorem dX7_add_53 : decode cX7_add 53 = .ok (.baload, 1) := by decide +kernel
theorem dX7_add_54 : decode cX7_add 54 = .ok (.bastore, 1) := by decide +kernel
theorem dX7_add_55 : decode cX7_add 55 = .ok (.iinc 6 1, 3) := by decide +kernel
theorem dX7_add_58 : decode cX7_add 58 = .ok (.goto (-26), 3) := by decide +kernel
theorem dX7_add_61 : decode cX7_add 61 = .ok (.aload_n 0, 1) := by decide +kernel
theorem dX7_add_62 : decode cX7_add 62 = .ok (.getfield 15, 3) := by decide +kernel
theorem dX7_add_65 : decode cX7_add 65 = .ok (.iload 5, 2) := by decide +kernel
theorem dX7_add_67 : decode cX7_add 67 = .ok (.iload_n 2, 1) := by decide +kernel
theorem dX7_add_68 : decode cX7_add 68 = .ok (.iastore, 1) := by decide +kernel
theorem dX7_add_69 : decode cX7_add 69 = .ok (.aload_n 0, 1) := by decide +kernel
theorem dX7_add_70 : decode cX7_add 70 = .ok (.getfield 19, 3) := by decide +kernel
theorem dX7_add_73 : decode cX7_add 73 = .ok (.iload 5, 2) := by decide +kernel
theorem dX7_add_75 : decode cX7_add 75 = .ok (.iload_n 3, 1) := by decide +kernel
theorem dX7_add_76 : decode cX7_add 76 = .ok (.iastore, 1) := by decide +kernel
theorem dX7_add_77 : decode cX7_add 77 = .ok (.aload_n 0, 1) := by decide +kernel
theorem dX7_add_78 : decode cX7_add 78 = .ok (.getfield 22, 3) := by decide +kernel
theorem dX7_add_81 : decode cX7_add 81 = .ok (.iload 5, 2) := by decide +kernel
theorem dX7_add_83 : decode cX7_add 83 = .ok (.iload 4, 2) := by decide +kernel
theorem dX7_add_85 : decode cX7_add 85 = .ok (.iastore, 1) := by decide +kernel
theorem dX7_add_86 : decode cX7_add 86 = .ok (.aload_n 0, 1) := by decide +kernel
theorem dX7_add_87 : decode cX7_add 87 = .ok (.getfield 25, 3) := by decide +kernel
theorem dX7_add_90 : decode cX7_add 90 = .ok (.iload 5, 2) := by decide +kernel
theorem dX7_add_92 : decode cX7_add 92 = .ok (.iload 5, 2) := by decide +kernel
theorem dX7_add_94 : decode cX7_add 94 = .ok (.iastore, 1) := by decide +kernel
theorem dX7_add_95 : decode cX7_add 95 = .ok (.aload_n 0, 1) := by decide +kernel
theorem dX7_add_96 : decode cX7_add 96 = .ok (.getfield 28, 3) := by decide +kernel
theorem dX7_add_99 : decode cX7_add 99 = .ok (.iload 5, 2) := by decide +kernel
theorem dX7_add_101 : decode cX7_add 101 = .ok (.iconst (-1), 1) := by decide +kernel
theorem dX7_add_102 : decode cX7_add 102 = .ok (.iastore, 1) := by decide +kernel
theorem dX7_add_103 : decode cX7_add 103 = .ok (.aload_n 0, 1) := by decide +kernel
theorem dX7_add_104 : decode cX7_add 104 = .ok (.dup, 1) := by decide +kernel
theorem dX7_add_105 : decode cX7_add 105 = .ok (.getfield 35, 3) := by decide +kernel
theorem dX7_add_108 : decode cX7_add 108 = .ok (.iconst 1, 1) := by decide +kernel
theorem dX7_add_109 : decode cX7_add 109 = .ok (.iadd, 1) := by decide +kernel
theorem dX7_add_110 : decode cX7_add 110 = .ok (.putfield 35, 3) := by decide +kernel
theorem dX7_add_113 : decode cX7_add 113 = .ok (.iload 5, 2) := by decide +kernel
theorem dX7_add_115 : decode cX7_add 115 = .ok (.ireturn, 1) := by decide +kernel
theorem dX7_arity_0 : decode cX7_arity 0 = .ok (.iload_n 1, 1) := by decide +kernel
theorem dX7_arity_1 : decode cX7_arity 1 = .ok (.ifCond .lt 20, 3) := by decide +kernel
theorem dX7_arity_4 : decode cX7_arity 4 = .ok (.iload_n 1, 1) := by decide +kernel
theorem dX7_arity_5 : decode cX7_arity 5 = .ok (.aload_n 0, 1) := by decide +kernel
theorem dX7_arity_6 : decode cX7_arity 6 = .ok (.getfield 35, 3) := by decide +kernel
theorem dX7_arity_9 : decode cX7_arity 9 = .ok (.if_icmp .ge 12, 3) := by decide +kernel
theorem dX7_arity_12 : decode cX7_arity 12 = .ok (.aload_n 0, 1) := by decide +kernel
theorem dX7_arity_13 : decode cX7_arity 13 = .ok (.getfield 19, 3) := by decide +kernel
theorem dX7_arity_16 : decode cX7_arity 16 = .ok (.iload_n 1, 1) := by decide +kernel
theorem dX7_arity_17 : decode cX7_arity 17 = .ok (.iaload, 1) := by decide +kernel
theorem dX7_arity_18 : decode cX7_arity 18 = .ok (.goto 4, 3) := by decide +kernel
theorem dX7_arity_21 : decode cX7_arity 21 = .ok (.iconst 0, 1) := by decide +kernel
theorem dX7_arity_22 : decode cX7_arity 22 = .ok (.ireturn, 1) := by decide +kernel
theorem dX7_chooseOrder_0 : decode cX7_chooseOrder 0 = .ok (.aload_n 0, 1) := by decide +kernel
theorem dX7_chooseOrder_1 : decode cX7_chooseOrder 1 = .ok (.iload_n 1, 1) := by decide +kernel
theorem dX7_chooseOrder_2 : decode cX7_chooseOrder 2 = .ok (.putfield 58, 3) := by decide +kernel
theorem dX7_chooseOrder_5 : decode cX7_chooseOrder 5 = .ok (.return_, 1) := by decide +kernel
theorem dX7_direct_0 : decode cX7_direct 0 = .ok (.iload_n 1, 1) := by decide +kernel
theorem dX7_direct_1 : decode cX7_direct 1 = .ok (.ifCond .lt 18, 3) := by decide +kernel
theorem dX7_direct_4 : decode cX7_direct 4 = .ok (.iload_n 1, 1) := by decide +kernel
theorem dX7_direct_5 : decode cX7_direct 5 = .ok (.aload_n 0, 1) := by decide +kernel
theorem dX7_direct_6 : decode cX7_direct 6 = .ok (.getfield 35, 3) := by decide +kernel
theorem dX7_direct_9 : decode cX7_direct 9 = .ok (.if_icmp .ge 10, 3) := by decide +kernel
theorem dX7_direct_12 : decode cX7_direct 12 = .ok (.aload_n 0, 1) := by decide +kernel
theorem dX7_direct_13 : decode cX7_direct 13 = .ok (.getfield 31, 3) := by decide +kernel
theorem dX7_direct_16 : decode cX7_direct 16 = .ok (.iload_n 1, 1) := by decide +kernel
theorem dX7_direct_17 : decode cX7_direct 17 = .ok (.iload_n 2, 1) := by decide +kernel
theorem dX7_direct_18 : decode cX7_direct 18 = .ok (.bastore, 1) := by decide +kernel
theorem dX7_direct_19 : decode cX7_direct 19 = .ok (.return_, 1) := by decide +kernel
theorem dX7_find_0 : decode cX7_find 0 = .ok (.iload_n 2, 1) := by decide +kernel
theorem dX7_find_1 : decode cX7_find 1 = .ok (.ifCond .lt 22, 3) := by decide +kernel
theorem dX7_find_4 : decode cX7_find 4 = .ok (.iload_n 3, 1) := by decide +kernel
theorem dX7_find_5 : decode cX7_find 5 = .ok (.iconst 1, 1) := by decide +kernel
theorem dX7_find_6 : decode cX7_find 6 = .ok (.if_icmp .lt 17, 3) := by decide +kernel
theorem dX7_find_9 : decode cX7_find 9 = .ok (.iload_n 3, 1) := by decide +kernel
theorem dX7_find_10 : decode cX7_find 10 = .ok (.bipush 8, 2) := by decide +kernel
theorem dX7_find_12 : decode cX7_find 12 = .ok (.if_icmp .gt 11, 3) := by decide +kernel
theorem dX7_find_15 : decode cX7_find 15 = .ok (.iload_n 2, 1) := by decide +kernel
theorem dX7_find_16 : decode cX7_find 16 = .ok (.iload_n 3, 1) := by decide +kernel
theorem dX7_find_17 : decode cX7_find 17 = .ok (.iadd, 1) := by decide +kernel
theorem dX7_find_18 : decode cX7_find 18 = .ok (.aload_n 1, 1) := by decide +kernel
theorem dX7_find_19 : decode cX7_find 19 = .ok (.arraylength, 1) := by decide +kernel
theorem dX7_find_20 : decode cX7_find 20 = .ok (.if_icmp .le 5, 3) := by decide +kernel
theorem dX7_find_23 : decode cX7_find 23 = .ok (.iconst (-1), 1) := by decide +kernel
theorem dX7_find_24 : decode cX7_find 24 = .ok (.ireturn, 1) := by decide +kernel
theorem dX7_find_25 : decode cX7_find 25 = .ok (.iconst 0, 1) := by decide +kernel
theorem dX7_find_26 : decode cX7_find 26 = .ok (.istore 4, 2) := by decide +kernel
theorem dX7_find_28 : decode cX7_find 28 = .ok (.iload 4, 2) := by decide +kernel
theorem dX7_find_30 : decode cX7_find 30 = .ok (.aload_n 0, 1) := by decide +kernel
theorem dX7_find_31 : decode cX7_find 31 = .ok (.getfield 35, 3) := by decide +kernel
theorem dX7_find_34 : decode cX7_find 34 = .ok (.if_icmp .ge 34, 3) := by decide +kernel
theorem dX7_find_37 : decode cX7_find 37 = .ok (.aload_n 0, 1) := by decide +kernel
theorem dX7_find_38 : decode cX7_find 38 = .ok (.getfield 15, 3) := by decide +kernel
theorem dX7_find_41 : decode cX7_find 41 = .ok (.iload 4, 2) := by decide +kernel
theorem dX7_find_43 : decode cX7_find 43 = .ok (.iaload, 1) := by decide +kernel
theorem dX7_find_44 : decode cX7_find 44 = .ok (.iload_n 3, 1) := by decide +kernel
theorem dX7_find_45 : decode cX7_find 45 = .ok (.if_icmp .ne 17, 3) := by decide +kernel
theorem dX7_find_48 : decode cX7_find 48 = .ok (.aload_n 0, 1) := by decide +kernel
theorem dX7_find_49 : decode cX7_find 49 = .ok (.iload 4, 2) := by decide +kernel
theorem dX7_find_51 : decode cX7_find 51 = .ok (.aload_n 1, 1) := by decide +kernel
theorem dX7_find_52 : decode cX7_find 52 = .ok (.iload_n 2, 1) := by decide +kernel
theorem dX7_find_53 : decode cX7_find 53 = .ok (.invokevirtual 46, 3) := by decide +kernel
theorem dX7_find_56 : decode cX7_find 56 = .ok (.ifCond .eq 6, 3) := by decide +kernel
theorem dX7_find_59 : decode cX7_find 59 = .ok (.iload 4, 2) := by decide +kernel
theorem dX7_find_61 : decode cX7_find 61 = .ok (.ireturn, 1) := by decide +kernel
theorem dX7_find_62 : decode cX7_find 62 = .ok (.iinc 4 1, 3) := by decide +kernel
theorem dX7_find_65 : decode cX7_find 65 = .ok (.goto (-37), 3) := by decide +kernel
theorem dX7_find_68 : decode cX7_find 68 = .ok (.iconst (-1), 1) := by decide +kernel
theorem dX7_find_69 : decode cX7_find 69 = .ok (.ireturn, 1) := by decide +kernel
theorem dX7_fixOrder_0 : decode cX7_fixOrder 0 = .ok (.aload_n 0, 1) := by decide +kernel
theorem dX7_fixOrder_1 : decode cX7_fixOrder 1 = .ok (.iconst 1, 1) := by decide +kernel
theorem dX7_fixOrder_2 : decode cX7_fixOrder 2 = .ok (.putfield 62, 3) := by decide +kernel
theorem dX7_fixOrder_5 : decode cX7_fixOrder 5 = .ok (.return_, 1) := by decide +kernel
theorem dX7_has_0 : decode cX7_has 0 = .ok (.iload_n 1, 1) := by decide +kernel
theorem dX7_has_1 : decode cX7_has 1 = .ok (.ifCond .lt 15, 3) := by decide +kernel
theorem dX7_has_4 : decode cX7_has 4 = .ok (.iload_n 1, 1) := by decide +kernel
theorem dX7_has_5 : decode cX7_has 5 = .ok (.aload_n 0, 1) := by decide +kernel
theorem dX7_has_6 : decode cX7_has 6 = .ok (.getfield 35, 3) := by decide +kernel
theorem dX7_has_9 : decode cX7_has 9 = .ok (.if_icmp .ge 7, 3) := by decide +kernel
theorem dX7_has_12 : decode cX7_has 12 = .ok (.iconst 1, 1) := by decide +kernel
theorem dX7_has_13 : decode cX7_has 13 = .ok (.goto 4, 3) := by decide +kernel
theorem dX7_has_16 : decode cX7_has 16 = .ok (.iconst 0, 1) := by decide +kernel
theorem dX7_has_17 : decode cX7_has 17 = .ok (.ireturn, 1) := by decide +kernel
theorem dX7_isByWeight_0 : decode cX7_isByWeight 0 = .ok (.aload_n 0, 1) := by decide +kernel
theorem dX7_isByWeight_1 : decode cX7_isByWeight 1 = .ok (.getfield 58, 3) := by decide +kernel
theorem dX7_isByWeight_4 : decode cX7_isByWeight 4 = .ok (.ireturn, 1) := by decide +kernel
theorem dX7_isFromRight_0 : decode cX7_isFromRight 0 = .ok (.iload_n 1, 1) := by decide +kernel
theorem dX7_isFromRight_1 : decode cX7_isFromRight 1 = .ok (.ifCond .lt 24, 3) := by decide +kernel
theorem dX7_isFromRight_4 : decode cX7_isFromRight 4 = .ok (.iload_n 1, 1) := by decide +kernel
theorem dX7_isFromRight_5 : decode cX7_isFromRight 5 = .ok (.aload_n 0, 1) := by decide +kernel
theorem dX7_isFromRight_6 : decode cX7_isFromRight 6 = .ok (.getfield 35, 3) := by decide +kernel
theorem dX7_isFromRight_9 : decode cX7_isFromRight 9 = .ok (.if_icmp .ge 16, 3) := by decide +kernel
theorem dX7_isFromRight_12 : decode cX7_isFromRight 12 = .ok (.aload_n 0, 1) := by decide +kernel
theorem dX7_isFromRight_13 : decode cX7_isFromRight 13 = .ok (.getfield 31, 3) := by decide +kernel
theorem dX7_isFromRight_16 : decode cX7_isFromRight 16 = .ok (.iload_n 1, 1) := by decide +kernel
theorem dX7_isFromRight_17 : decode cX7_isFromRight 17 = .ok (.baload, 1) := by decide +kernel
theorem dX7_isFromRight_18 : decode cX7_isFromRight 18 = .ok (.ifCond .eq 7, 3) := by decide +kernel
theorem dX7_isFromRight_21 : decode cX7_isFromRight 21 = .ok (.iconst 1, 1) := by decide +kernel
theorem dX7_isFromRight_22 : decode cX7_isFromRight 22 = .ok (.goto 4, 3) := by decide +kernel
theorem dX7_isFromRight_25 : decode cX7_isFromRight 25 = .ok (.iconst 0, 1) := by decide +kernel
theorem dX7_isFromRight_26 : decode cX7_isFromRight 26 = .ok (.ireturn, 1) := by decide +kernel
theorem dX7_isFull_0 : decode cX7_isFull 0 = .ok (.aload_n 0, 1) := by decide +kernel
theorem dX7_isFull_1 : decode cX7_isFull 1 = .ok (.getfield 35, 3) := by decide +kernel
theorem dX7_isFull_4 : decode cX7_isFull 4 = .ok (.bipush 24, 2) := by decide +kernel
theorem dX7_isFull_6 : decode cX7_isFull 6 = .ok (.if_icmp .lt 7, 3) := by decide +kernel
theorem dX7_isFull_9 : decode cX7_isFull 9 = .ok (.iconst 1, 1) := by decide +kernel
theorem dX7_isFull_10 : decode cX7_isFull 10 = .ok (.goto 4, 3) := by decide +kernel
theorem dX7_isFull_13 : decode cX7_isFull 13 = .ok (.iconst 0, 1) := by decide +kernel
theorem dX7_isFull_14 : decode cX7_isFull 14 = .ok (.ireturn, 1) := by decide +kernel
theorem dX7_isNameAt_0 : decode cX7_isNameAt 0 = .ok (.iconst 0, 1) := by decide +kernel
theorem dX7_isNameAt_1 : decode cX7_isNameAt 1 = .ok (.istore 4, 2) := by decide +kernel
theorem dX7_isNameAt_3 : decode cX7_isNameAt 3 = .ok (.iload 4, 2) := by decide +kernel
theorem dX7_isNameAt_5 : decode cX7_isNameAt 5 = .ok (.aload_n 0, 1) := by decide +kernel
theorem dX7_isNameAt_6 : decode cX7_isNameAt 6 = .ok (.iload_n 1, 1) := by decide +kernel
theorem dX7_isNameAt_7 : decode cX7_isNameAt 7 = .ok (.invokevirtual 50, 3) := by decide +kernel
theorem dX7_isNameAt_10 : decode cX7_isNameAt 10 = .ok (.if_icmp .ge 43, 3) := by decide +kernel
theorem dX7_isNameAt_13 : decode cX7_isNameAt 13 = .ok (.iload_n 3, 1) := by decide +kernel
theorem dX7_isNameAt_14 : decode cX7_isNameAt 14 = .ok (.iload 4, 2) := by decide +kernel
theorem dX7_isNameAt_16 : decode cX7_isNameAt 16 = .ok (.iadd, 1) := by decide +kernel
theorem dX7_isNameAt_17 : decode cX7_isNameAt 17 = .ok (.istore 5, 2) := by decide +kernel
theorem dX7_isNameAt_19 : decode cX7_isNameAt 19 = .ok (.iload 5, 2) := by decide +kernel
theorem dX7_isNameAt_21 : decode cX7_isNameAt 21 = .ok (.ifCond .lt 24, 3) := by decide +kernel
theorem dX7_isNameAt_24 : decode cX7_isNameAt 24 = .ok (.iload 5, 2) := by decide +kernel
theorem dX7_isNameAt_26 : decode cX7_isNameAt 26 = .ok (.aload_n 2, 1) := by decide +kernel
theorem dX7_isNameAt_27 : decode cX7_isNameAt 27 = .ok (.arraylength, 1) := by decide +kernel
theorem dX7_isNameAt_28 : decode cX7_isNameAt 28 = .ok (.if_icmp .ge 17, 3) := by decide +kernel
theorem dX7_isNameAt_31 : decode cX7_isNameAt 31 = .ok (.aload_n 2, 1) := by decide +kernel
theorem dX7_isNameAt_32 : decode cX7_isNameAt 32 = .ok (.iload 5, 2) := by decide +kernel
theorem dX7_isNameAt_34 : decode cX7_isNameAt 34 = .ok (.baload, 1) := by decide +kernel
theorem dX7_isNameAt_35 : decode cX7_isNameAt 35 = .ok (.aload_n 0, 1) := by decide +kernel
theorem dX7_isNameAt_36 : decode cX7_isNameAt 36 = .ok (.iload_n 1, 1) := by decide +kernel
theorem dX7_isNameAt_37 : decode cX7_isNameAt 37 = .ok (.iload 4, 2) := by decide +kernel
theorem dX7_isNameAt_39 : decode cX7_isNameAt 39 = .ok (.invokevirtual 54, 3) := by decide +kernel
theorem dX7_isNameAt_42 : decode cX7_isNameAt 42 = .ok (.if_icmp .eq 5, 3) := by decide +kernel
theorem dX7_isNameAt_45 : decode cX7_isNameAt 45 = .ok (.iconst 0, 1) := by decide +kernel
theorem dX7_isNameAt_46 : decode cX7_isNameAt 46 = .ok (.ireturn, 1) := by decide +kernel
theorem dX7_isNameAt_47 : decode cX7_isNameAt 47 = .ok (.iinc 4 1, 3) := by decide +kernel
theorem dX7_isNameAt_50 : decode cX7_isNameAt 50 = .ok (.goto (-47), 3) := by decide +kernel
theorem dX7_isNameAt_53 : decode cX7_isNameAt 53 = .ok (.iconst 1, 1) := by decide +kernel
theorem dX7_isNameAt_54 : decode cX7_isNameAt 54 = .ok (.ireturn, 1) := by decide +kernel
theorem dX7_isOrderFixed_0 : decode cX7_isOrderFixed 0 = .ok (.aload_n 0, 1) := by decide +kernel
theorem dX7_isOrderFixed_1 : decode cX7_isOrderFixed 1 = .ok (.getfield 62, 3) := by decide +kernel
theorem dX7_isOrderFixed_4 : decode cX7_isOrderFixed 4 = .ok (.ireturn, 1) := by decide +kernel
theorem dX7_moveTo_0 : decode cX7_moveTo 0 = .ok (.iload_n 1, 1) := by decide +kernel
theorem dX7_moveTo_1 : decode cX7_moveTo 1 = .ok (.ifCond .lt 11, 3) := by decide +kernel
theorem dX7_moveTo_4 : decode cX7_moveTo 4 = .ok (.iload_n 1, 1) := by decide +kernel
theorem dX7_moveTo_5 : decode cX7_moveTo 5 = .ok (.aload_n 0, 1) := by decide +kernel
theorem dX7_moveTo_6 : decode cX7_moveTo 6 = .ok (.getfield 35, 3) := by decide +kernel
theorem dX7_moveTo_9 : decode cX7_moveTo 9 = .ok (.if_icmp .lt 4, 3) := by decide +kernel
theorem dX7_moveTo_12 : decode cX7_moveTo 12 = .ok (.return_, 1) := by decide +kernel
theorem dX7_moveTo_13 : decode cX7_moveTo 13 = .ok (.aload_n 0, 1) := by decide +kernel
theorem dX7_moveTo_14 : decode cX7_moveTo 14 = .ok (.getfield 25, 3) := by decide +kernel
theorem dX7_moveTo_17 : decode cX7_moveTo 17 = .ok (.iload_n 1, 1) := by decide +kernel
theorem dX7_moveTo_18 : decode cX7_moveTo 18 = .ok (.iaload, 1) := by decide +kernel
theorem dX7_moveTo_19 : decode cX7_moveTo 19 = .ok (.istore_n 3, 1) := by decide +kernel
theorem dX7_moveTo_20 : decode cX7_moveTo 20 = .ok (.iconst 0, 1) := by decide +kernel
theorem dX7_moveTo_21 : decode cX7_moveTo 21 = .ok (.istore 4, 2) := by decide +kernel
theorem dX7_moveTo_23 : decode cX7_moveTo 23 = .ok (.iload 4, 2) := by decide +kernel
theorem dX7_moveTo_25 : decode cX7_moveTo 25 = .ok (.aload_n 0, 1) := by decide +kernel
theorem dX7_moveTo_26 : decode cX7_moveTo 26 = .ok (.getfield 35, 3) := by decide +kernel
theorem dX7_moveTo_29 : decode cX7_moveTo 29 = .ok (.if_icmp .ge 78, 3) := by decide +kernel
theorem dX7_moveTo_32 : decode cX7_moveTo 32 = .ok (.aload_n 0, 1) := by decide +kernel
theorem dX7_moveTo_33 : decode cX7_moveTo 33 = .ok (.getfield 25, 3) := by decide +kernel
theorem dX7_moveTo_36 : decode cX7_moveTo 36 = .ok (.iload 4, 2) := by decide +kernel
theorem dX7_moveTo_38 : decode cX7_moveTo 38 = .ok (.iaload, 1) := by decide +kernel
theorem dX7_moveTo_39 : decode cX7_moveTo 39 = .ok (.iload_n 3, 1) := by decide +kernel
theorem dX7_moveTo_40 : decode cX7_moveTo 40 = .ok (.if_icmp .le 28, 3) := by decide +kernel
theorem dX7_moveTo_43 : decode cX7_moveTo 43 = .ok (.aload_n 0, 1) := by decide +kernel
theorem dX7_moveTo_44 : decode cX7_moveTo 44 = .ok (.getfield 25, 3) := by decide +kernel
theorem dX7_moveTo_47 : decode cX7_moveTo 47 = .ok (.iload 4, 2) := by decide +kernel
theorem dX7_moveTo_49 : decode cX7_moveTo 49 = .ok (.iaload, 1) := by decide +kernel
theorem dX7_moveTo_50 : decode cX7_moveTo 50 = .ok (.iload_n 2, 1) := by decide +kernel
theorem dX7_moveTo_51 : decode cX7_moveTo 51 = .ok (.if_icmp .gt 17, 3) := by decide +kernel
theorem dX7_moveTo_54 : decode cX7_moveTo 54 = .ok (.aload_n 0, 1) := by decide +kernel
theorem dX7_moveTo_55 : decode cX7_moveTo 55 = .ok (.getfield 25, 3) := by decide +kernel
theorem dX7_moveTo_58 : decode cX7_moveTo 58 = .ok (.iload 4, 2) := by decide +kernel
theorem dX7_moveTo_60 : decode cX7_moveTo 60 = .ok (.dup2, 1) := by decide +kernel
theorem dX7_moveTo_61 : decode cX7_moveTo 61 = .ok (.iaload, 1) := by decide +kernel
theorem dX7_moveTo_62 : decode cX7_moveTo 62 = .ok (.iconst 1, 1) := by decide +kernel
theorem dX7_moveTo_63 : decode cX7_moveTo 63 = .ok (.isub, 1) := by decide +kernel
theorem dX7_moveTo_64 : decode cX7_moveTo 64 = .ok (.iastore, 1) := by decide +kernel
theorem dX7_moveTo_65 : decode cX7_moveTo 65 = .ok (.goto 36, 3) := by decide +kernel
theorem dX7_moveTo_68 : decode cX7_moveTo 68 = .ok (.aload_n 0, 1) := by decide +kernel
theorem dX7_moveTo_69 : decode cX7_moveTo 69 = .ok (.getfield 25, 3) := by decide +kernel
theorem dX7_moveTo_72 : decode cX7_moveTo 72 = .ok (.iload 4, 2) := by decide +kernel
theorem dX7_moveTo_74 : decode cX7_moveTo 74 = .ok (.iaload, 1) := by decide +kernel
theorem dX7_moveTo_75 : decode cX7_moveTo 75 = .ok (.iload_n 3, 1) := by decide +kernel
theorem dX7_moveTo_76 : decode cX7_moveTo 76 = .ok (.if_icmp .ge 25, 3) := by decide +kernel
theorem dX7_moveTo_79 : decode cX7_moveTo 79 = .ok (.aload_n 0, 1) := by decide +kernel
theorem dX7_moveTo_80 : decode cX7_moveTo 80 = .ok (.getfield 25, 3) := by decide +kernel
theorem dX7_moveTo_83 : decode cX7_moveTo 83 = .ok (.iload 4, 2) := by decide +kernel
theorem dX7_moveTo_85 : decode cX7_moveTo 85 = .ok (.iaload, 1) := by decide +kernel
theorem dX7_moveTo_86 : decode cX7_moveTo 86 = .ok (.iload_n 2, 1) := by decide +kernel
theorem dX7_moveTo_87 : decode cX7_moveTo 87 = .ok (.if_icmp .lt 14, 3) := by decide +kernel
theorem dX7_moveTo_90 : decode cX7_moveTo 90 = .ok (.aload_n 0, 1) := by decide +kernel
theorem dX7_moveTo_91 : decode cX7_moveTo 91 = .ok (.getfield 25, 3) := by decide +kernel
theorem dX7_moveTo_94 : decode cX7_moveTo 94 = .ok (.iload 4, 2) := by decide +kernel
theorem dX7_moveTo_96 : decode cX7_moveTo 96 = .ok (.dup2, 1) := by decide +kernel
theorem dX7_moveTo_97 : decode cX7_moveTo 97 = .ok (.iaload, 1) := by decide +kernel
theorem dX7_moveTo_98 : decode cX7_moveTo 98 = .ok (.iconst 1, 1) := by decide +kernel
theorem dX7_moveTo_99 : decode cX7_moveTo 99 = .ok (.iadd, 1) := by decide +kernel
theorem dX7_moveTo_100 : decode cX7_moveTo 100 = .ok (.iastore, 1) := by decide +kernel
theorem dX7_moveTo_101 : decode cX7_moveTo 101 = .ok (.iinc 4 1, 3) := by decide +kernel
theorem dX7_moveTo_104 : decode cX7_moveTo 104 = .ok (.goto (-81), 3) := by decide +kernel
theorem dX7_moveTo_107 : decode cX7_moveTo 107 = .ok (.aload_n 0, 1) := by decide +kernel
theorem dX7_moveTo_108 : decode cX7_moveTo 108 = .ok (.getfield 25, 3) := by decide +kernel
theorem dX7_moveTo_111 : decode cX7_moveTo 111 = .ok (.iload_n 1, 1) := by decide +kernel
theorem dX7_moveTo_112 : decode cX7_moveTo 112 = .ok (.iload_n 2, 1) := by decide +kernel
theorem dX7_moveTo_113 : decode cX7_moveTo 113 = .ok (.iastore, 1) := by decide +kernel
theorem dX7_moveTo_114 : decode cX7_moveTo 114 = .ok (.return_, 1) := by decide +kernel
theorem dX7_nameByte_0 : decode cX7_nameByte 0 = .ok (.iload_n 1, 1) := by decide +kernel
theorem dX7_nameByte_1 : decode cX7_nameByte 1 = .ok (.ifCond .lt 29, 3) := by decide +kernel
theorem dX7_nameByte_4 : decode cX7_nameByte 4 = .ok (.iload_n 1, 1) := by decide +kernel
theorem dX7_nameByte_5 : decode cX7_nameByte 5 = .ok (.aload_n 0, 1) := by decide +kernel
theorem dX7_nameByte_6 : decode cX7_nameByte 6 = .ok (.getfield 35, 3) := by decide +kernel
theorem dX7_nameByte_9 : decode cX7_nameByte 9 = .ok (.if_icmp .ge 21, 3) := by decide +kernel
theorem dX7_nameByte_12 : decode cX7_nameByte 12 = .ok (.iload_n 2, 1) := by decide +kernel
theorem dX7_nameByte_13 : decode cX7_nameByte 13 = .ok (.ifCond .lt 17, 3) := by decide +kernel
theorem dX7_nameByte_16 : decode cX7_nameByte 16 = .ok (.iload_n 2, 1) := by decide +kernel
theorem dX7_nameByte_17 : decode cX7_nameByte 17 = .ok (.aload_n 0, 1) := by decide +kernel
theorem dX7_nameByte_18 : decode cX7_nameByte 18 = .ok (.getfield 15, 3) := by decide +kernel
theorem dX7_nameByte_21 : decode cX7_nameByte 21 = .ok (.iload_n 1, 1) := by decide +kernel
theorem dX7_nameByte_22 : decode cX7_nameByte 22 = .ok (.iaload, 1) := by decide +kernel
theorem dX7_nameByte_23 : decode cX7_nameByte 23 = .ok (.if_icmp .ge 7, 3) := by decide +kernel
theorem dX7_nameByte_26 : decode cX7_nameByte 26 = .ok (.iconst 1, 1) := by decide +kernel
theorem dX7_nameByte_27 : decode cX7_nameByte 27 = .ok (.goto 4, 3) := by decide +kernel
theorem dX7_nameByte_30 : decode cX7_nameByte 30 = .ok (.iconst 0, 1) := by decide +kernel
theorem dX7_nameByte_31 : decode cX7_nameByte 31 = .ok (.istore_n 3, 1) := by decide +kernel
theorem dX7_nameByte_32 : decode cX7_nameByte 32 = .ok (.iload_n 3, 1) := by decide +kernel
theorem dX7_nameByte_33 : decode cX7_nameByte 33 = .ok (.ifCond .eq 17, 3) := by decide +kernel
theorem dX7_nameByte_36 : decode cX7_nameByte 36 = .ok (.aload_n 0, 1) := by decide +kernel
theorem dX7_nameByte_37 : decode cX7_nameByte 37 = .ok (.getfield 9, 3) := by decide +kernel
theorem dX7_nameByte_40 : decode cX7_nameByte 40 = .ok (.iload_n 1, 1) := by decide +kernel
theorem dX7_nameByte_41 : decode cX7_nameByte 41 = .ok (.bipush 8, 2) := by decide +kernel
theorem dX7_nameByte_43 : decode cX7_nameByte 43 = .ok (.imul, 1) := by decide +kernel
theorem dX7_nameByte_44 : decode cX7_nameByte 44 = .ok (.iload_n 2, 1) := by decide +kernel
theorem dX7_nameByte_45 : decode cX7_nameByte 45 = .ok (.iadd, 1) := by decide +kernel
theorem dX7_nameByte_46 : decode cX7_nameByte 46 = .ok (.baload, 1) := by decide +kernel
theorem dX7_nameByte_47 : decode cX7_nameByte 47 = .ok (.goto 4, 3) := by decide +kernel
theorem dX7_nameByte_50 : decode cX7_nameByte 50 = .ok (.iconst 0, 1) := by decide +kernel
theorem dX7_nameByte_51 : decode cX7_nameByte 51 = .ok (.ireturn, 1) := by decide +kernel
theorem dX7_nameLength_0 : decode cX7_nameLength 0 = .ok (.iload_n 1, 1) := by decide +kernel
theorem dX7_nameLength_1 : decode cX7_nameLength 1 = .ok (.ifCond .lt 20, 3) := by decide +kernel
theorem dX7_nameLength_4 : decode cX7_nameLength 4 = .ok (.iload_n 1, 1) := by decide +kernel
theorem dX7_nameLength_5 : decode cX7_nameLength 5 = .ok (.aload_n 0, 1) := by decide +kernel
theorem dX7_nameLength_6 : decode cX7_nameLength 6 = .ok (.getfield 35, 3) := by decide +kernel
theorem dX7_nameLength_9 : decode cX7_nameLength 9 = .ok (.if_icmp .ge 12, 3) := by decide +kernel
theorem dX7_nameLength_12 : decode cX7_nameLength 12 = .ok (.aload_n 0, 1) := by decide +kernel
theorem dX7_nameLength_13 : decode cX7_nameLength 13 = .ok (.getfield 15, 3) := by decide +kernel
theorem dX7_nameLength_16 : decode cX7_nameLength 16 = .ok (.iload_n 1, 1) := by decide +kernel
theorem dX7_nameLength_17 : decode cX7_nameLength 17 = .ok (.iaload, 1) := by decide +kernel
theorem dX7_nameLength_18 : decode cX7_nameLength 18 = .ok (.goto 4, 3) := by decide +kernel
theorem dX7_nameLength_21 : decode cX7_nameLength 21 = .ok (.iconst 0, 1) := by decide +kernel
theorem dX7_nameLength_22 : decode cX7_nameLength 22 = .ok (.ireturn, 1) := by decide +kernel
theorem dX7_orderMode_0 : decode cX7_orderMode 0 = .ok (.aload_n 0, 1) := by decide +kernel
theorem dX7_orderMode_1 : decode cX7_orderMode 1 = .ok (.getfield 58, 3) := by decide +kernel
theorem dX7_orderMode_4 : decode cX7_orderMode 4 = .ok (.ifCond .eq 7, 3) := by decide +kernel
theorem dX7_orderMode_7 : decode cX7_orderMode 7 = .ok (.iconst 1, 1) := by decide +kernel
theorem dX7_orderMode_8 : decode cX7_orderMode 8 = .ok (.goto 4, 3) := by decide +kernel
theorem dX7_orderMode_11 : decode cX7_orderMode 11 = .ok (.iconst 0, 1) := by decide +kernel
theorem dX7_orderMode_12 : decode cX7_orderMode 12 = .ok (.ireturn, 1) := by decide +kernel
theorem dX7_rank_0 : decode cX7_rank 0 = .ok (.iload_n 1, 1) := by decide +kernel
theorem dX7_rank_1 : decode cX7_rank 1 = .ok (.ifCond .lt 20, 3) := by decide +kernel
theorem dX7_rank_4 : decode cX7_rank 4 = .ok (.iload_n 1, 1) := by decide +kernel
theorem dX7_rank_5 : decode cX7_rank 5 = .ok (.aload_n 0, 1) := by decide +kernel
theorem dX7_rank_6 : decode cX7_rank 6 = .ok (.getfield 35, 3) := by decide +kernel
theorem dX7_rank_9 : decode cX7_rank 9 = .ok (.if_icmp .ge 12, 3) := by decide +kernel
theorem dX7_rank_12 : decode cX7_rank 12 = .ok (.aload_n 0, 1) := by decide +kernel
theorem dX7_rank_13 : decode cX7_rank 13 = .ok (.getfield 25, 3) := by decide +kernel
theorem dX7_rank_16 : decode cX7_rank 16 = .ok (.iload_n 1, 1) := by decide +kernel
theorem dX7_rank_17 : decode cX7_rank 17 = .ok (.iaload, 1) := by decide +kernel
theorem dX7_rank_18 : decode cX7_rank 18 = .ok (.goto 4, 3) := by decide +kernel
theorem dX7_rank_21 : decode cX7_rank 21 = .ok (.iconst 0, 1) := by decide +kernel
theorem dX7_rank_22 : decode cX7_rank 22 = .ok (.ireturn, 1) := by decide +kernel
theorem dX7_variableOrdinal_0 : decode cX7_variableOrdinal 0 = .ok (.iload_n 1, 1) := by decide +kernel
theorem dX7_variableOrdinal_1 : decode cX7_variableOrdinal 1 = .ok (.ifCond .lt 20, 3) := by decide +kernel
theorem dX7_variableOrdinal_4 : decode cX7_variableOrdinal 4 = .ok (.iload_n 1, 1) := by decide +kernel
theorem dX7_variableOrdinal_5 : decode cX7_variableOrdinal 5 = .ok (.aload_n 0, 1) := by decide +kernel
theorem dX7_variableOrdinal_6 : decode cX7_variableOrdinal 6 = .ok (.getfield 35, 3) := by decide +kernel
theorem dX7_variableOrdinal_9 : decode cX7_variableOrdinal 9 = .ok (.if_icmp .ge 12, 3) := by decide +kernel
theorem dX7_variableOrdinal_12 : decode cX7_variableOrdinal 12 = .ok (.aload_n 0, 1) := by decide +kernel
theorem dX7_variableOrdinal_13 : decode cX7_variableOrdinal 13 = .ok (.getfield 28, 3) := by decide +kernel
theorem dX7_variableOrdinal_16 : decode cX7_variableOrdinal 16 = .ok (.iload_n 1, 1) := by decide +kernel
theorem dX7_variableOrdinal_17 : decode cX7_variableOrdinal 17 = .ok (.iaload, 1) := by decide +kernel
theorem dX7_variableOrdinal_18 : decode cX7_variableOrdinal 18 = .ok (.goto 4, 3) := by decide +kernel
theorem dX7_variableOrdinal_21 : decode cX7_variableOrdinal 21 = .ok (.iconst (-1), 1) := by decide +kernel
theorem dX7_variableOrdinal_22 : decode cX7_variableOrdinal 22 = .ok (.ireturn, 1) := by decide +kernel
theorem dX7_weight_0 : decode cX7_weight 0 = .ok (.iload_n 1, 1) := by decide +kernel
theorem dX7_weight_1 : decode cX7_weight 1 = .ok (.ifCond .lt 20, 3) := by decide +kernel
theorem dX7_weight_4 : decode cX7_weight 4 = .ok (.iload_n 1, 1) := by decide +kernel
theorem dX7_weight_5 : decode cX7_weight 5 = .ok (.aload_n 0, 1) := by decide +kernel
theorem dX7_weight_6 : decode cX7_weight 6 = .ok (.getfield 35, 3) := by decide +kernel
theorem dX7_weight_9 : decode cX7_weight 9 = .ok (.if_icmp .ge 12, 3) := by decide +kernel
theorem dX7_weight_12 : decode cX7_weight 12 = .ok (.aload_n 0, 1) := by decide +kernel
theorem dX7_weight_13 : decode cX7_weight 13 = .ok (.getfield 22, 3) := by decide +kernel
theorem dX7_weight_16 : decode cX7_weight 16 = .ok (.iload_n 1, 1) := by decide +kernel
theorem dX7_weight_17 : decode cX7_weight 17 = .ok (.iaload, 1) := by decide +kernel
theorem dX7_weight_18 : decode cX7_weight 18 = .ok (.goto 4, 3) := by decide +kernel
theorem dX7_weight_21 : decode cX7_weight 21 = .ok (.iconst 0, 1) := by decide +kernel
theorem dX7_weight_22 : decode cX7_weight 22 = .ok (.ireturn, 1) := by decide +kernel
theorem dX8_arity_0 : decode cX8_arity 0 = .ok (.aload_n 0, 1) := by decide +kernel
theorem dX8_arity_1 : decode cX8_arity 1 = .ok (.getfield 46, 3) := by decide +kernel
theorem dX8_arity_4 : decode cX8_arity 4 = .ok (.aload_n 0, 1) := by decide +kernel
theorem dX8_arity_5 : decode cX8_arity 5 = .ok (.getfield 15, 3) := by decide +kernel
theorem dX8_arity_8 : decode cX8_arity 8 = .ok (.iload_n 1, 1) := by decide +kernel
theorem dX8_arity_9 : decode cX8_arity 9 = .ok (.invokevirtual 50, 3) := by decide +kernel
theorem dX8_arity_12 : decode cX8_arity 12 = .ok (.invokevirtual 54, 3) := by decide +kernel
theorem dX8_arity_15 : decode cX8_arity 15 = .ok (.ireturn, 1) := by decide +kernel
theorem dX8_bucketOf_0 : decode cX8_bucketOf 0 = .ok (.iload_n 1, 1) := by decide +kernel
theorem dX8_bucketOf_1 : decode cX8_bucketOf 1 = .ok (.bipush 31, 2) := by decide +kernel
theorem dX8_bucketOf_3 : decode cX8_bucketOf 3 = .ok (.imul, 1) := by decide +kernel
theorem dX8_bucketOf_4 : decode cX8_bucketOf 4 = .ok (.iload_n 2, 1) := by decide +kernel
theorem dX8_bucketOf_5 : decode cX8_bucketOf 5 = .ok (.iadd, 1) := by decide +kernel
theorem dX8_bucketOf_6 : decode cX8_bucketOf 6 = .ok (.sipush 8191, 3) := by decide +kernel
theorem dX8_bucketOf_9 : decode cX8_bucketOf 9 = .ok (.imul, 1) := by decide +kernel
theorem dX8_bucketOf_10 : decode cX8_bucketOf 10 = .ok (.iload_n 3, 1) := by decide +kernel
theorem dX8_bucketOf_11 : decode cX8_bucketOf 11 = .ok (.iadd, 1) := by decide +kernel
theorem dX8_bucketOf_12 : decode cX8_bucketOf 12 = .ok (.ldc 83, 2) := by decide +kernel
theorem dX8_bucketOf_14 : decode cX8_bucketOf 14 = .ok (.imul, 1) := by decide +kernel
theorem dX8_bucketOf_15 : decode cX8_bucketOf 15 = .ok (.iload 4, 2) := by decide +kernel
theorem dX8_bucketOf_17 : decode cX8_bucketOf 17 = .ok (.iadd, 1) := by decide +kernel
theorem dX8_bucketOf_18 : decode cX8_bucketOf 18 = .ok (.istore 5, 2) := by decide +kernel
theorem dX8_bucketOf_20 : decode cX8_bucketOf 20 = .ok (.iload 5, 2) := by decide +kernel
theorem dX8_bucketOf_22 : decode cX8_bucketOf 22 = .ok (.iload 5, 2) := by decide +kernel
theorem dX8_bucketOf_24 : decode cX8_bucketOf 24 = .ok (.bipush 15, 2) := by decide +kernel
theorem dX8_bucketOf_26 : decode cX8_bucketOf 26 = .ok (.iushr, 1) := by decide +kernel
theorem dX8_bucketOf_27 : decode cX8_bucketOf 27 = .ok (.ixor, 1) := by decide +kernel
theorem dX8_bucketOf_28 : decode cX8_bucketOf 28 = .ok (.istore 5, 2) := by decide +kernel
theorem dX8_bucketOf_30 : decode cX8_bucketOf 30 = .ok (.iload 5, 2) := by decide +kernel
theorem dX8_bucketOf_32 : decode cX8_bucketOf 32 = .ok (.ldc 84, 2) := by decide +kernel
theorem dX8_bucketOf_34 : decode cX8_bucketOf 34 = .ok (.imul, 1) := by decide +kernel
theorem dX8_bucketOf_35 : decode cX8_bucketOf 35 = .ok (.istore 5, 2) := by decide +kernel
theorem dX8_bucketOf_37 : decode cX8_bucketOf 37 = .ok (.iload 5, 2) := by decide +kernel
theorem dX8_bucketOf_39 : decode cX8_bucketOf 39 = .ok (.iload 5, 2) := by decide +kernel
theorem dX8_bucketOf_41 : decode cX8_bucketOf 41 = .ok (.bipush 13, 2) := by decide +kernel
theorem dX8_bucketOf_43 : decode cX8_bucketOf 43 = .ok (.iushr, 1) := by decide +kernel
theorem dX8_bucketOf_44 : decode cX8_bucketOf 44 = .ok (.ixor, 1) := by decide +kernel
theorem dX8_bucketOf_45 : decode cX8_bucketOf 45 = .ok (.istore 5, 2) := by decide +kernel
theorem dX8_bucketOf_47 : decode cX8_bucketOf 47 = .ok (.iload 5, 2) := by decide +kernel
theorem dX8_bucketOf_49 : decode cX8_bucketOf 49 = .ok (.sipush 32767, 3) := by decide +kernel
theorem dX8_bucketOf_52 : decode cX8_bucketOf 52 = .ok (.iand, 1) := by decide +kernel
theorem dX8_bucketOf_53 : decode cX8_bucketOf 53 = .ok (.ireturn, 1) := by decide +kernel
theorem dX8_extentOver_0 : decode cX8_extentOver 0 = .ok (.iconst 1, 1) := by decide +kernel
theorem dX8_extentOver_1 : decode cX8_extentOver 1 = .ok (.iload_n 2, 1) := by decide +kernel
theorem dX8_extentOver_2 : decode cX8_extentOver 2 = .ok (.bipush 9, 2) := by decide +kernel
theorem dX8_extentOver_4 : decode cX8_extentOver 4 = .ok (.iushr, 1) := by decide +kernel
theorem dX8_extentOver_5 : decode cX8_extentOver 5 = .ok (.iadd, 1) := by decide +kernel
theorem dX8_extentOver_6 : decode cX8_extentOver 6 = .ok (.iload_n 3, 1) := by decide +kernel
theorem dX8_extentOver_7 : decode cX8_extentOver 7 = .ok (.bipush 9, 2) := by decide +kernel
theorem dX8_extentOver_9 : decode cX8_extentOver 9 = .ok (.iushr, 1) := by decide +kernel
theorem dX8_extentOver_10 : decode cX8_extentOver 10 = .ok (.iadd, 1) := by decide +kernel
theorem dX8_extentOver_11 : decode cX8_extentOver 11 = .ok (.iload 4, 2) := by decide +kernel
theorem dX8_extentOver_13 : decode cX8_extentOver 13 = .ok (.bipush 9, 2) := by decide +kernel
theorem dX8_extentOver_15 : decode cX8_extentOver 15 = .ok (.iushr, 1) := by decide +kernel
theorem dX8_extentOver_16 : decode cX8_extentOver 16 = .ok (.iadd, 1) := by decide +kernel
theorem dX8_extentOver_17 : decode cX8_extentOver 17 = .ok (.ldc 94, 2) := by decide +kernel
theorem dX8_extentOver_19 : decode cX8_extentOver 19 = .ok (.invokestatic 95, 3) := by decide +kernel
theorem dX8_extentOver_22 : decode cX8_extentOver 22 = .ok (.istore 5, 2) := by decide +kernel
theorem dX8_extentOver_24 : decode cX8_extentOver 24 = .ok (.iload_n 2, 1) := by decide +kernel
theorem dX8_extentOver_25 : decode cX8_extentOver 25 = .ok (.iconst 1, 1) := by decide +kernel
theorem dX8_extentOver_26 : decode cX8_extentOver 26 = .ok (.iushr, 1) := by decide +kernel
theorem dX8_extentOver_27 : decode cX8_extentOver 27 = .ok (.sipush 255, 3) := by decide +kernel
theorem dX8_extentOver_30 : decode cX8_extentOver 30 = .ok (.iand, 1) := by decide +kernel
theorem dX8_extentOver_31 : decode cX8_extentOver 31 = .ok (.iload_n 3, 1) := by decide +kernel
theorem dX8_extentOver_32 : decode cX8_extentOver 32 = .ok (.iconst 1, 1) := by decide +kernel
theorem dX8_extentOver_33 : decode cX8_extentOver 33 = .ok (.iushr, 1) := by decide +kernel
theorem dX8_extentOver_34 : decode cX8_extentOver 34 = .ok (.sipush 255, 3) := by decide +kernel
theorem dX8_extentOver_37 : decode cX8_extentOver 37 = .ok (.iand, 1) := by decide +kernel
theorem dX8_extentOver_38 : decode cX8_extentOver 38 = .ok (.invokestatic 101, 3) := by decide +kernel
theorem dX8_extentOver_41 : decode cX8_extentOver 41 = .ok (.istore 6, 2) := by decide +kernel
theorem dX8_extentOver_43 : decode cX8_extentOver 43 = .ok (.iconst 1, 1) := by decide +kernel
theorem dX8_extentOver_44 : decode cX8_extentOver 44 = .ok (.iload 6, 2) := by decide +kernel
theorem dX8_extentOver_46 : decode cX8_extentOver 46 = .ok (.iload 4, 2) := by decide +kernel
theorem dX8_extentOver_48 : decode cX8_extentOver 48 = .ok (.iconst 1, 1) := by decide +kernel
theorem dX8_extentOver_49 : decode cX8_extentOver 49 = .ok (.iushr, 1) := by decide +kernel
theorem dX8_extentOver_50 : decode cX8_extentOver 50 = .ok (.sipush 255, 3) := by decide +kernel
theorem dX8_extentOver_53 : decode cX8_extentOver 53 = .ok (.iand, 1) := by decide +kernel
theorem dX8_extentOver_54 : decode cX8_extentOver 54 = .ok (.invokestatic 101, 3) := by decide +kernel
theorem dX8_extentOver_57 : decode cX8_extentOver 57 = .ok (.iadd, 1) := by decide +kernel
theorem dX8_extentOver_58 : decode cX8_extentOver 58 = .ok (.sipush 255, 3) := by decide +kernel
theorem dX8_extentOver_61 : decode cX8_extentOver 61 = .ok (.invokestatic 95, 3) := by decide +kernel
theorem dX8_extentOver_64 : decode cX8_extentOver 64 = .ok (.istore 7, 2) := by decide +kernel
theorem dX8_extentOver_66 : decode cX8_extentOver 66 = .ok (.iload 5, 2) := by decide +kernel
theorem dX8_extentOver_68 : decode cX8_extentOver 68 = .ok (.bipush 9, 2) := by decide +kernel
theorem dX8_extentOver_70 : decode cX8_extentOver 70 = .ok (.ishl, 1) := by decide +kernel
theorem dX8_extentOver_71 : decode cX8_extentOver 71 = .ok (.iload 7, 2) := by decide +kernel
theorem dX8_extentOver_73 : decode cX8_extentOver 73 = .ok (.iconst 1, 1) := by decide +kernel
theorem dX8_extentOver_74 : decode cX8_extentOver 74 = .ok (.ishl, 1) := by decide +kernel
theorem dX8_extentOver_75 : decode cX8_extentOver 75 = .ok (.ior, 1) := by decide +kernel
theorem dX8_extentOver_76 : decode cX8_extentOver 76 = .ok (.iload_n 1, 1) := by decide +kernel
theorem dX8_extentOver_77 : decode cX8_extentOver 77 = .ok (.ior, 1) := by decide +kernel
theorem dX8_extentOver_78 : decode cX8_extentOver 78 = .ok (.iload_n 2, 1) := by decide +kernel
theorem dX8_extentOver_79 : decode cX8_extentOver 79 = .ok (.iload_n 3, 1) := by decide +kernel
theorem dX8_extentOver_80 : decode cX8_extentOver 80 = .ok (.ior, 1) := by decide +kernel
theorem dX8_extentOver_81 : decode cX8_extentOver 81 = .ok (.iload 4, 2) := by decide +kernel
theorem dX8_extentOver_83 : decode cX8_extentOver 83 = .ok (.ior, 1) := by decide +kernel
theorem dX8_extentOver_84 : decode cX8_extentOver 84 = .ok (.iconst 1, 1) := by decide +kernel
theorem dX8_extentOver_85 : decode cX8_extentOver 85 = .ok (.iand, 1) := by decide +kernel
theorem dX8_extentOver_86 : decode cX8_extentOver 86 = .ok (.ior, 1) := by decide +kernel
theorem dX8_extentOver_87 : decode cX8_extentOver 87 = .ok (.ireturn, 1) := by decide +kernel
theorem dX8_height_0 : decode cX8_height 0 = .ok (.aload_n 0, 1) := by decide +kernel
theorem dX8_height_1 : decode cX8_height 1 = .ok (.getfield 25, 3) := by decide +kernel
theorem dX8_height_4 : decode cX8_height 4 = .ok (.iload_n 1, 1) := by decide +kernel
theorem dX8_height_5 : decode cX8_height 5 = .ok (.invokevirtual 50, 3) := by decide +kernel
theorem dX8_height_8 : decode cX8_height 8 = .ok (.iconst 1, 1) := by decide +kernel
theorem dX8_height_9 : decode cX8_height 9 = .ok (.iushr, 1) := by decide +kernel
theorem dX8_height_10 : decode cX8_height 10 = .ok (.sipush 255, 3) := by decide +kernel
theorem dX8_height_13 : decode cX8_height 13 = .ok (.iand, 1) := by decide +kernel
theorem dX8_height_14 : decode cX8_height 14 = .ok (.ireturn, 1) := by decide +kernel
theorem dX8_isCrowded_0 : decode cX8_isCrowded 0 = .ok (.aload_n 0, 1) := by decide +kernel
theorem dX8_isCrowded_1 : decode cX8_isCrowded 1 = .ok (.getfield 88, 3) := by decide +kernel
theorem dX8_isCrowded_4 : decode cX8_isCrowded 4 = .ok (.aload_n 0, 1) := by decide +kernel
theorem dX8_isCrowded_5 : decode cX8_isCrowded 5 = .ok (.getfield 42, 3) := by decide +kernel
theorem dX8_isCrowded_8 : decode cX8_isCrowded 8 = .ok (.if_icmp .le 7, 3) := by decide +kernel
theorem dX8_isCrowded_11 : decode cX8_isCrowded 11 = .ok (.iconst 1, 1) := by decide +kernel
theorem dX8_isCrowded_12 : decode cX8_isCrowded 12 = .ok (.goto 4, 3) := by decide +kernel
theorem dX8_isCrowded_15 : decode cX8_isCrowded 15 = .ok (.iconst 0, 1) := by decide +kernel
theorem dX8_isCrowded_16 : decode cX8_isCrowded 16 = .ok (.ireturn, 1) := by decide +kernel
theorem dX8_isGround_0 : decode cX8_isGround 0 = .ok (.aload_n 0, 1) := by decide +kernel
theorem dX8_isGround_1 : decode cX8_isGround 1 = .ok (.getfield 25, 3) := by decide +kernel
theorem dX8_isGround_4 : decode cX8_isGround 4 = .ok (.iload_n 1, 1) := by decide +kernel
theorem dX8_isGround_5 : decode cX8_isGround 5 = .ok (.invokevirtual 50, 3) := by decide +kernel
theorem dX8_isGround_8 : decode cX8_isGround 8 = .ok (.iconst 1, 1) := by decide +kernel
theorem dX8_isGround_9 : decode cX8_isGround 9 = .ok (.iand, 1) := by decide +kernel
theorem dX8_isGround_10 : decode cX8_isGround 10 = .ok (.ifCond .ne 7, 3) := by decide +kernel
theorem dX8_isGround_13 : decode cX8_isGround 13 = .ok (.iconst 1, 1) := by decide +kernel
theorem dX8_isGround_14 : decode cX8_isGround 14 = .ok (.goto 4, 3) := by decide +kernel
theorem dX8_isGround_17 : decode cX8_isGround 17 = .ok (.iconst 0, 1) := by decide +kernel
theorem dX8_isGround_18 : decode cX8_isGround 18 = .ok (.ireturn, 1) := by decide +kernel
theorem dX8_isTooLarge_0 : decode cX8_isTooLarge 0 = .ok (.aload_n 0, 1) := by decide +kernel
theorem dX8_isTooLarge_1 : decode cX8_isTooLarge 1 = .ok (.iload_n 1, 1) := by decide +kernel
theorem dX8_isTooLarge_2 : decode cX8_isTooLarge 2 = .ok (.invokevirtual 62, 3) := by decide +kernel
theorem dX8_isTooLarge_5 : decode cX8_isTooLarge 5 = .ok (.sipush 1000, 3) := by decide +kernel
theorem dX8_isTooLarge_8 : decode cX8_isTooLarge 8 = .ok (.if_icmp .gt 13, 3) := by decide +kernel
theorem dX8_isTooLarge_11 : decode cX8_isTooLarge 11 = .ok (.aload_n 0, 1) := by decide +kernel
theorem dX8_isTooLarge_12 : decode cX8_isTooLarge 12 = .ok (.iload_n 1, 1) := by decide +kernel
theorem dX8_isTooLarge_13 : decode cX8_isTooLarge 13 = .ok (.invokevirtual 65, 3) := by decide +kernel
theorem dX8_isTooLarge_16 : decode cX8_isTooLarge 16 = .ok (.bipush 60, 2) := by decide +kernel
theorem dX8_isTooLarge_18 : decode cX8_isTooLarge 18 = .ok (.if_icmp .le 7, 3) := by decide +kernel
theorem dX8_isTooLarge_21 : decode cX8_isTooLarge 21 = .ok (.iconst 1, 1) := by decide +kernel
theorem dX8_isTooLarge_22 : decode cX8_isTooLarge 22 = .ok (.goto 4, 3) := by decide +kernel
theorem dX8_isTooLarge_25 : decode cX8_isTooLarge 25 = .ok (.iconst 0, 1) := by decide +kernel
theorem dX8_isTooLarge_26 : decode cX8_isTooLarge 26 = .ok (.ireturn, 1) := by decide +kernel
theorem dX8_keep_0 : decode cX8_keep 0 = .ok (.aload_n 0, 1) := by decide +kernel
theorem dX8_keep_1 : decode cX8_keep 1 = .ok (.getfield 85, 3) := by decide +kernel
theorem dX8_keep_4 : decode cX8_keep 4 = .ok (.iconst 1, 1) := by decide +kernel
theorem dX8_keep_5 : decode cX8_keep 5 = .ok (.isub, 1) := by decide +kernel
theorem dX8_keep_6 : decode cX8_keep 6 = .ok (.istore 6, 2) := by decide +kernel
theorem dX8_keep_8 : decode cX8_keep 8 = .ok (.iload 6, 2) := by decide +kernel
theorem dX8_keep_10 : decode cX8_keep 10 = .ok (.ifCond .lt 19, 3) := by decide +kernel
theorem dX8_keep_13 : decode cX8_keep 13 = .ok (.aload_n 0, 1) := by decide +kernel
theorem dX8_keep_14 : decode cX8_keep 14 = .ok (.aload_n 0, 1) := by decide +kernel
theorem dX8_keep_15 : decode cX8_keep 15 = .ok (.getfield 31, 3) := by decide +kernel
theorem dX8_keep_18 : decode cX8_keep 18 = .ok (.iload 6, 2) := by decide +kernel
theorem dX8_keep_20 : decode cX8_keep 20 = .ok (.invokevirtual 50, 3) := by decide +kernel
theorem dX8_keep_23 : decode cX8_keep 23 = .ok (.putfield 85, 3) := by decide +kernel
theorem dX8_keep_26 : decode cX8_keep 26 = .ok (.goto 33, 3) := by decide +kernel
theorem dX8_keep_29 : decode cX8_keep 29 = .ok (.aload_n 0, 1) := by decide +kernel
theorem dX8_keep_30 : decode cX8_keep 30 = .ok (.getfield 76, 3) := by decide +kernel
theorem dX8_keep_33 : decode cX8_keep 33 = .ok (.ldc 11, 2) := by decide +kernel
theorem dX8_keep_35 : decode cX8_keep 35 = .ok (.if_icmp .ge 22, 3) := by decide +kernel
theorem dX8_keep_38 : decode cX8_keep 38 = .ok (.aload_n 0, 1) := by decide +kernel
theorem dX8_keep_39 : decode cX8_keep 39 = .ok (.getfield 76, 3) := by decide +kernel
theorem dX8_keep_42 : decode cX8_keep 42 = .ok (.istore 6, 2) := by decide +kernel
theorem dX8_keep_44 : decode cX8_keep 44 = .ok (.aload_n 0, 1) := by decide +kernel
theorem dX8_keep_45 : decode cX8_keep 45 = .ok (.dup, 1) := by decide +kernel
theorem dX8_keep_46 : decode cX8_keep 46 = .ok (.getfield 76, 3) := by decide +kernel
theorem dX8_keep_49 : decode cX8_keep 49 = .ok (.iconst 1, 1) := by decide +kernel
theorem dX8_keep_50 : decode cX8_keep 50 = .ok (.iadd, 1) := by decide +kernel
theorem dX8_keep_51 : decode cX8_keep 51 = .ok (.putfield 76, 3) := by decide +kernel
theorem dX8_keep_54 : decode cX8_keep 54 = .ok (.goto 5, 3) := by decide +kernel
theorem dX8_keep_57 : decode cX8_keep 57 = .ok (.iconst 0, 1) := by decide +kernel
theorem dX8_keep_58 : decode cX8_keep 58 = .ok (.ireturn, 1) := by decide +kernel
theorem dX8_keep_59 : decode cX8_keep 59 = .ok (.aload_n 0, 1) := by decide +kernel
theorem dX8_keep_60 : decode cX8_keep 60 = .ok (.dup, 1) := by decide +kernel
theorem dX8_keep_61 : decode cX8_keep 61 = .ok (.getfield 88, 3) := by decide +kernel
theorem dX8_keep_64 : decode cX8_keep 64 = .ok (.iconst 1, 1) := by decide +kernel
theorem dX8_keep_65 : decode cX8_keep 65 = .ok (.iadd, 1) := by decide +kernel
theorem dX8_keep_66 : decode cX8_keep 66 = .ok (.putfield 88, 3) := by decide +kernel
theorem dX8_keep_69 : decode cX8_keep 69 = .ok (.aload_n 0, 1) := by decide +kernel
theorem dX8_keep_70 : decode cX8_keep 70 = .ok (.getfield 15, 3) := by decide +kernel
theorem dX8_keep_73 : decode cX8_keep 73 = .ok (.iload 6, 2) := by decide +kernel
theorem dX8_keep_75 : decode cX8_keep 75 = .ok (.iload_n 1, 1) := by decide +kernel
theorem dX8_keep_76 : decode cX8_keep 76 = .ok (.invokevirtual 68, 3) := by decide +kernel
theorem dX8_keep_79 : decode cX8_keep 79 = .ok (.aload_n 0, 1) := by decide +kernel
theorem dX8_keep_80 : decode cX8_keep 80 = .ok (.getfield 22, 3) := by decide +kernel
theorem dX8_keep_83 : decode cX8_keep 83 = .ok (.iconst 3, 1) := by decide +kernel
theorem dX8_keep_84 : decode cX8_keep 84 = .ok (.iload 6, 2) := by decide +kernel
theorem dX8_keep_86 : decode cX8_keep 86 = .ok (.imul, 1) := by decide +kernel
theorem dX8_keep_87 : decode cX8_keep 87 = .ok (.iload_n 2, 1) := by decide +kernel
theorem dX8_keep_88 : decode cX8_keep 88 = .ok (.invokevirtual 68, 3) := by decide +kernel
theorem dX8_keep_91 : decode cX8_keep 91 = .ok (.aload_n 0, 1) := by decide +kernel
theorem dX8_keep_92 : decode cX8_keep 92 = .ok (.getfield 22, 3) := by decide +kernel
theorem dX8_keep_95 : decode cX8_keep 95 = .ok (.iconst 3, 1) := by decide +kernel
theorem dX8_keep_96 : decode cX8_keep 96 = .ok (.iload 6, 2) := by decide +kernel
theorem dX8_keep_98 : decode cX8_keep 98 = .ok (.imul, 1) := by decide +kernel
theorem dX8_keep_99 : decode cX8_keep 99 = .ok (.iconst 1, 1) := by decide +kernel
theorem dX8_keep_100 : decode cX8_keep 100 = .ok (.iadd, 1) := by decide +kernel
theorem dX8_keep_101 : decode cX8_keep 101 = .ok (.iload_n 3, 1) := by decide +kernel
theorem dX8_keep_102 : decode cX8_keep 102 = .ok (.invokevirtual 68, 3) := by decide +kernel
theorem dX8_keep_105 : decode cX8_keep 105 = .ok (.aload_n 0, 1) := by decide +kernel
theorem dX8_keep_106 : decode cX8_keep 106 = .ok (.getfield 22, 3) := by decide +kernel
theorem dX8_keep_109 : decode cX8_keep 109 = .ok (.iconst 3, 1) := by decide +kernel
theorem dX8_keep_110 : decode cX8_keep 110 = .ok (.iload 6, 2) := by decide +kernel
theorem dX8_keep_112 : decode cX8_keep 112 = .ok (.imul, 1) := by decide +kernel
theorem dX8_keep_113 : decode cX8_keep 113 = .ok (.iconst 2, 1) := by decide +kernel
theorem dX8_keep_114 : decode cX8_keep 114 = .ok (.iadd, 1) := by decide +kernel
theorem dX8_keep_115 : decode cX8_keep 115 = .ok (.iload 4, 2) := by decide +kernel
theorem dX8_keep_117 : decode cX8_keep 117 = .ok (.invokevirtual 68, 3) := by decide +kernel
theorem dX8_keep_120 : decode cX8_keep 120 = .ok (.aload_n 0, 1) := by decide +kernel
theorem dX8_keep_121 : decode cX8_keep 121 = .ok (.getfield 46, 3) := by decide +kernel
theorem dX8_keep_124 : decode cX8_keep 124 = .ok (.iload_n 1, 1) := by decide +kernel
theorem dX8_keep_125 : decode cX8_keep 125 = .ok (.invokevirtual 59, 3) := by decide +kernel
theorem dX8_keep_128 : decode cX8_keep 128 = .ok (.iconst (-1), 1) := by decide +kernel
theorem dX8_keep_129 : decode cX8_keep 129 = .ok (.if_icmp .ne 7, 3) := by decide +kernel
theorem dX8_keep_132 : decode cX8_keep 132 = .ok (.iconst 0, 1) := by decide +kernel
theorem dX8_keep_133 : decode cX8_keep 133 = .ok (.goto 4, 3) := by decide +kernel
theorem dX8_keep_136 : decode cX8_keep 136 = .ok (.iconst 1, 1) := by decide +kernel
theorem dX8_keep_137 : decode cX8_keep 137 = .ok (.istore 7, 2) := by decide +kernel
theorem dX8_keep_139 : decode cX8_keep 139 = .ok (.aload_n 0, 1) := by decide +kernel
theorem dX8_keep_140 : decode cX8_keep 140 = .ok (.getfield 25, 3) := by decide +kernel
theorem dX8_keep_143 : decode cX8_keep 143 = .ok (.iload 6, 2) := by decide +kernel
theorem dX8_keep_145 : decode cX8_keep 145 = .ok (.aload_n 0, 1) := by decide +kernel
theorem dX8_keep_146 : decode cX8_keep 146 = .ok (.iload 7, 2) := by decide +kernel
theorem dX8_keep_148 : decode cX8_keep 148 = .ok (.aload_n 0, 1) := by decide +kernel
theorem dX8_keep_149 : decode cX8_keep 149 = .ok (.getfield 25, 3) := by decide +kernel
theorem dX8_keep_152 : decode cX8_keep 152 = .ok (.iload_n 2, 1) := by decide +kernel
theorem dX8_keep_153 : decode cX8_keep 153 = .ok (.invokevirtual 50, 3) := by decide +kernel
theorem dX8_keep_156 : decode cX8_keep 156 = .ok (.aload_n 0, 1) := by decide +kernel
theorem dX8_keep_157 : decode cX8_keep 157 = .ok (.getfield 25, 3) := by decide +kernel
theorem dX8_keep_160 : decode cX8_keep 160 = .ok (.iload_n 3, 1) := by decide +kernel
theorem dX8_keep_161 : decode cX8_keep 161 = .ok (.invokevirtual 50, 3) := by decide +kernel
theorem dX8_keep_164 : decode cX8_keep 164 = .ok (.aload_n 0, 1) := by decide +kernel
theorem dX8_keep_165 : decode cX8_keep 165 = .ok (.getfield 25, 3) := by decide +kernel
theorem dX8_keep_168 : decode cX8_keep 168 = .ok (.iload 4, 2) := by decide +kernel
theorem dX8_keep_170 : decode cX8_keep 170 = .ok (.invokevirtual 50, 3) := by decide +kernel
theorem dX8_keep_173 : decode cX8_keep 173 = .ok (.invokevirtual 91, 3) := by decide +kernel
theorem dX8_keep_176 : decode cX8_keep 176 = .ok (.invokevirtual 68, 3) := by decide +kernel
theorem dX8_keep_179 : decode cX8_keep 179 = .ok (.aload_n 0, 1) := by decide +kernel
theorem dX8_keep_180 : decode cX8_keep 180 = .ok (.getfield 31, 3) := by decide +kernel
theorem dX8_keep_183 : decode cX8_keep 183 = .ok (.iload 6, 2) := by decide +kernel
theorem dX8_keep_185 : decode cX8_keep 185 = .ok (.aload_n 0, 1) := by decide +kernel
theorem dX8_keep_186 : decode cX8_keep 186 = .ok (.getfield 35, 3) := by decide +kernel
theorem dX8_keep_189 : decode cX8_keep 189 = .ok (.iload 5, 2) := by decide +kernel
theorem dX8_keep_191 : decode cX8_keep 191 = .ok (.invokevirtual 50, 3) := by decide +kernel
theorem dX8_keep_194 : decode cX8_keep 194 = .ok (.invokevirtual 68, 3) := by decide +kernel
theorem dX8_keep_197 : decode cX8_keep 197 = .ok (.aload_n 0, 1) := by decide +kernel
theorem dX8_keep_198 : decode cX8_keep 198 = .ok (.getfield 35, 3) := by decide +kernel
theorem dX8_keep_201 : decode cX8_keep 201 = .ok (.iload 5, 2) := by decide +kernel
theorem dX8_keep_203 : decode cX8_keep 203 = .ok (.iload 6, 2) := by decide +kernel
theorem dX8_keep_205 : decode cX8_keep 205 = .ok (.iconst 1, 1) := by decide +kernel
theorem dX8_keep_206 : decode cX8_keep 206 = .ok (.iadd, 1) := by decide +kernel
theorem dX8_keep_207 : decode cX8_keep 207 = .ok (.invokevirtual 68, 3) := by decide +kernel
theorem dX8_keep_210 : decode cX8_keep 210 = .ok (.iload 6, 2) := by decide +kernel
theorem dX8_keep_212 : decode cX8_keep 212 = .ok (.ireturn, 1) := by decide +kernel
theorem dX8_make_0 : decode cX8_make 0 = .ok (.aload_n 0, 1) := by decide +kernel
theorem dX8_make_1 : decode cX8_make 1 = .ok (.iload_n 1, 1) := by decide +kernel
theorem dX8_make_2 : decode cX8_make 2 = .ok (.iload_n 2, 1) := by decide +kernel
theorem dX8_make_3 : decode cX8_make 3 = .ok (.iload_n 3, 1) := by decide +kernel
theorem dX8_make_4 : decode cX8_make 4 = .ok (.iload 4, 2) := by decide +kernel
theorem dX8_make_6 : decode cX8_make 6 = .ok (.invokevirtual 72, 3) := by decide +kernel
theorem dX8_make_9 : decode cX8_make 9 = .ok (.istore 5, 2) := by decide +kernel
theorem dX8_make_11 : decode cX8_make 11 = .ok (.aload_n 0, 1) := by decide +kernel
theorem dX8_make_12 : decode cX8_make 12 = .ok (.getfield 35, 3) := by decide +kernel
theorem dX8_make_15 : decode cX8_make 15 = .ok (.iload 5, 2) := by decide +kernel
theorem dX8_make_17 : decode cX8_make 17 = .ok (.invokevirtual 50, 3) := by decide +kernel
theorem dX8_make_20 : decode cX8_make 20 = .ok (.iconst 1, 1) := by decide +kernel
theorem dX8_make_21 : decode cX8_make 21 = .ok (.isub, 1) := by decide +kernel
theorem dX8_make_22 : decode cX8_make 22 = .ok (.istore 6, 2) := by decide +kernel
theorem dX8_make_24 : decode cX8_make 24 = .ok (.iconst 0, 1) := by decide +kernel
theorem dX8_make_25 : decode cX8_make 25 = .ok (.istore 7, 2) := by decide +kernel
theorem dX8_make_27 : decode cX8_make 27 = .ok (.iload 7, 2) := by decide +kernel
theorem dX8_make_29 : decode cX8_make 29 = .ok (.aload_n 0, 1) := by decide +kernel
theorem dX8_make_30 : decode cX8_make 30 = .ok (.getfield 76, 3) := by decide +kernel
theorem dX8_make_33 : decode cX8_make 33 = .ok (.if_icmp .ge 93, 3) := by decide +kernel
theorem dX8_make_36 : decode cX8_make 36 = .ok (.iload 6, 2) := by decide +kernel
theorem dX8_make_38 : decode cX8_make 38 = .ok (.ifCond .lt 88, 3) := by decide +kernel
theorem dX8_make_41 : decode cX8_make 41 = .ok (.iconst 3, 1) := by decide +kernel
theorem dX8_make_42 : decode cX8_make 42 = .ok (.iload 6, 2) := by decide +kernel
theorem dX8_make_44 : decode cX8_make 44 = .ok (.imul, 1) := by decide +kernel
theorem dX8_make_45 : decode cX8_make 45 = .ok (.istore 8, 2) := by decide +kernel
theorem dX8_make_47 : decode cX8_make 47 = .ok (.aload_n 0, 1) := by decide +kernel
theorem dX8_make_48 : decode cX8_make 48 = .ok (.getfield 15, 3) := by decide +kernel
theorem dX8_make_51 : decode cX8_make 51 = .ok (.iload 6, 2) := by decide +kernel
theorem dX8_make_53 : decode cX8_make 53 = .ok (.invokevirtual 50, 3) := by decide +kernel
theorem dX8_make_56 : decode cX8_make 56 = .ok (.iload_n 1, 1) := by decide +kernel
theorem dX8_make_57 : decode cX8_make 57 = .ok (.if_icmp .ne 50, 3) := by decide +kernel
theorem dX8_make_60 : decode cX8_make 60 = .ok (.aload_n 0, 1) := by decide +kernel
theorem dX8_make_61 : decode cX8_make 61 = .ok (.getfield 22, 3) := by decide +kernel
theorem dX8_make_64 : decode cX8_make 64 = .ok (.iload 8, 2) := by decide +kernel
theorem dX8_make_66 : decode cX8_make 66 = .ok (.invokevirtual 50, 3) := by decide +kernel
theorem dX8_make_69 : decode cX8_make 69 = .ok (.iload_n 2, 1) := by decide +kernel
theorem dX8_make_70 : decode cX8_make 70 = .ok (.if_icmp .ne 37, 3) := by decide +kernel
theorem dX8_make_73 : decode cX8_make 73 = .ok (.aload_n 0, 1) := by decide +kernel
theorem dX8_make_74 : decode cX8_make 74 = .ok (.getfield 22, 3) := by decide +kernel
theorem dX8_make_77 : decode cX8_make 77 = .ok (.iload 8, 2) := by decide +kernel
theorem dX8_make_79 : decode cX8_make 79 = .ok (.iconst 1, 1) := by decide +kernel
theorem dX8_make_80 : decode cX8_make 80 = .ok (.iadd, 1) := by decide +kernel
theorem dX8_make_81 : decode cX8_make 81 = .ok (.invokevirtual 50, 3) := by decide +kernel
theorem dX8_make_84 : decode cX8_make 84 = .ok (.iload_n 3, 1) := by decide +kernel
theorem dX8_make_85 : decode cX8_make 85 = .ok (.if_icmp .ne 22, 3) := by decide +kernel
theorem dX8_make_88 : decode cX8_make 88 = .ok (.aload_n 0, 1) := by decide +kernel
theorem dX8_make_89 : decode cX8_make 89 = .ok (.getfield 22, 3) := by decide +kernel
theorem dX8_make_92 : decode cX8_make 92 = .ok (.iload 8, 2) := by decide +kernel
theorem dX8_make_94 : decode cX8_make 94 = .ok (.iconst 2, 1) := by decide +kernel
theorem dX8_make_95 : decode cX8_make 95 = .ok (.iadd, 1) := by decide +kernel
theorem dX8_make_96 : decode cX8_make 96 = .ok (.invokevirtual 50, 3) := by decide +kernel
theorem dX8_make_99 : decode cX8_make 99 = .ok (.iload 4, 2) := by decide +kernel
theorem dX8_make_101 : decode cX8_make 101 = .ok (.if_icmp .ne 6, 3) := by decide +kernel
theorem dX8_make_104 : decode cX8_make 104 = .ok (.iload 6, 2) := by decide +kernel
theorem dX8_make_106 : decode cX8_make 106 = .ok (.ireturn, 1) := by decide +kernel
theorem dX8_make_107 : decode cX8_make 107 = .ok (.aload_n 0, 1) := by decide +kernel
theorem dX8_make_108 : decode cX8_make 108 = .ok (.getfield 31, 3) := by decide +kernel
theorem dX8_make_111 : decode cX8_make 111 = .ok (.iload 6, 2) := by decide +kernel
theorem dX8_make_113 : decode cX8_make 113 = .ok (.invokevirtual 50, 3) := by decide +kernel
theorem dX8_make_116 : decode cX8_make 116 = .ok (.iconst 1, 1) := by decide +kernel
theorem dX8_make_117 : decode cX8_make 117 = .ok (.isub, 1) := by decide +kernel
theorem dX8_make_118 : decode cX8_make 118 = .ok (.istore 6, 2) := by decide +kernel
theorem dX8_make_120 : decode cX8_make 120 = .ok (.iinc 7 1, 3) := by decide +kernel
theorem dX8_make_123 : decode cX8_make 123 = .ok (.goto (-96), 3) := by decide +kernel
theorem dX8_make_126 : decode cX8_make 126 = .ok (.aload_n 0, 1) := by decide +kernel
theorem dX8_make_127 : decode cX8_make 127 = .ok (.iload_n 1, 1) := by decide +kernel
theorem dX8_make_128 : decode cX8_make 128 = .ok (.iload_n 2, 1) := by decide +kernel
theorem dX8_make_129 : decode cX8_make 129 = .ok (.iload_n 3, 1) := by decide +kernel
theorem dX8_make_130 : decode cX8_make 130 = .ok (.iload 4, 2) := by decide +kernel
theorem dX8_make_132 : decode cX8_make 132 = .ok (.iload 5, 2) := by decide +kernel
theorem dX8_make_134 : decode cX8_make 134 = .ok (.invokevirtual 79, 3) := by decide +kernel
theorem dX8_make_137 : decode cX8_make 137 = .ok (.ireturn, 1) := by decide +kernel
theorem dX8_number_0 : decode cX8_number 0 = .ok (.aload_n 0, 1) := by decide +kernel
theorem dX8_number_1 : decode cX8_number 1 = .ok (.getfield 28, 3) := by decide +kernel
theorem dX8_number_4 : decode cX8_number 4 = .ok (.iload_n 1, 1) := by decide +kernel
theorem dX8_number_5 : decode cX8_number 5 = .ok (.invokevirtual 50, 3) := by decide +kernel
theorem dX8_number_8 : decode cX8_number 8 = .ok (.iconst 1, 1) := by decide +kernel
theorem dX8_number_9 : decode cX8_number 9 = .ok (.isub, 1) := by decide +kernel
theorem dX8_number_10 : decode cX8_number 10 = .ok (.ireturn, 1) := by decide +kernel
theorem dX8_part_0 : decode cX8_part 0 = .ok (.iload_n 1, 1) := by decide +kernel
theorem dX8_part_1 : decode cX8_part 1 = .ok (.ifCond .ge 7, 3) := by decide +kernel
theorem dX8_part_4 : decode cX8_part 4 = .ok (.iconst (-1), 1) := by decide +kernel
theorem dX8_part_5 : decode cX8_part 5 = .ok (.goto 15, 3) := by decide +kernel
theorem dX8_part_8 : decode cX8_part 8 = .ok (.aload_n 0, 1) := by decide +kernel
theorem dX8_part_9 : decode cX8_part 9 = .ok (.getfield 22, 3) := by decide +kernel
theorem dX8_part_12 : decode cX8_part 12 = .ok (.iconst 3, 1) := by decide +kernel
theorem dX8_part_13 : decode cX8_part 13 = .ok (.iload_n 1, 1) := by decide +kernel
theorem dX8_part_14 : decode cX8_part 14 = .ok (.imul, 1) := by decide +kernel
theorem dX8_part_15 : decode cX8_part 15 = .ok (.iload_n 2, 1) := by decide +kernel
theorem dX8_part_16 : decode cX8_part 16 = .ok (.iadd, 1) := by decide +kernel
theorem dX8_part_17 : decode cX8_part 17 = .ok (.invokevirtual 50, 3) := by decide +kernel
theorem dX8_part_20 : decode cX8_part 20 = .ok (.ireturn, 1) := by decide +kernel
theorem dX8_setNumber_0 : decode cX8_setNumber 0 = .ok (.aload_n 0, 1) := by decide +kernel
theorem dX8_setNumber_1 : decode cX8_setNumber 1 = .ok (.getfield 28, 3) := by decide +kernel
theorem dX8_setNumber_4 : decode cX8_setNumber 4 = .ok (.iload_n 1, 1) := by decide +kernel
theorem dX8_setNumber_5 : decode cX8_setNumber 5 = .ok (.iload_n 2, 1) := by decide +kernel
theorem dX8_setNumber_6 : decode cX8_setNumber 6 = .ok (.iconst 1, 1) := by decide +kernel
theorem dX8_setNumber_7 : decode cX8_setNumber 7 = .ok (.iadd, 1) := by decide +kernel
theorem dX8_setNumber_8 : decode cX8_setNumber 8 = .ok (.invokevirtual 68, 3) := by decide +kernel
theorem dX8_setNumber_11 : decode cX8_setNumber 11 = .ok (.return_, 1) := by decide +kernel
theorem dX8_symbol_0 : decode cX8_symbol 0 = .ok (.aload_n 0, 1) := by decide +kernel
theorem dX8_symbol_1 : decode cX8_symbol 1 = .ok (.getfield 15, 3) := by decide +kernel
theorem dX8_symbol_4 : decode cX8_symbol 4 = .ok (.iload_n 1, 1) := by decide +kernel
theorem dX8_symbol_5 : decode cX8_symbol 5 = .ok (.invokevirtual 50, 3) := by decide +kernel
theorem dX8_symbol_8 : decode cX8_symbol 8 = .ok (.ireturn, 1) := by decide +kernel
theorem dX8_width_0 : decode cX8_width 0 = .ok (.aload_n 0, 1) := by decide +kernel
theorem dX8_width_1 : decode cX8_width 1 = .ok (.getfield 25, 3) := by decide +kernel
theorem dX8_width_4 : decode cX8_width 4 = .ok (.iload_n 1, 1) := by decide +kernel
theorem dX8_width_5 : decode cX8_width 5 = .ok (.invokevirtual 50, 3) := by decide +kernel
theorem dX8_width_8 : decode cX8_width 8 = .ok (.bipush 9, 2) := by decide +kernel
theorem dX8_width_10 : decode cX8_width 10 = .ok (.iushr, 1) := by decide +kernel
theorem dX8_width_11 : decode cX8_width 11 = .ok (.ireturn, 1) := by decide +kernel
theorem dX9_addEquation_0 : decode cX9_addEquation 0 = .ok (.aload_n 0, 1) := by decide +kernel
theorem dX9_addEquation_1 : decode cX9_addEquation 1 = .ok (.getfield 71, 3) := by decide +kernel
theorem dX9_addEquation_4 : decode cX9_addEquation 4 = .ok (.ifCond .lt 42, 3) := by decide +kernel
theorem dX9_addEquation_7 : decode cX9_addEquation 7 = .ok (.aload_n 0, 1) := by decide +kernel
theorem dX9_addEquation_8 : decode cX9_addEquation 8 = .ok (.getfield 71, 3) := by decide +kernel
